/-! PLACES: costs, counts, the least and the greatest -/
def sumN (c : Int → Int) (l : Int) (n : Nat) : Int := match n with
  | 0 => 0
  | n + 1 => c l + sumN c (l + 1) n
/-- c l + .. + c (k - 1) -/
def sumI (c : Int → Int) (l k : Int) : Int := sumN c l (k - l).toNat
theorem sumI_ge {c : Int → Int} {l k : Int} (h : k ≤ l) : sumI c l k = 0 := by
  unfold sumI
  rw [show (k - l).toNat = 0 by omega]
  rfl
theorem sumI_lt {c : Int → Int} {l k : Int} (h : l < k) : sumI c l k = c l + sumI c (l + 1) k := by
  unfold sumI
  rw [show (k - l).toNat = (k - (l + 1)).toNat + 1 by omega]
  rfl
theorem sumI_r {c : Int → Int} {k B : Int} (hc : ∀ j, 0 ≤ j → j < k → 0 ≤ c j ∧ c j ≤ B) : ∀ l, l ≤ k → 0 ≤ l → 0 ≤ sumI c l k ∧ sumI c l k ≤ B * (k - l) := by
  refine up_ind (fun l hl ih h0 => ?_)
  rcases Int.lt_or_le l k with h | h
  · rw [sumI_lt h]
    have h1 := ih h (by omega)
    have h2 := hc l h0 h
    have h3 : B * (k - l) = B * (k - (l + 1)) + B := by
      have : k - l = (k - (l + 1)) + 1 := by omega
      rw [this, Int.mul_add, Int.mul_one]
    omega
  · rw [sumI_ge h]
    have : k - l = 0 := by omega
    rw [this]
    omega
theorem sumI_congr {c c' : Int → Int} {k : Int} (hc : ∀ j, 0 ≤ j → j < k → c j = c' j) : ∀ l, l ≤ k → 0 ≤ l → sumI c l k = sumI c' l k := by
  refine up_ind (fun l hl ih h0 => ?_)
  rcases Int.lt_or_le l k with h | h
  · rw [sumI_lt h, sumI_lt h, hc l h0 h, ih h (by omega)]
  · rw [sumI_ge h, sumI_ge h]
def wghP (fr to ps : Int → Int) (l : Int) : Prop := fr l ≠ to l ∧ ps (fr l) ≠ 0 ∧ ps (to l) ≠ 0
noncomputable def clS (n : Int) (fr di to ps xs ys ls : Int → Int) (l : Int) : Int := @ite _ (wghP fr to ps l) (Classical.propDecidable _) (if 0 < strS n ps xs ys ls (fr l) (di l) (to l) then strS n ps xs ys ls (fr l) (di l) (to l) - 1 else 10) 0
theorem clS_r (n : Int) (fr di to ps xs ys ls : Int → Int) (l : Int) : 0 ≤ clS n fr di to ps xs ys ls l ∧ clS n fr di to ps xs ys ls l ≤ 60 := by
  have := strS_r n ps xs ys ls (fr l) (di l) (to l)
  unfold clS
  split
  · split <;> omega
  · omega
/-- no link costs as much as 60 -/
theorem clS_59 (n : Int) (fr di to ps xs ys ls : Int → Int) (l : Int) : 0 ≤ clS n fr di to ps xs ys ls l ∧ clS n fr di to ps xs ys ls l ≤ 59 := by
  have := strS_r n ps xs ys ls (fr l) (di l) (to l)
  unfold clS
  split
  · split <;> omega
  · omega
noncomputable def costS (n k : Int) (fr di to ps xs ys ls : Int → Int) : Int := sumI (clS n fr di to ps xs ys ls) 0 k
noncomputable def blS (n : Int) (fr di to ps xs ys ls : Int → Int) (l : Int) : Int := @ite _ (wghP fr to ps l ∧ strS n ps xs ys ls (fr l) (di l) (to l) = 0) (Classical.propDecidable _) 1 0
theorem blS_r (n : Int) (fr di to ps xs ys ls : Int → Int) (l : Int) : 0 ≤ blS n fr di to ps xs ys ls l ∧ blS n fr di to ps xs ys ls l ≤ 1 := by
  unfold blS
  split <;> omega
noncomputable def bentS (n k : Int) (fr di to ps xs ys ls : Int → Int) : Int := sumI (blS n fr di to ps xs ys ls) 0 k
def cpl (ps : Int → Int) (r : Int) : Int := if ps r ≠ 0 then 1 else 0
def cntP (n : Int) (ps : Int → Int) : Int := sumI (cpl ps) 0 n
theorem cpl_r (ps : Int → Int) (r : Int) : 0 ≤ cpl ps r ∧ cpl ps r ≤ 1 := by
  unfold cpl
  split <;> omega
theorem c_X2_costBelow_3 (t : Sto) (m : Int) (hS : SC t) (hX : BD (t 18)) (hY : BD (t 19)) (hL : BD (t 20)) : CT yX2_costBelow cX2_costBelow 5 (some .int) 2 [mP 3, mI m] t (fun a t' => ∃ x, a = some (mI x) ∧ ((x = costS (t 267 0) (t 272 0) (t 13) (t 14) (t 15) (t 21) (t 18) (t 19) (t 20) ∨ (m ≤ x ∧ m ≤ costS (t 267 0) (t 272 0) (t 13) (t 14) (t 15) (t 21) (t 18) (t 19) (t 20))) ∧ t' = t)) := by
  refine CT_of rfl rfl (Nat.le_of_ble_eq_true rfl) (fun E ht has => ?_)
  have hb := hS.1
  obtain ⟨c, hc⟩ : ∃ c, c = clS (t 267 0) (t 13) (t 14) (t 15) (t 21) (t 18) (t 19) (t 20) := ⟨_, rfl⟩
  have hcr : ∀ l, 0 ≤ c l ∧ c l ≤ 60 := by intro l; rw [hc]; exact clS_r _ _ _ _ _ _ _ _ l
  unfold costS
  rw [← hc]
  have loop : ∀ l, l ≤ t 272 0 → ∀ (s : Int) (o4 : Option MV), 0 ≤ l → (0 ≤ s ∧ s ≤ 60 * l) → s + sumI c l (t 272 0) = sumI c 0 (t 272 0) → G E cX2_costBelow RX2 (some .int) 2 4 [some (mP 3), some (mI m), some (mI s), some (mI l), o4] [] t (fun a t' => ∃ x, a = some (mI x) ∧ ((x = sumI c 0 (t 272 0) ∨ (m ≤ x ∧ m ≤ sumI c 0 (t 272 0))) ∧ t' = t)) := by
    refine up_ind (fun l hl ih s o4 h0 hs hX0 => ?_)
    have hsr := sumI_r (c := c) (k := t 272 0) (B := 60) (fun j _ _ => hcr j) l hl h0
    have hstr := strS_r (t 267 0) (t 21) (t 18) (t 19) (t 20) (t 13 l) (t 14 l) (t 15 l)
    refine G_iload_n (pc := 4) dX2_costBelow_4 rfl ?_
    refine G_aload_n (pc := 5) dX2_costBelow_5 rfl ?_
    refine G_getP (pc := 6) dX2_costBelow_6 fk_X2_25 rfl rfl rfl ?_
    refine G_getI (pc := 9) dX2_costBelow_9 fk_X2_48 rfl rfl rfl ?_
    refine G_icmp_ge (pc := 12) (tgt := 58) dX2_costBelow_12 rfl (fun h_12 => ?_) (fun h_12 => ?_)
    · refine G_iload_n (pc := 58) dX2_costBelow_58 rfl ?_
      exact G_ireturn (pc := 59) dX2_costBelow_59 ⟨_, rfl, by
        rcases Int.lt_or_le l (t 272 0) with h9 | h9
        · right; omega
        · left; rw [sumI_ge h9] at hX0; omega, rfl⟩
    · refine G_iload_n (pc := 15) dX2_costBelow_15 rfl ?_
      refine G_iload_n (pc := 16) dX2_costBelow_16 rfl ?_
      refine G_icmp_ge (pc := 17) (tgt := 58) dX2_costBelow_17 rfl (fun h_17 => ?_) (fun h_17 => ?_)
      · refine G_iload_n (pc := 58) dX2_costBelow_58 rfl ?_
        exact G_ireturn (pc := 59) dX2_costBelow_59 ⟨_, rfl, by
          rcases Int.lt_or_le l (t 272 0) with h9 | h9
          · right; omega
          · left; rw [sumI_ge h9] at hX0; omega, rfl⟩
      · refine G_aload_n (pc := 20) dX2_costBelow_20 rfl ?_
        refine G_iload_n (pc := 21) dX2_costBelow_21 rfl ?_
        refine G_cV1 (pc := 22) (c_X2_isWeighed_3 _ _ (by exact hS) (by omega)) dX2_costBelow_22 ml_X2_51 rfl rfl rfl (by decide) (Nat.le_of_ble_eq_true rfl) ?_
        refine G_if_eq (pc := 25) (tgt := 52) dX2_costBelow_25 rfl (fun h_25 => ?_) (fun h_25 => ?_)
        · try simp only [bq0, ne_eq, Classical.not_not] at h_25
          have ec : c l = 0 := by rw [hc]; unfold clS; exact if_neg (fun q => h_25 q)
          refine G_iinc (pc := 52) dX2_costBelow_52 rfl rfl (by omega) ?_
          refine G_goto (pc := 55) (tgt := 4) dX2_costBelow_55 rfl ?_
          rw [sumI_lt (by omega)] at hX0
          exact ih (by omega) _ _ (by omega) (by omega) (by omega)
        · try simp only [bq0, ne_eq, Classical.not_not] at h_25
          have hw : wghP (t 13) (t 15) (t 21) l := h_25
          refine G_aload_n (pc := 28) dX2_costBelow_28 rfl ?_
          refine G_iload_n (pc := 29) dX2_costBelow_29 rfl ?_
          refine G_cV1 (pc := 30) (c_X2_straightLength_3 _ _ (by exact hS) (by omega) (by exact hX) (by exact hY) (by exact hL)) dX2_costBelow_30 ml_X2_55 rfl rfl rfl (by decide) (Nat.le_of_ble_eq_true rfl) ?_
          refine G_istore (pc := 33) dX2_costBelow_33 (Nat.le_of_ble_eq_true rfl) rfl ?_
          refine G_iload_n (pc := 35) dX2_costBelow_35 rfl ?_
          refine G_iload (pc := 36) dX2_costBelow_36 rfl ?_
          refine G_if_le (pc := 38) (tgt := 48) dX2_costBelow_38 rfl (fun h_38 => ?_) (fun h_38 => ?_)
          · have ec : c l = 10 := by rw [hc]; unfold clS; rw [if_pos hw, if_neg (by omega)]
            refine G_bipush (pc := 48) (x := 10) dX2_costBelow_48 rfl (by decide) ?_
            refine G_iadd (pc := 50) dX2_costBelow_50 (by omega) ?_
            refine G_istore_n (pc := 51) dX2_costBelow_51 (Nat.le_of_ble_eq_true rfl) rfl ?_
            refine G_iinc (pc := 52) dX2_costBelow_52 rfl rfl (by omega) ?_
            refine G_goto (pc := 55) (tgt := 4) dX2_costBelow_55 rfl ?_
            rw [sumI_lt (by omega)] at hX0
            exact ih (by omega) _ _ (by omega) (by omega) (by omega)
          · have ec : c l = strS (t 267 0) (t 21) (t 18) (t 19) (t 20) (t 13 l) (t 14 l) (t 15 l) - 1 := by rw [hc]; unfold clS; rw [if_pos hw, if_pos (by omega)]
            refine G_iload (pc := 41) dX2_costBelow_41 rfl ?_
            refine G_iconst (pc := 43) dX2_costBelow_43 (by decide) ?_
            refine G_isub (pc := 44) dX2_costBelow_44 (by omega) ?_
            refine G_goto (pc := 45) (tgt := 50) dX2_costBelow_45 rfl ?_
            refine G_iadd (pc := 50) dX2_costBelow_50 (by omega) ?_
            refine G_istore_n (pc := 51) dX2_costBelow_51 (Nat.le_of_ble_eq_true rfl) rfl ?_
            refine G_iinc (pc := 52) dX2_costBelow_52 rfl rfl (by omega) ?_
            refine G_goto (pc := 55) (tgt := 4) dX2_costBelow_55 rfl ?_
            rw [sumI_lt (by omega)] at hX0
            exact ih (by omega) _ _ (by omega) (by omega) (by omega)
  refine G_iconst (pc := 0) dX2_costBelow_0 (by decide) ?_
  refine G_istore_n (pc := 1) dX2_costBelow_1 (Nat.le_of_ble_eq_true rfl) rfl ?_
  refine G_iconst (pc := 2) dX2_costBelow_2 (by decide) ?_
  refine G_istore_n (pc := 3) dX2_costBelow_3 (Nat.le_of_ble_eq_true rfl) rfl ?_
  exact loop 0 (by omega) 0 _ (by omega) (by omega) (by omega)
theorem c_X2_bentLinks_3 (t : Sto) (hS : SC t) (hX : BD (t 18)) (hY : BD (t 19)) (hL : BD (t 20)) : CT yX2_bentLinks cX2_bentLinks 3 (some .int) 2 [mP 3] t (fun a t' => a = some (mI (bentS (t 267 0) (t 272 0) (t 13) (t 14) (t 15) (t 21) (t 18) (t 19) (t 20))) ∧ t' = t) := by
  refine CT_of rfl rfl (Nat.le_of_ble_eq_true rfl) (fun E ht has => ?_)
  have hb := hS.1
  obtain ⟨c, hc⟩ : ∃ c, c = blS (t 267 0) (t 13) (t 14) (t 15) (t 21) (t 18) (t 19) (t 20) := ⟨_, rfl⟩
  unfold bentS
  rw [← hc]
  have loop : ∀ l, l ≤ t 272 0 → ∀ (s : Int), 0 ≤ l → (0 ≤ s ∧ s ≤ l) → s + sumI c l (t 272 0) = sumI c 0 (t 272 0) → G E cX2_bentLinks RX2 (some .int) 2 4 [some (mP 3), some (mI s), some (mI l)] [] t (fun a t' => a = some (mI (sumI c 0 (t 272 0))) ∧ t' = t) := by
    refine up_ind (fun l hl ih s h0 hs hX0 => ?_)
    refine G_iload_n (pc := 4) dX2_bentLinks_4 rfl ?_
    refine G_aload_n (pc := 5) dX2_bentLinks_5 rfl ?_
    refine G_getP (pc := 6) dX2_bentLinks_6 fk_X2_25 rfl rfl rfl ?_
    refine G_getI (pc := 9) dX2_bentLinks_9 fk_X2_48 rfl rfl rfl ?_
    refine G_icmp_ge (pc := 12) (tgt := 40) dX2_bentLinks_12 rfl (fun h_12 => ?_) (fun h_12 => ?_)
    · refine G_iload_n (pc := 40) dX2_bentLinks_40 rfl ?_
      exact G_ireturn (pc := 41) dX2_bentLinks_41 (qeq (by rw [sumI_ge (by omega)] at hX0; omega))
    · refine G_aload_n (pc := 15) dX2_bentLinks_15 rfl ?_
      refine G_iload_n (pc := 16) dX2_bentLinks_16 rfl ?_
      refine G_cV1 (pc := 17) (c_X2_isWeighed_3 _ _ (by exact hS) (by omega)) dX2_bentLinks_17 ml_X2_51 rfl rfl rfl (by decide) (Nat.le_of_ble_eq_true rfl) ?_
      refine G_if_eq (pc := 20) (tgt := 34) dX2_bentLinks_20 rfl (fun h_20 => ?_) (fun h_20 => ?_)
      · try simp only [bq0, ne_eq, Classical.not_not] at h_20
        have ec : c l = 0 := by rw [hc]; unfold blS; rw [if_neg (fun q => h_20 q.1)]
        refine G_iinc (pc := 34) dX2_bentLinks_34 rfl rfl (by omega) ?_
        refine G_goto (pc := 37) (tgt := 4) dX2_bentLinks_37 rfl ?_
        rw [sumI_lt (by omega)] at hX0
        exact ih (by omega) _ (by omega) (by omega) (by omega)
      · try simp only [bq0, ne_eq, Classical.not_not] at h_20
        have hw : wghP (t 13) (t 15) (t 21) l := h_20
        refine G_aload_n (pc := 23) dX2_bentLinks_23 rfl ?_
        refine G_iload_n (pc := 24) dX2_bentLinks_24 rfl ?_
        refine G_cV1 (pc := 25) (c_X2_straightLength_3 _ _ (by exact hS) (by omega) (by exact hX) (by exact hY) (by exact hL)) dX2_bentLinks_25 ml_X2_55 rfl rfl rfl (by decide) (Nat.le_of_ble_eq_true rfl) ?_
        refine G_if_ne (pc := 28) (tgt := 34) dX2_bentLinks_28 rfl (fun h_28 => ?_) (fun h_28 => ?_)
        · try simp only [bq0, ne_eq, Classical.not_not] at h_28
          have ec : c l = 0 := by rw [hc]; unfold blS; rw [if_neg (fun q => h_28 q.2)]
          refine G_iinc (pc := 34) dX2_bentLinks_34 rfl rfl (by omega) ?_
          refine G_goto (pc := 37) (tgt := 4) dX2_bentLinks_37 rfl ?_
          rw [sumI_lt (by omega)] at hX0
          exact ih (by omega) _ (by omega) (by omega) (by omega)
        · try simp only [bq0, ne_eq, Classical.not_not] at h_28
          have ec : c l = 1 := by rw [hc]; unfold blS; rw [if_pos ⟨hw, h_28⟩]
          refine G_iinc (pc := 31) dX2_bentLinks_31 rfl rfl (by omega) ?_
          refine G_iinc (pc := 34) dX2_bentLinks_34 rfl rfl (by omega) ?_
          refine G_goto (pc := 37) (tgt := 4) dX2_bentLinks_37 rfl ?_
          rw [sumI_lt (by omega)] at hX0
          exact ih (by omega) _ (by omega) (by omega) (by omega)
  refine G_iconst (pc := 0) dX2_bentLinks_0 (by decide) ?_
  refine G_istore_n (pc := 1) dX2_bentLinks_1 (Nat.le_of_ble_eq_true rfl) rfl ?_
  refine G_iconst (pc := 2) dX2_bentLinks_2 (by decide) ?_
  refine G_istore_n (pc := 3) dX2_bentLinks_3 (Nat.le_of_ble_eq_true rfl) rfl ?_
  exact loop 0 (by omega) 0 (by omega) (by omega) (by omega)
theorem c_X2_costBelow_4 (t : Sto) (m : Int) (hS : SC t) (hX : BD (t 22)) (hY : BD (t 23)) (hL : BD (t 24)) : CT yX2_costBelow cX2_costBelow 5 (some .int) 2 [mP 4, mI m] t (fun a t' => ∃ x, a = some (mI x) ∧ ((x = costS (t 267 0) (t 272 0) (t 13) (t 14) (t 15) (t 25) (t 22) (t 23) (t 24) ∨ (m ≤ x ∧ m ≤ costS (t 267 0) (t 272 0) (t 13) (t 14) (t 15) (t 25) (t 22) (t 23) (t 24))) ∧ t' = t)) := by
  refine CT_of rfl rfl (Nat.le_of_ble_eq_true rfl) (fun E ht has => ?_)
  have hb := hS.1
  obtain ⟨c, hc⟩ : ∃ c, c = clS (t 267 0) (t 13) (t 14) (t 15) (t 25) (t 22) (t 23) (t 24) := ⟨_, rfl⟩
  have hcr : ∀ l, 0 ≤ c l ∧ c l ≤ 60 := by intro l; rw [hc]; exact clS_r _ _ _ _ _ _ _ _ l
  unfold costS
  rw [← hc]
  have loop : ∀ l, l ≤ t 272 0 → ∀ (s : Int) (o4 : Option MV), 0 ≤ l → (0 ≤ s ∧ s ≤ 60 * l) → s + sumI c l (t 272 0) = sumI c 0 (t 272 0) → G E cX2_costBelow RX2 (some .int) 2 4 [some (mP 4), some (mI m), some (mI s), some (mI l), o4] [] t (fun a t' => ∃ x, a = some (mI x) ∧ ((x = sumI c 0 (t 272 0) ∨ (m ≤ x ∧ m ≤ sumI c 0 (t 272 0))) ∧ t' = t)) := by
    refine up_ind (fun l hl ih s o4 h0 hs hX0 => ?_)
    have hsr := sumI_r (c := c) (k := t 272 0) (B := 60) (fun j _ _ => hcr j) l hl h0
    have hstr := strS_r (t 267 0) (t 25) (t 22) (t 23) (t 24) (t 13 l) (t 14 l) (t 15 l)
    refine G_iload_n (pc := 4) dX2_costBelow_4 rfl ?_
    refine G_aload_n (pc := 5) dX2_costBelow_5 rfl ?_
    refine G_getP (pc := 6) dX2_costBelow_6 fk_X2_25 rfl rfl rfl ?_
    refine G_getI (pc := 9) dX2_costBelow_9 fk_X2_48 rfl rfl rfl ?_
    refine G_icmp_ge (pc := 12) (tgt := 58) dX2_costBelow_12 rfl (fun h_12 => ?_) (fun h_12 => ?_)
    · refine G_iload_n (pc := 58) dX2_costBelow_58 rfl ?_
      exact G_ireturn (pc := 59) dX2_costBelow_59 ⟨_, rfl, by
        rcases Int.lt_or_le l (t 272 0) with h9 | h9
        · right; omega
        · left; rw [sumI_ge h9] at hX0; omega, rfl⟩
    · refine G_iload_n (pc := 15) dX2_costBelow_15 rfl ?_
      refine G_iload_n (pc := 16) dX2_costBelow_16 rfl ?_
      refine G_icmp_ge (pc := 17) (tgt := 58) dX2_costBelow_17 rfl (fun h_17 => ?_) (fun h_17 => ?_)
      · refine G_iload_n (pc := 58) dX2_costBelow_58 rfl ?_
        exact G_ireturn (pc := 59) dX2_costBelow_59 ⟨_, rfl, by
          rcases Int.lt_or_le l (t 272 0) with h9 | h9
          · right; omega
          · left; rw [sumI_ge h9] at hX0; omega, rfl⟩
      · refine G_aload_n (pc := 20) dX2_costBelow_20 rfl ?_
        refine G_iload_n (pc := 21) dX2_costBelow_21 rfl ?_
        refine G_cV1 (pc := 22) (c_X2_isWeighed_4 _ _ (by exact hS) (by omega)) dX2_costBelow_22 ml_X2_51 rfl rfl rfl (by decide) (Nat.le_of_ble_eq_true rfl) ?_
        refine G_if_eq (pc := 25) (tgt := 52) dX2_costBelow_25 rfl (fun h_25 => ?_) (fun h_25 => ?_)
        · try simp only [bq0, ne_eq, Classical.not_not] at h_25
          have ec : c l = 0 := by rw [hc]; unfold clS; exact if_neg (fun q => h_25 q)
          refine G_iinc (pc := 52) dX2_costBelow_52 rfl rfl (by omega) ?_
          refine G_goto (pc := 55) (tgt := 4) dX2_costBelow_55 rfl ?_
          rw [sumI_lt (by omega)] at hX0
          exact ih (by omega) _ _ (by omega) (by omega) (by omega)
        · try simp only [bq0, ne_eq, Classical.not_not] at h_25
          have hw : wghP (t 13) (t 15) (t 25) l := h_25
          refine G_aload_n (pc := 28) dX2_costBelow_28 rfl ?_
          refine G_iload_n (pc := 29) dX2_costBelow_29 rfl ?_
          refine G_cV1 (pc := 30) (c_X2_straightLength_4 _ _ (by exact hS) (by omega) (by exact hX) (by exact hY) (by exact hL)) dX2_costBelow_30 ml_X2_55 rfl rfl rfl (by decide) (Nat.le_of_ble_eq_true rfl) ?_
          refine G_istore (pc := 33) dX2_costBelow_33 (Nat.le_of_ble_eq_true rfl) rfl ?_
          refine G_iload_n (pc := 35) dX2_costBelow_35 rfl ?_
          refine G_iload (pc := 36) dX2_costBelow_36 rfl ?_
          refine G_if_le (pc := 38) (tgt := 48) dX2_costBelow_38 rfl (fun h_38 => ?_) (fun h_38 => ?_)
          · have ec : c l = 10 := by rw [hc]; unfold clS; rw [if_pos hw, if_neg (by omega)]
            refine G_bipush (pc := 48) (x := 10) dX2_costBelow_48 rfl (by decide) ?_
            refine G_iadd (pc := 50) dX2_costBelow_50 (by omega) ?_
            refine G_istore_n (pc := 51) dX2_costBelow_51 (Nat.le_of_ble_eq_true rfl) rfl ?_
            refine G_iinc (pc := 52) dX2_costBelow_52 rfl rfl (by omega) ?_
            refine G_goto (pc := 55) (tgt := 4) dX2_costBelow_55 rfl ?_
            rw [sumI_lt (by omega)] at hX0
            exact ih (by omega) _ _ (by omega) (by omega) (by omega)
          · have ec : c l = strS (t 267 0) (t 25) (t 22) (t 23) (t 24) (t 13 l) (t 14 l) (t 15 l) - 1 := by rw [hc]; unfold clS; rw [if_pos hw, if_pos (by omega)]
            refine G_iload (pc := 41) dX2_costBelow_41 rfl ?_
            refine G_iconst (pc := 43) dX2_costBelow_43 (by decide) ?_
            refine G_isub (pc := 44) dX2_costBelow_44 (by omega) ?_
            refine G_goto (pc := 45) (tgt := 50) dX2_costBelow_45 rfl ?_
            refine G_iadd (pc := 50) dX2_costBelow_50 (by omega) ?_
            refine G_istore_n (pc := 51) dX2_costBelow_51 (Nat.le_of_ble_eq_true rfl) rfl ?_
            refine G_iinc (pc := 52) dX2_costBelow_52 rfl rfl (by omega) ?_
            refine G_goto (pc := 55) (tgt := 4) dX2_costBelow_55 rfl ?_
            rw [sumI_lt (by omega)] at hX0
            exact ih (by omega) _ _ (by omega) (by omega) (by omega)
  refine G_iconst (pc := 0) dX2_costBelow_0 (by decide) ?_
  refine G_istore_n (pc := 1) dX2_costBelow_1 (Nat.le_of_ble_eq_true rfl) rfl ?_
  refine G_iconst (pc := 2) dX2_costBelow_2 (by decide) ?_
  refine G_istore_n (pc := 3) dX2_costBelow_3 (Nat.le_of_ble_eq_true rfl) rfl ?_
  exact loop 0 (by omega) 0 _ (by omega) (by omega) (by omega)
theorem c_X2_bentLinks_4 (t : Sto) (hS : SC t) (hX : BD (t 22)) (hY : BD (t 23)) (hL : BD (t 24)) : CT yX2_bentLinks cX2_bentLinks 3 (some .int) 2 [mP 4] t (fun a t' => a = some (mI (bentS (t 267 0) (t 272 0) (t 13) (t 14) (t 15) (t 25) (t 22) (t 23) (t 24))) ∧ t' = t) := by
  refine CT_of rfl rfl (Nat.le_of_ble_eq_true rfl) (fun E ht has => ?_)
  have hb := hS.1
  obtain ⟨c, hc⟩ : ∃ c, c = blS (t 267 0) (t 13) (t 14) (t 15) (t 25) (t 22) (t 23) (t 24) := ⟨_, rfl⟩
  unfold bentS
  rw [← hc]
  have loop : ∀ l, l ≤ t 272 0 → ∀ (s : Int), 0 ≤ l → (0 ≤ s ∧ s ≤ l) → s + sumI c l (t 272 0) = sumI c 0 (t 272 0) → G E cX2_bentLinks RX2 (some .int) 2 4 [some (mP 4), some (mI s), some (mI l)] [] t (fun a t' => a = some (mI (sumI c 0 (t 272 0))) ∧ t' = t) := by
    refine up_ind (fun l hl ih s h0 hs hX0 => ?_)
    refine G_iload_n (pc := 4) dX2_bentLinks_4 rfl ?_
    refine G_aload_n (pc := 5) dX2_bentLinks_5 rfl ?_
    refine G_getP (pc := 6) dX2_bentLinks_6 fk_X2_25 rfl rfl rfl ?_
    refine G_getI (pc := 9) dX2_bentLinks_9 fk_X2_48 rfl rfl rfl ?_
    refine G_icmp_ge (pc := 12) (tgt := 40) dX2_bentLinks_12 rfl (fun h_12 => ?_) (fun h_12 => ?_)
    · refine G_iload_n (pc := 40) dX2_bentLinks_40 rfl ?_
      exact G_ireturn (pc := 41) dX2_bentLinks_41 (qeq (by rw [sumI_ge (by omega)] at hX0; omega))
    · refine G_aload_n (pc := 15) dX2_bentLinks_15 rfl ?_
      refine G_iload_n (pc := 16) dX2_bentLinks_16 rfl ?_
      refine G_cV1 (pc := 17) (c_X2_isWeighed_4 _ _ (by exact hS) (by omega)) dX2_bentLinks_17 ml_X2_51 rfl rfl rfl (by decide) (Nat.le_of_ble_eq_true rfl) ?_
      refine G_if_eq (pc := 20) (tgt := 34) dX2_bentLinks_20 rfl (fun h_20 => ?_) (fun h_20 => ?_)
      · try simp only [bq0, ne_eq, Classical.not_not] at h_20
        have ec : c l = 0 := by rw [hc]; unfold blS; rw [if_neg (fun q => h_20 q.1)]
        refine G_iinc (pc := 34) dX2_bentLinks_34 rfl rfl (by omega) ?_
        refine G_goto (pc := 37) (tgt := 4) dX2_bentLinks_37 rfl ?_
        rw [sumI_lt (by omega)] at hX0
        exact ih (by omega) _ (by omega) (by omega) (by omega)
      · try simp only [bq0, ne_eq, Classical.not_not] at h_20
        have hw : wghP (t 13) (t 15) (t 25) l := h_20
        refine G_aload_n (pc := 23) dX2_bentLinks_23 rfl ?_
        refine G_iload_n (pc := 24) dX2_bentLinks_24 rfl ?_
        refine G_cV1 (pc := 25) (c_X2_straightLength_4 _ _ (by exact hS) (by omega) (by exact hX) (by exact hY) (by exact hL)) dX2_bentLinks_25 ml_X2_55 rfl rfl rfl (by decide) (Nat.le_of_ble_eq_true rfl) ?_
        refine G_if_ne (pc := 28) (tgt := 34) dX2_bentLinks_28 rfl (fun h_28 => ?_) (fun h_28 => ?_)
        · try simp only [bq0, ne_eq, Classical.not_not] at h_28
          have ec : c l = 0 := by rw [hc]; unfold blS; rw [if_neg (fun q => h_28 q.2)]
          refine G_iinc (pc := 34) dX2_bentLinks_34 rfl rfl (by omega) ?_
          refine G_goto (pc := 37) (tgt := 4) dX2_bentLinks_37 rfl ?_
          rw [sumI_lt (by omega)] at hX0
          exact ih (by omega) _ (by omega) (by omega) (by omega)
        · try simp only [bq0, ne_eq, Classical.not_not] at h_28
          have ec : c l = 1 := by rw [hc]; unfold blS; rw [if_pos ⟨hw, h_28⟩]
          refine G_iinc (pc := 31) dX2_bentLinks_31 rfl rfl (by omega) ?_
          refine G_iinc (pc := 34) dX2_bentLinks_34 rfl rfl (by omega) ?_
          refine G_goto (pc := 37) (tgt := 4) dX2_bentLinks_37 rfl ?_
          rw [sumI_lt (by omega)] at hX0
          exact ih (by omega) _ (by omega) (by omega) (by omega)
  refine G_iconst (pc := 0) dX2_bentLinks_0 (by decide) ?_
  refine G_istore_n (pc := 1) dX2_bentLinks_1 (Nat.le_of_ble_eq_true rfl) rfl ?_
  refine G_iconst (pc := 2) dX2_bentLinks_2 (by decide) ?_
  refine G_istore_n (pc := 3) dX2_bentLinks_3 (Nat.le_of_ble_eq_true rfl) rfl ?_
  exact loop 0 (by omega) 0 (by omega) (by omega) (by omega)
theorem c_X2_count_3 (t : Sto) (hn : 0 ≤ t 267 0 ∧ t 267 0 ≤ 24) : CT yX2_count cX2_count 3 (some .int) 0 [mP 3] t (fun a t' => a = some (mI (cntP (t 267 0) (t 21))) ∧ t' = t) := by
  refine CT_of rfl rfl (Nat.le_of_ble_eq_true rfl) (fun E ht has => ?_)
  unfold cntP
  have loop : ∀ l, l ≤ t 267 0 → ∀ (s : Int), 0 ≤ l → (0 ≤ s ∧ s ≤ l) → s + sumI (cpl (t 21)) l (t 267 0) = sumI (cpl (t 21)) 0 (t 267 0) → G E cX2_count RX2 (some .int) 0 4 [some (mP 3), some (mI s), some (mI l)] [] t (fun a t' => a = some (mI (sumI (cpl (t 21)) 0 (t 267 0))) ∧ t' = t) := by
    refine up_ind (fun l hl ih s h0 hs hX0 => ?_)
    refine G_iload_n (pc := 4) dX2_count_4 rfl ?_
    refine G_aload_n (pc := 5) dX2_count_5 rfl ?_
    refine G_getP (pc := 6) dX2_count_6 fk_X2_25 rfl rfl rfl ?_
    refine G_getI (pc := 9) dX2_count_9 fk_X2_29 rfl rfl rfl ?_
    refine G_icmp_ge (pc := 12) (tgt := 38) dX2_count_12 rfl (fun h_12 => ?_) (fun h_12 => ?_)
    · refine G_iload_n (pc := 38) dX2_count_38 rfl ?_
      exact G_ireturn (pc := 39) dX2_count_39 (qeq (by rw [sumI_ge (by omega)] at hX0; omega))
    · refine G_iload_n (pc := 15) dX2_count_15 rfl ?_
      refine G_aload_n (pc := 16) dX2_count_16 rfl ?_
      refine G_getP (pc := 17) dX2_count_17 fk_X2_21 rfl rfl rfl ?_
      refine G_iload_n (pc := 20) dX2_count_20 rfl ?_
      refine G_baload (pc := 21) dX2_count_21 rfl rfl (by omega) ?_
      refine G_if_eq (pc := 22) (tgt := 29) dX2_count_22 rfl (fun h_22 => ?_) (fun h_22 => ?_)
      · try simp only [bq0, ne_eq, Classical.not_not] at h_22
        have ec : cpl (t 21) l = 0 := by unfold cpl; rw [if_neg (by omega)]
        refine G_iconst (pc := 29) dX2_count_29 (by decide) ?_
        refine G_iadd (pc := 30) dX2_count_30 (by omega) ?_
        refine G_istore_n (pc := 31) dX2_count_31 (Nat.le_of_ble_eq_true rfl) rfl ?_
        refine G_iinc (pc := 32) dX2_count_32 rfl rfl (by omega) ?_
        refine G_goto (pc := 35) (tgt := 4) dX2_count_35 rfl ?_
        rw [sumI_lt (by omega)] at hX0
        exact ih (by omega) _ (by omega) (by omega) (by omega)
      · try simp only [bq0, ne_eq, Classical.not_not] at h_22
        have ec : cpl (t 21) l = 1 := by unfold cpl; rw [if_pos h_22]
        refine G_iconst (pc := 25) dX2_count_25 (by decide) ?_
        refine G_goto (pc := 26) (tgt := 30) dX2_count_26 rfl ?_
        refine G_iadd (pc := 30) dX2_count_30 (by omega) ?_
        refine G_istore_n (pc := 31) dX2_count_31 (Nat.le_of_ble_eq_true rfl) rfl ?_
        refine G_iinc (pc := 32) dX2_count_32 rfl rfl (by omega) ?_
        refine G_goto (pc := 35) (tgt := 4) dX2_count_35 rfl ?_
        rw [sumI_lt (by omega)] at hX0
        exact ih (by omega) _ (by omega) (by omega) (by omega)
  refine G_iconst (pc := 0) dX2_count_0 (by decide) ?_
  refine G_istore_n (pc := 1) dX2_count_1 (Nat.le_of_ble_eq_true rfl) rfl ?_
  refine G_iconst (pc := 2) dX2_count_2 (by decide) ?_
  refine G_istore_n (pc := 3) dX2_count_3 (Nat.le_of_ble_eq_true rfl) rfl ?_
  exact loop 0 (by omega) 0 (by omega) (by omega) (by omega)
def lowStep (ps f : Int → Int) (r : Int) (q : Int × Int) : Int × Int := if ps r ≠ 0 then (1, if q.1 = 0 ∨ f r < q.2 then f r else q.2) else q
def lowS (n : Int) (ps f : Int → Int) : Int := (itr (lowStep ps f) 0 n (0, 0)).2
def higStep (ps f : Int → Int) (r : Int) (q : Int × Int) : Int × Int := if ps r ≠ 0 then (1, if q.1 = 0 ∨ q.2 < f r then f r else q.2) else q
def higS (n : Int) (ps f : Int → Int) : Int := (itr (higStep ps f) 0 n (0, 0)).2
theorem c_X2_lowest_3_18 (t : Sto) (hn : 0 ≤ t 267 0 ∧ t 267 0 ≤ 24) : CT yX2_lowest cX2_lowest 4 (some .int) 0 [mP 3, mP 18] t (fun a t' => a = some (mI (lowS (t 267 0) (t 21) (t 18))) ∧ t' = t) := by
  refine CT_of rfl rfl (Nat.le_of_ble_eq_true rfl) (fun E ht has => ?_)
  have loop : ∀ r, r ≤ t 267 0 → ∀ (m : Int) (q : Int × Int), 0 ≤ r → ((q.1 = 0 ∧ m = -2 ∧ q.2 = 0) ∨ (q.1 = 1 ∧ (0 ≤ m ∧ m < r) ∧ t 18 m = q.2)) → (itr (lowStep (t 21) (t 18)) r (t 267 0) q).2 = lowS (t 267 0) (t 21) (t 18) → G E cX2_lowest RX2 (some .int) 0 5 [some (mP 3), some (mP 18), some (mI m), some (mI r)] [] t (fun a t' => a = some (mI (lowS (t 267 0) (t 21) (t 18))) ∧ t' = t) := by
    refine up_ind (fun r hr ih m q h0 hq hX => ?_)
    refine G_iload_n (pc := 5) dX2_lowest_5 rfl ?_
    refine G_aload_n (pc := 6) dX2_lowest_6 rfl ?_
    refine G_getP (pc := 7) dX2_lowest_7 fk_X2_25 rfl rfl rfl ?_
    refine G_getI (pc := 10) dX2_lowest_10 fk_X2_29 rfl rfl rfl ?_
    refine G_icmp_ge (pc := 13) (tgt := 46) dX2_lowest_13 rfl (fun h_13 => ?_) (fun h_13 => ?_)
    · refine G_iload_n (pc := 46) dX2_lowest_46 rfl ?_
      refine G_if_ge (pc := 47) (tgt := 54) dX2_lowest_47 rfl (fun h_47 => ?_) (fun h_47 => ?_)
      · refine G_aload_n (pc := 54) dX2_lowest_54 rfl ?_
        refine G_iload_n (pc := 55) dX2_lowest_55 rfl ?_
        refine G_iaload (pc := 56) dX2_lowest_56 rfl rfl (by omega) ?_
        exact G_ireturn (pc := 57) dX2_lowest_57 (qeq (by rw [itr_ge (by omega)] at hX; rcases hq with ⟨q1, q2, q3⟩ | ⟨q1, q2, q3⟩ <;> omega))
      · refine G_iconst (pc := 50) dX2_lowest_50 (by decide) ?_
        refine G_goto (pc := 51) (tgt := 57) dX2_lowest_51 rfl ?_
        exact G_ireturn (pc := 57) dX2_lowest_57 (qeq (by rw [itr_ge (by omega)] at hX; rcases hq with ⟨q1, q2, q3⟩ | ⟨q1, q2, q3⟩ <;> omega))
    · refine G_aload_n (pc := 16) dX2_lowest_16 rfl ?_
      refine G_getP (pc := 17) dX2_lowest_17 fk_X2_21 rfl rfl rfl ?_
      refine G_iload_n (pc := 20) dX2_lowest_20 rfl ?_
      refine G_baload (pc := 21) dX2_lowest_21 rfl rfl (by omega) ?_
      refine G_if_eq (pc := 22) (tgt := 40) dX2_lowest_22 rfl (fun h_22 => ?_) (fun h_22 => ?_)
      · try simp only [bq0, ne_eq, Classical.not_not] at h_22
        refine G_iinc (pc := 40) dX2_lowest_40 rfl rfl (by omega) ?_
        refine G_goto (pc := 43) (tgt := 5) dX2_lowest_43 rfl ?_
        rw [itr_lt (by omega)] at hX
        refine ih (by omega) _ _ (by omega) ?_ hX
        unfold lowStep
        rcases hq with ⟨q1, q2, q3⟩ | ⟨q1, q2, q3⟩ <;> grind
      · try simp only [bq0, ne_eq, Classical.not_not] at h_22
        refine G_iload_n (pc := 25) dX2_lowest_25 rfl ?_
        refine G_if_lt (pc := 26) (tgt := 38) dX2_lowest_26 rfl (fun h_26 => ?_) (fun h_26 => ?_)
        · refine G_iload_n (pc := 38) dX2_lowest_38 rfl ?_
          refine G_istore_n (pc := 39) dX2_lowest_39 (Nat.le_of_ble_eq_true rfl) rfl ?_
          refine G_iinc (pc := 40) dX2_lowest_40 rfl rfl (by omega) ?_
          refine G_goto (pc := 43) (tgt := 5) dX2_lowest_43 rfl ?_
          rw [itr_lt (by omega)] at hX
          refine ih (by omega) _ _ (by omega) ?_ hX
          unfold lowStep
          rcases hq with ⟨q1, q2, q3⟩ | ⟨q1, q2, q3⟩ <;> grind
        · refine G_aload_n (pc := 29) dX2_lowest_29 rfl ?_
          refine G_iload_n (pc := 30) dX2_lowest_30 rfl ?_
          refine G_iaload (pc := 31) dX2_lowest_31 rfl rfl (by omega) ?_
          refine G_aload_n (pc := 32) dX2_lowest_32 rfl ?_
          refine G_iload_n (pc := 33) dX2_lowest_33 rfl ?_
          refine G_iaload (pc := 34) dX2_lowest_34 rfl rfl (by omega) ?_
          refine G_icmp_ge (pc := 35) (tgt := 40) dX2_lowest_35 rfl (fun h_35 => ?_) (fun h_35 => ?_)
          · refine G_iinc (pc := 40) dX2_lowest_40 rfl rfl (by omega) ?_
            refine G_goto (pc := 43) (tgt := 5) dX2_lowest_43 rfl ?_
            rw [itr_lt (by omega)] at hX
            refine ih (by omega) _ _ (by omega) ?_ hX
            unfold lowStep
            rcases hq with ⟨q1, q2, q3⟩ | ⟨q1, q2, q3⟩ <;> grind
          · refine G_iload_n (pc := 38) dX2_lowest_38 rfl ?_
            refine G_istore_n (pc := 39) dX2_lowest_39 (Nat.le_of_ble_eq_true rfl) rfl ?_
            refine G_iinc (pc := 40) dX2_lowest_40 rfl rfl (by omega) ?_
            refine G_goto (pc := 43) (tgt := 5) dX2_lowest_43 rfl ?_
            rw [itr_lt (by omega)] at hX
            refine ih (by omega) _ _ (by omega) ?_ hX
            unfold lowStep
            rcases hq with ⟨q1, q2, q3⟩ | ⟨q1, q2, q3⟩ <;> grind
  refine G_bipush (pc := 0) (x := (-2)) dX2_lowest_0 rfl (by decide) ?_
  refine G_istore_n (pc := 2) dX2_lowest_2 (Nat.le_of_ble_eq_true rfl) rfl ?_
  refine G_iconst (pc := 3) dX2_lowest_3 (by decide) ?_
  refine G_istore_n (pc := 4) dX2_lowest_4 (Nat.le_of_ble_eq_true rfl) rfl ?_
  exact loop 0 (by omega) (-2) (0, 0) (by omega) (Or.inl ⟨rfl, rfl, rfl⟩) rfl
theorem c_X2_highest_3_18 (t : Sto) (hn : 0 ≤ t 267 0 ∧ t 267 0 ≤ 24) : CT yX2_highest cX2_highest 4 (some .int) 0 [mP 3, mP 18] t (fun a t' => a = some (mI (higS (t 267 0) (t 21) (t 18))) ∧ t' = t) := by
  refine CT_of rfl rfl (Nat.le_of_ble_eq_true rfl) (fun E ht has => ?_)
  have loop : ∀ r, r ≤ t 267 0 → ∀ (m : Int) (q : Int × Int), 0 ≤ r → ((q.1 = 0 ∧ m = -2 ∧ q.2 = 0) ∨ (q.1 = 1 ∧ (0 ≤ m ∧ m < r) ∧ t 18 m = q.2)) → (itr (higStep (t 21) (t 18)) r (t 267 0) q).2 = higS (t 267 0) (t 21) (t 18) → G E cX2_highest RX2 (some .int) 0 5 [some (mP 3), some (mP 18), some (mI m), some (mI r)] [] t (fun a t' => a = some (mI (higS (t 267 0) (t 21) (t 18))) ∧ t' = t) := by
    refine up_ind (fun r hr ih m q h0 hq hX => ?_)
    refine G_iload_n (pc := 5) dX2_highest_5 rfl ?_
    refine G_aload_n (pc := 6) dX2_highest_6 rfl ?_
    refine G_getP (pc := 7) dX2_highest_7 fk_X2_25 rfl rfl rfl ?_
    refine G_getI (pc := 10) dX2_highest_10 fk_X2_29 rfl rfl rfl ?_
    refine G_icmp_ge (pc := 13) (tgt := 46) dX2_highest_13 rfl (fun h_13 => ?_) (fun h_13 => ?_)
    · refine G_iload_n (pc := 46) dX2_highest_46 rfl ?_
      refine G_if_ge (pc := 47) (tgt := 54) dX2_highest_47 rfl (fun h_47 => ?_) (fun h_47 => ?_)
      · refine G_aload_n (pc := 54) dX2_highest_54 rfl ?_
        refine G_iload_n (pc := 55) dX2_highest_55 rfl ?_
        refine G_iaload (pc := 56) dX2_highest_56 rfl rfl (by omega) ?_
        exact G_ireturn (pc := 57) dX2_highest_57 (qeq (by rw [itr_ge (by omega)] at hX; rcases hq with ⟨q1, q2, q3⟩ | ⟨q1, q2, q3⟩ <;> omega))
      · refine G_iconst (pc := 50) dX2_highest_50 (by decide) ?_
        refine G_goto (pc := 51) (tgt := 57) dX2_highest_51 rfl ?_
        exact G_ireturn (pc := 57) dX2_highest_57 (qeq (by rw [itr_ge (by omega)] at hX; rcases hq with ⟨q1, q2, q3⟩ | ⟨q1, q2, q3⟩ <;> omega))
    · refine G_aload_n (pc := 16) dX2_highest_16 rfl ?_
      refine G_getP (pc := 17) dX2_highest_17 fk_X2_21 rfl rfl rfl ?_
      refine G_iload_n (pc := 20) dX2_highest_20 rfl ?_
      refine G_baload (pc := 21) dX2_highest_21 rfl rfl (by omega) ?_
      refine G_if_eq (pc := 22) (tgt := 40) dX2_highest_22 rfl (fun h_22 => ?_) (fun h_22 => ?_)
      · try simp only [bq0, ne_eq, Classical.not_not] at h_22
        refine G_iinc (pc := 40) dX2_highest_40 rfl rfl (by omega) ?_
        refine G_goto (pc := 43) (tgt := 5) dX2_highest_43 rfl ?_
        rw [itr_lt (by omega)] at hX
        refine ih (by omega) _ _ (by omega) ?_ hX
        unfold higStep
        rcases hq with ⟨q1, q2, q3⟩ | ⟨q1, q2, q3⟩ <;> grind
      · try simp only [bq0, ne_eq, Classical.not_not] at h_22
        refine G_iload_n (pc := 25) dX2_highest_25 rfl ?_
        refine G_if_lt (pc := 26) (tgt := 38) dX2_highest_26 rfl (fun h_26 => ?_) (fun h_26 => ?_)
        · refine G_iload_n (pc := 38) dX2_highest_38 rfl ?_
          refine G_istore_n (pc := 39) dX2_highest_39 (Nat.le_of_ble_eq_true rfl) rfl ?_
          refine G_iinc (pc := 40) dX2_highest_40 rfl rfl (by omega) ?_
          refine G_goto (pc := 43) (tgt := 5) dX2_highest_43 rfl ?_
          rw [itr_lt (by omega)] at hX
          refine ih (by omega) _ _ (by omega) ?_ hX
          unfold higStep
          rcases hq with ⟨q1, q2, q3⟩ | ⟨q1, q2, q3⟩ <;> grind
        · refine G_aload_n (pc := 29) dX2_highest_29 rfl ?_
          refine G_iload_n (pc := 30) dX2_highest_30 rfl ?_
          refine G_iaload (pc := 31) dX2_highest_31 rfl rfl (by omega) ?_
          refine G_aload_n (pc := 32) dX2_highest_32 rfl ?_
          refine G_iload_n (pc := 33) dX2_highest_33 rfl ?_
          refine G_iaload (pc := 34) dX2_highest_34 rfl rfl (by omega) ?_
          refine G_icmp_le (pc := 35) (tgt := 40) dX2_highest_35 rfl (fun h_35 => ?_) (fun h_35 => ?_)
          · refine G_iinc (pc := 40) dX2_highest_40 rfl rfl (by omega) ?_
            refine G_goto (pc := 43) (tgt := 5) dX2_highest_43 rfl ?_
            rw [itr_lt (by omega)] at hX
            refine ih (by omega) _ _ (by omega) ?_ hX
            unfold higStep
            rcases hq with ⟨q1, q2, q3⟩ | ⟨q1, q2, q3⟩ <;> grind
          · refine G_iload_n (pc := 38) dX2_highest_38 rfl ?_
            refine G_istore_n (pc := 39) dX2_highest_39 (Nat.le_of_ble_eq_true rfl) rfl ?_
            refine G_iinc (pc := 40) dX2_highest_40 rfl rfl (by omega) ?_
            refine G_goto (pc := 43) (tgt := 5) dX2_highest_43 rfl ?_
            rw [itr_lt (by omega)] at hX
            refine ih (by omega) _ _ (by omega) ?_ hX
            unfold higStep
            rcases hq with ⟨q1, q2, q3⟩ | ⟨q1, q2, q3⟩ <;> grind
  refine G_bipush (pc := 0) (x := (-2)) dX2_highest_0 rfl (by decide) ?_
  refine G_istore_n (pc := 2) dX2_highest_2 (Nat.le_of_ble_eq_true rfl) rfl ?_
  refine G_iconst (pc := 3) dX2_highest_3 (by decide) ?_
  refine G_istore_n (pc := 4) dX2_highest_4 (Nat.le_of_ble_eq_true rfl) rfl ?_
  exact loop 0 (by omega) (-2) (0, 0) (by omega) (Or.inl ⟨rfl, rfl, rfl⟩) rfl
theorem c_X2_lowest_3_19 (t : Sto) (hn : 0 ≤ t 267 0 ∧ t 267 0 ≤ 24) : CT yX2_lowest cX2_lowest 4 (some .int) 0 [mP 3, mP 19] t (fun a t' => a = some (mI (lowS (t 267 0) (t 21) (t 19))) ∧ t' = t) := by
  refine CT_of rfl rfl (Nat.le_of_ble_eq_true rfl) (fun E ht has => ?_)
  have loop : ∀ r, r ≤ t 267 0 → ∀ (m : Int) (q : Int × Int), 0 ≤ r → ((q.1 = 0 ∧ m = -2 ∧ q.2 = 0) ∨ (q.1 = 1 ∧ (0 ≤ m ∧ m < r) ∧ t 19 m = q.2)) → (itr (lowStep (t 21) (t 19)) r (t 267 0) q).2 = lowS (t 267 0) (t 21) (t 19) → G E cX2_lowest RX2 (some .int) 0 5 [some (mP 3), some (mP 19), some (mI m), some (mI r)] [] t (fun a t' => a = some (mI (lowS (t 267 0) (t 21) (t 19))) ∧ t' = t) := by
    refine up_ind (fun r hr ih m q h0 hq hX => ?_)
    refine G_iload_n (pc := 5) dX2_lowest_5 rfl ?_
    refine G_aload_n (pc := 6) dX2_lowest_6 rfl ?_
    refine G_getP (pc := 7) dX2_lowest_7 fk_X2_25 rfl rfl rfl ?_
    refine G_getI (pc := 10) dX2_lowest_10 fk_X2_29 rfl rfl rfl ?_
    refine G_icmp_ge (pc := 13) (tgt := 46) dX2_lowest_13 rfl (fun h_13 => ?_) (fun h_13 => ?_)
    · refine G_iload_n (pc := 46) dX2_lowest_46 rfl ?_
      refine G_if_ge (pc := 47) (tgt := 54) dX2_lowest_47 rfl (fun h_47 => ?_) (fun h_47 => ?_)
      · refine G_aload_n (pc := 54) dX2_lowest_54 rfl ?_
        refine G_iload_n (pc := 55) dX2_lowest_55 rfl ?_
        refine G_iaload (pc := 56) dX2_lowest_56 rfl rfl (by omega) ?_
        exact G_ireturn (pc := 57) dX2_lowest_57 (qeq (by rw [itr_ge (by omega)] at hX; rcases hq with ⟨q1, q2, q3⟩ | ⟨q1, q2, q3⟩ <;> omega))
      · refine G_iconst (pc := 50) dX2_lowest_50 (by decide) ?_
        refine G_goto (pc := 51) (tgt := 57) dX2_lowest_51 rfl ?_
        exact G_ireturn (pc := 57) dX2_lowest_57 (qeq (by rw [itr_ge (by omega)] at hX; rcases hq with ⟨q1, q2, q3⟩ | ⟨q1, q2, q3⟩ <;> omega))
    · refine G_aload_n (pc := 16) dX2_lowest_16 rfl ?_
      refine G_getP (pc := 17) dX2_lowest_17 fk_X2_21 rfl rfl rfl ?_
      refine G_iload_n (pc := 20) dX2_lowest_20 rfl ?_
      refine G_baload (pc := 21) dX2_lowest_21 rfl rfl (by omega) ?_
      refine G_if_eq (pc := 22) (tgt := 40) dX2_lowest_22 rfl (fun h_22 => ?_) (fun h_22 => ?_)
      · try simp only [bq0, ne_eq, Classical.not_not] at h_22
        refine G_iinc (pc := 40) dX2_lowest_40 rfl rfl (by omega) ?_
        refine G_goto (pc := 43) (tgt := 5) dX2_lowest_43 rfl ?_
        rw [itr_lt (by omega)] at hX
        refine ih (by omega) _ _ (by omega) ?_ hX
        unfold lowStep
        rcases hq with ⟨q1, q2, q3⟩ | ⟨q1, q2, q3⟩ <;> grind
      · try simp only [bq0, ne_eq, Classical.not_not] at h_22
        refine G_iload_n (pc := 25) dX2_lowest_25 rfl ?_
        refine G_if_lt (pc := 26) (tgt := 38) dX2_lowest_26 rfl (fun h_26 => ?_) (fun h_26 => ?_)
        · refine G_iload_n (pc := 38) dX2_lowest_38 rfl ?_
          refine G_istore_n (pc := 39) dX2_lowest_39 (Nat.le_of_ble_eq_true rfl) rfl ?_
          refine G_iinc (pc := 40) dX2_lowest_40 rfl rfl (by omega) ?_
          refine G_goto (pc := 43) (tgt := 5) dX2_lowest_43 rfl ?_
          rw [itr_lt (by omega)] at hX
          refine ih (by omega) _ _ (by omega) ?_ hX
          unfold lowStep
          rcases hq with ⟨q1, q2, q3⟩ | ⟨q1, q2, q3⟩ <;> grind
        · refine G_aload_n (pc := 29) dX2_lowest_29 rfl ?_
          refine G_iload_n (pc := 30) dX2_lowest_30 rfl ?_
          refine G_iaload (pc := 31) dX2_lowest_31 rfl rfl (by omega) ?_
          refine G_aload_n (pc := 32) dX2_lowest_32 rfl ?_
          refine G_iload_n (pc := 33) dX2_lowest_33 rfl ?_
          refine G_iaload (pc := 34) dX2_lowest_34 rfl rfl (by omega) ?_
          refine G_icmp_ge (pc := 35) (tgt := 40) dX2_lowest_35 rfl (fun h_35 => ?_) (fun h_35 => ?_)
          · refine G_iinc (pc := 40) dX2_lowest_40 rfl rfl (by omega) ?_
            refine G_goto (pc := 43) (tgt := 5) dX2_lowest_43 rfl ?_
            rw [itr_lt (by omega)] at hX
            refine ih (by omega) _ _ (by omega) ?_ hX
            unfold lowStep
            rcases hq with ⟨q1, q2, q3⟩ | ⟨q1, q2, q3⟩ <;> grind
          · refine G_iload_n (pc := 38) dX2_lowest_38 rfl ?_
            refine G_istore_n (pc := 39) dX2_lowest_39 (Nat.le_of_ble_eq_true rfl) rfl ?_
            refine G_iinc (pc := 40) dX2_lowest_40 rfl rfl (by omega) ?_
            refine G_goto (pc := 43) (tgt := 5) dX2_lowest_43 rfl ?_
            rw [itr_lt (by omega)] at hX
            refine ih (by omega) _ _ (by omega) ?_ hX
            unfold lowStep
            rcases hq with ⟨q1, q2, q3⟩ | ⟨q1, q2, q3⟩ <;> grind
  refine G_bipush (pc := 0) (x := (-2)) dX2_lowest_0 rfl (by decide) ?_
  refine G_istore_n (pc := 2) dX2_lowest_2 (Nat.le_of_ble_eq_true rfl) rfl ?_
  refine G_iconst (pc := 3) dX2_lowest_3 (by decide) ?_
  refine G_istore_n (pc := 4) dX2_lowest_4 (Nat.le_of_ble_eq_true rfl) rfl ?_
  exact loop 0 (by omega) (-2) (0, 0) (by omega) (Or.inl ⟨rfl, rfl, rfl⟩) rfl
theorem c_X2_highest_3_19 (t : Sto) (hn : 0 ≤ t 267 0 ∧ t 267 0 ≤ 24) : CT yX2_highest cX2_highest 4 (some .int) 0 [mP 3, mP 19] t (fun a t' => a = some (mI (higS (t 267 0) (t 21) (t 19))) ∧ t' = t) := by
  refine CT_of rfl rfl (Nat.le_of_ble_eq_true rfl) (fun E ht has => ?_)
  have loop : ∀ r, r ≤ t 267 0 → ∀ (m : Int) (q : Int × Int), 0 ≤ r → ((q.1 = 0 ∧ m = -2 ∧ q.2 = 0) ∨ (q.1 = 1 ∧ (0 ≤ m ∧ m < r) ∧ t 19 m = q.2)) → (itr (higStep (t 21) (t 19)) r (t 267 0) q).2 = higS (t 267 0) (t 21) (t 19) → G E cX2_highest RX2 (some .int) 0 5 [some (mP 3), some (mP 19), some (mI m), some (mI r)] [] t (fun a t' => a = some (mI (higS (t 267 0) (t 21) (t 19))) ∧ t' = t) := by
    refine up_ind (fun r hr ih m q h0 hq hX => ?_)
    refine G_iload_n (pc := 5) dX2_highest_5 rfl ?_
    refine G_aload_n (pc := 6) dX2_highest_6 rfl ?_
    refine G_getP (pc := 7) dX2_highest_7 fk_X2_25 rfl rfl rfl ?_
    refine G_getI (pc := 10) dX2_highest_10 fk_X2_29 rfl rfl rfl ?_
    refine G_icmp_ge (pc := 13) (tgt := 46) dX2_highest_13 rfl (fun h_13 => ?_) (fun h_13 => ?_)
    · refine G_iload_n (pc := 46) dX2_highest_46 rfl ?_
      refine G_if_ge (pc := 47) (tgt := 54) dX2_highest_47 rfl (fun h_47 => ?_) (fun h_47 => ?_)
      · refine G_aload_n (pc := 54) dX2_highest_54 rfl ?_
        refine G_iload_n (pc := 55) dX2_highest_55 rfl ?_
        refine G_iaload (pc := 56) dX2_highest_56 rfl rfl (by omega) ?_
        exact G_ireturn (pc := 57) dX2_highest_57 (qeq (by rw [itr_ge (by omega)] at hX; rcases hq with ⟨q1, q2, q3⟩ | ⟨q1, q2, q3⟩ <;> omega))
      · refine G_iconst (pc := 50) dX2_highest_50 (by decide) ?_
        refine G_goto (pc := 51) (tgt := 57) dX2_highest_51 rfl ?_
        exact G_ireturn (pc := 57) dX2_highest_57 (qeq (by rw [itr_ge (by omega)] at hX; rcases hq with ⟨q1, q2, q3⟩ | ⟨q1, q2, q3⟩ <;> omega))
    · refine G_aload_n (pc := 16) dX2_highest_16 rfl ?_
      refine G_getP (pc := 17) dX2_highest_17 fk_X2_21 rfl rfl rfl ?_
      refine G_iload_n (pc := 20) dX2_highest_20 rfl ?_
      refine G_baload (pc := 21) dX2_highest_21 rfl rfl (by omega) ?_
      refine G_if_eq (pc := 22) (tgt := 40) dX2_highest_22 rfl (fun h_22 => ?_) (fun h_22 => ?_)
      · try simp only [bq0, ne_eq, Classical.not_not] at h_22
        refine G_iinc (pc := 40) dX2_highest_40 rfl rfl (by omega) ?_
        refine G_goto (pc := 43) (tgt := 5) dX2_highest_43 rfl ?_
        rw [itr_lt (by omega)] at hX
        refine ih (by omega) _ _ (by omega) ?_ hX
        unfold higStep
        rcases hq with ⟨q1, q2, q3⟩ | ⟨q1, q2, q3⟩ <;> grind
      · try simp only [bq0, ne_eq, Classical.not_not] at h_22
        refine G_iload_n (pc := 25) dX2_highest_25 rfl ?_
        refine G_if_lt (pc := 26) (tgt := 38) dX2_highest_26 rfl (fun h_26 => ?_) (fun h_26 => ?_)
        · refine G_iload_n (pc := 38) dX2_highest_38 rfl ?_
          refine G_istore_n (pc := 39) dX2_highest_39 (Nat.le_of_ble_eq_true rfl) rfl ?_
          refine G_iinc (pc := 40) dX2_highest_40 rfl rfl (by omega) ?_
          refine G_goto (pc := 43) (tgt := 5) dX2_highest_43 rfl ?_
          rw [itr_lt (by omega)] at hX
          refine ih (by omega) _ _ (by omega) ?_ hX
          unfold higStep
          rcases hq with ⟨q1, q2, q3⟩ | ⟨q1, q2, q3⟩ <;> grind
        · refine G_aload_n (pc := 29) dX2_highest_29 rfl ?_
          refine G_iload_n (pc := 30) dX2_highest_30 rfl ?_
          refine G_iaload (pc := 31) dX2_highest_31 rfl rfl (by omega) ?_
          refine G_aload_n (pc := 32) dX2_highest_32 rfl ?_
          refine G_iload_n (pc := 33) dX2_highest_33 rfl ?_
          refine G_iaload (pc := 34) dX2_highest_34 rfl rfl (by omega) ?_
          refine G_icmp_le (pc := 35) (tgt := 40) dX2_highest_35 rfl (fun h_35 => ?_) (fun h_35 => ?_)
          · refine G_iinc (pc := 40) dX2_highest_40 rfl rfl (by omega) ?_
            refine G_goto (pc := 43) (tgt := 5) dX2_highest_43 rfl ?_
            rw [itr_lt (by omega)] at hX
            refine ih (by omega) _ _ (by omega) ?_ hX
            unfold higStep
            rcases hq with ⟨q1, q2, q3⟩ | ⟨q1, q2, q3⟩ <;> grind
          · refine G_iload_n (pc := 38) dX2_highest_38 rfl ?_
            refine G_istore_n (pc := 39) dX2_highest_39 (Nat.le_of_ble_eq_true rfl) rfl ?_
            refine G_iinc (pc := 40) dX2_highest_40 rfl rfl (by omega) ?_
            refine G_goto (pc := 43) (tgt := 5) dX2_highest_43 rfl ?_
            rw [itr_lt (by omega)] at hX
            refine ih (by omega) _ _ (by omega) ?_ hX
            unfold higStep
            rcases hq with ⟨q1, q2, q3⟩ | ⟨q1, q2, q3⟩ <;> grind
  refine G_bipush (pc := 0) (x := (-2)) dX2_highest_0 rfl (by decide) ?_
  refine G_istore_n (pc := 2) dX2_highest_2 (Nat.le_of_ble_eq_true rfl) rfl ?_
  refine G_iconst (pc := 3) dX2_highest_3 (by decide) ?_
  refine G_istore_n (pc := 4) dX2_highest_4 (Nat.le_of_ble_eq_true rfl) rfl ?_
  exact loop 0 (by omega) (-2) (0, 0) (by omega) (Or.inl ⟨rfl, rfl, rfl⟩) rfl
theorem c_X2_lowest_3_20 (t : Sto) (hn : 0 ≤ t 267 0 ∧ t 267 0 ≤ 24) : CT yX2_lowest cX2_lowest 4 (some .int) 0 [mP 3, mP 20] t (fun a t' => a = some (mI (lowS (t 267 0) (t 21) (t 20))) ∧ t' = t) := by
  refine CT_of rfl rfl (Nat.le_of_ble_eq_true rfl) (fun E ht has => ?_)
  have loop : ∀ r, r ≤ t 267 0 → ∀ (m : Int) (q : Int × Int), 0 ≤ r → ((q.1 = 0 ∧ m = -2 ∧ q.2 = 0) ∨ (q.1 = 1 ∧ (0 ≤ m ∧ m < r) ∧ t 20 m = q.2)) → (itr (lowStep (t 21) (t 20)) r (t 267 0) q).2 = lowS (t 267 0) (t 21) (t 20) → G E cX2_lowest RX2 (some .int) 0 5 [some (mP 3), some (mP 20), some (mI m), some (mI r)] [] t (fun a t' => a = some (mI (lowS (t 267 0) (t 21) (t 20))) ∧ t' = t) := by
    refine up_ind (fun r hr ih m q h0 hq hX => ?_)
    refine G_iload_n (pc := 5) dX2_lowest_5 rfl ?_
    refine G_aload_n (pc := 6) dX2_lowest_6 rfl ?_
    refine G_getP (pc := 7) dX2_lowest_7 fk_X2_25 rfl rfl rfl ?_
    refine G_getI (pc := 10) dX2_lowest_10 fk_X2_29 rfl rfl rfl ?_
    refine G_icmp_ge (pc := 13) (tgt := 46) dX2_lowest_13 rfl (fun h_13 => ?_) (fun h_13 => ?_)
    · refine G_iload_n (pc := 46) dX2_lowest_46 rfl ?_
      refine G_if_ge (pc := 47) (tgt := 54) dX2_lowest_47 rfl (fun h_47 => ?_) (fun h_47 => ?_)
      · refine G_aload_n (pc := 54) dX2_lowest_54 rfl ?_
        refine G_iload_n (pc := 55) dX2_lowest_55 rfl ?_
        refine G_iaload (pc := 56) dX2_lowest_56 rfl rfl (by omega) ?_
        exact G_ireturn (pc := 57) dX2_lowest_57 (qeq (by rw [itr_ge (by omega)] at hX; rcases hq with ⟨q1, q2, q3⟩ | ⟨q1, q2, q3⟩ <;> omega))
      · refine G_iconst (pc := 50) dX2_lowest_50 (by decide) ?_
        refine G_goto (pc := 51) (tgt := 57) dX2_lowest_51 rfl ?_
        exact G_ireturn (pc := 57) dX2_lowest_57 (qeq (by rw [itr_ge (by omega)] at hX; rcases hq with ⟨q1, q2, q3⟩ | ⟨q1, q2, q3⟩ <;> omega))
    · refine G_aload_n (pc := 16) dX2_lowest_16 rfl ?_
      refine G_getP (pc := 17) dX2_lowest_17 fk_X2_21 rfl rfl rfl ?_
      refine G_iload_n (pc := 20) dX2_lowest_20 rfl ?_
      refine G_baload (pc := 21) dX2_lowest_21 rfl rfl (by omega) ?_
      refine G_if_eq (pc := 22) (tgt := 40) dX2_lowest_22 rfl (fun h_22 => ?_) (fun h_22 => ?_)
      · try simp only [bq0, ne_eq, Classical.not_not] at h_22
        refine G_iinc (pc := 40) dX2_lowest_40 rfl rfl (by omega) ?_
        refine G_goto (pc := 43) (tgt := 5) dX2_lowest_43 rfl ?_
        rw [itr_lt (by omega)] at hX
        refine ih (by omega) _ _ (by omega) ?_ hX
        unfold lowStep
        rcases hq with ⟨q1, q2, q3⟩ | ⟨q1, q2, q3⟩ <;> grind
      · try simp only [bq0, ne_eq, Classical.not_not] at h_22
        refine G_iload_n (pc := 25) dX2_lowest_25 rfl ?_
        refine G_if_lt (pc := 26) (tgt := 38) dX2_lowest_26 rfl (fun h_26 => ?_) (fun h_26 => ?_)
        · refine G_iload_n (pc := 38) dX2_lowest_38 rfl ?_
          refine G_istore_n (pc := 39) dX2_lowest_39 (Nat.le_of_ble_eq_true rfl) rfl ?_
          refine G_iinc (pc := 40) dX2_lowest_40 rfl rfl (by omega) ?_
          refine G_goto (pc := 43) (tgt := 5) dX2_lowest_43 rfl ?_
          rw [itr_lt (by omega)] at hX
          refine ih (by omega) _ _ (by omega) ?_ hX
          unfold lowStep
          rcases hq with ⟨q1, q2, q3⟩ | ⟨q1, q2, q3⟩ <;> grind
        · refine G_aload_n (pc := 29) dX2_lowest_29 rfl ?_
          refine G_iload_n (pc := 30) dX2_lowest_30 rfl ?_
          refine G_iaload (pc := 31) dX2_lowest_31 rfl rfl (by omega) ?_
          refine G_aload_n (pc := 32) dX2_lowest_32 rfl ?_
          refine G_iload_n (pc := 33) dX2_lowest_33 rfl ?_
          refine G_iaload (pc := 34) dX2_lowest_34 rfl rfl (by omega) ?_
          refine G_icmp_ge (pc := 35) (tgt := 40) dX2_lowest_35 rfl (fun h_35 => ?_) (fun h_35 => ?_)
          · refine G_iinc (pc := 40) dX2_lowest_40 rfl rfl (by omega) ?_
            refine G_goto (pc := 43) (tgt := 5) dX2_lowest_43 rfl ?_
            rw [itr_lt (by omega)] at hX
            refine ih (by omega) _ _ (by omega) ?_ hX
            unfold lowStep
            rcases hq with ⟨q1, q2, q3⟩ | ⟨q1, q2, q3⟩ <;> grind
          · refine G_iload_n (pc := 38) dX2_lowest_38 rfl ?_
            refine G_istore_n (pc := 39) dX2_lowest_39 (Nat.le_of_ble_eq_true rfl) rfl ?_
            refine G_iinc (pc := 40) dX2_lowest_40 rfl rfl (by omega) ?_
            refine G_goto (pc := 43) (tgt := 5) dX2_lowest_43 rfl ?_
            rw [itr_lt (by omega)] at hX
            refine ih (by omega) _ _ (by omega) ?_ hX
            unfold lowStep
            rcases hq with ⟨q1, q2, q3⟩ | ⟨q1, q2, q3⟩ <;> grind
  refine G_bipush (pc := 0) (x := (-2)) dX2_lowest_0 rfl (by decide) ?_
  refine G_istore_n (pc := 2) dX2_lowest_2 (Nat.le_of_ble_eq_true rfl) rfl ?_
  refine G_iconst (pc := 3) dX2_lowest_3 (by decide) ?_
  refine G_istore_n (pc := 4) dX2_lowest_4 (Nat.le_of_ble_eq_true rfl) rfl ?_
  exact loop 0 (by omega) (-2) (0, 0) (by omega) (Or.inl ⟨rfl, rfl, rfl⟩) rfl
theorem c_X2_highest_3_20 (t : Sto) (hn : 0 ≤ t 267 0 ∧ t 267 0 ≤ 24) : CT yX2_highest cX2_highest 4 (some .int) 0 [mP 3, mP 20] t (fun a t' => a = some (mI (higS (t 267 0) (t 21) (t 20))) ∧ t' = t) := by
  refine CT_of rfl rfl (Nat.le_of_ble_eq_true rfl) (fun E ht has => ?_)
  have loop : ∀ r, r ≤ t 267 0 → ∀ (m : Int) (q : Int × Int), 0 ≤ r → ((q.1 = 0 ∧ m = -2 ∧ q.2 = 0) ∨ (q.1 = 1 ∧ (0 ≤ m ∧ m < r) ∧ t 20 m = q.2)) → (itr (higStep (t 21) (t 20)) r (t 267 0) q).2 = higS (t 267 0) (t 21) (t 20) → G E cX2_highest RX2 (some .int) 0 5 [some (mP 3), some (mP 20), some (mI m), some (mI r)] [] t (fun a t' => a = some (mI (higS (t 267 0) (t 21) (t 20))) ∧ t' = t) := by
    refine up_ind (fun r hr ih m q h0 hq hX => ?_)
    refine G_iload_n (pc := 5) dX2_highest_5 rfl ?_
    refine G_aload_n (pc := 6) dX2_highest_6 rfl ?_
    refine G_getP (pc := 7) dX2_highest_7 fk_X2_25 rfl rfl rfl ?_
    refine G_getI (pc := 10) dX2_highest_10 fk_X2_29 rfl rfl rfl ?_
    refine G_icmp_ge (pc := 13) (tgt := 46) dX2_highest_13 rfl (fun h_13 => ?_) (fun h_13 => ?_)
    · refine G_iload_n (pc := 46) dX2_highest_46 rfl ?_
      refine G_if_ge (pc := 47) (tgt := 54) dX2_highest_47 rfl (fun h_47 => ?_) (fun h_47 => ?_)
      · refine G_aload_n (pc := 54) dX2_highest_54 rfl ?_
        refine G_iload_n (pc := 55) dX2_highest_55 rfl ?_
        refine G_iaload (pc := 56) dX2_highest_56 rfl rfl (by omega) ?_
        exact G_ireturn (pc := 57) dX2_highest_57 (qeq (by rw [itr_ge (by omega)] at hX; rcases hq with ⟨q1, q2, q3⟩ | ⟨q1, q2, q3⟩ <;> omega))
      · refine G_iconst (pc := 50) dX2_highest_50 (by decide) ?_
        refine G_goto (pc := 51) (tgt := 57) dX2_highest_51 rfl ?_
        exact G_ireturn (pc := 57) dX2_highest_57 (qeq (by rw [itr_ge (by omega)] at hX; rcases hq with ⟨q1, q2, q3⟩ | ⟨q1, q2, q3⟩ <;> omega))
    · refine G_aload_n (pc := 16) dX2_highest_16 rfl ?_
      refine G_getP (pc := 17) dX2_highest_17 fk_X2_21 rfl rfl rfl ?_
      refine G_iload_n (pc := 20) dX2_highest_20 rfl ?_
      refine G_baload (pc := 21) dX2_highest_21 rfl rfl (by omega) ?_
      refine G_if_eq (pc := 22) (tgt := 40) dX2_highest_22 rfl (fun h_22 => ?_) (fun h_22 => ?_)
      · try simp only [bq0, ne_eq, Classical.not_not] at h_22
        refine G_iinc (pc := 40) dX2_highest_40 rfl rfl (by omega) ?_
        refine G_goto (pc := 43) (tgt := 5) dX2_highest_43 rfl ?_
        rw [itr_lt (by omega)] at hX
        refine ih (by omega) _ _ (by omega) ?_ hX
        unfold higStep
        rcases hq with ⟨q1, q2, q3⟩ | ⟨q1, q2, q3⟩ <;> grind
      · try simp only [bq0, ne_eq, Classical.not_not] at h_22
        refine G_iload_n (pc := 25) dX2_highest_25 rfl ?_
        refine G_if_lt (pc := 26) (tgt := 38) dX2_highest_26 rfl (fun h_26 => ?_) (fun h_26 => ?_)
        · refine G_iload_n (pc := 38) dX2_highest_38 rfl ?_
          refine G_istore_n (pc := 39) dX2_highest_39 (Nat.le_of_ble_eq_true rfl) rfl ?_
          refine G_iinc (pc := 40) dX2_highest_40 rfl rfl (by omega) ?_
          refine G_goto (pc := 43) (tgt := 5) dX2_highest_43 rfl ?_
          rw [itr_lt (by omega)] at hX
          refine ih (by omega) _ _ (by omega) ?_ hX
          unfold higStep
          rcases hq with ⟨q1, q2, q3⟩ | ⟨q1, q2, q3⟩ <;> grind
        · refine G_aload_n (pc := 29) dX2_highest_29 rfl ?_
          refine G_iload_n (pc := 30) dX2_highest_30 rfl ?_
          refine G_iaload (pc := 31) dX2_highest_31 rfl rfl (by omega) ?_
          refine G_aload_n (pc := 32) dX2_highest_32 rfl ?_
          refine G_iload_n (pc := 33) dX2_highest_33 rfl ?_
          refine G_iaload (pc := 34) dX2_highest_34 rfl rfl (by omega) ?_
          refine G_icmp_le (pc := 35) (tgt := 40) dX2_highest_35 rfl (fun h_35 => ?_) (fun h_35 => ?_)
          · refine G_iinc (pc := 40) dX2_highest_40 rfl rfl (by omega) ?_
            refine G_goto (pc := 43) (tgt := 5) dX2_highest_43 rfl ?_
            rw [itr_lt (by omega)] at hX
            refine ih (by omega) _ _ (by omega) ?_ hX
            unfold higStep
            rcases hq with ⟨q1, q2, q3⟩ | ⟨q1, q2, q3⟩ <;> grind
          · refine G_iload_n (pc := 38) dX2_highest_38 rfl ?_
            refine G_istore_n (pc := 39) dX2_highest_39 (Nat.le_of_ble_eq_true rfl) rfl ?_
            refine G_iinc (pc := 40) dX2_highest_40 rfl rfl (by omega) ?_
            refine G_goto (pc := 43) (tgt := 5) dX2_highest_43 rfl ?_
            rw [itr_lt (by omega)] at hX
            refine ih (by omega) _ _ (by omega) ?_ hX
            unfold higStep
            rcases hq with ⟨q1, q2, q3⟩ | ⟨q1, q2, q3⟩ <;> grind
  refine G_bipush (pc := 0) (x := (-2)) dX2_highest_0 rfl (by decide) ?_
  refine G_istore_n (pc := 2) dX2_highest_2 (Nat.le_of_ble_eq_true rfl) rfl ?_
  refine G_iconst (pc := 3) dX2_highest_3 (by decide) ?_
  refine G_istore_n (pc := 4) dX2_highest_4 (Nat.le_of_ble_eq_true rfl) rfl ?_
  exact loop 0 (by omega) (-2) (0, 0) (by omega) (Or.inl ⟨rfl, rfl, rfl⟩) rfl
theorem low_r {n B : Int} {ps f : Int → Int} (hn : 0 ≤ n) (hB : 0 ≤ B) (hf : ∀ j, -B ≤ f j ∧ f j ≤ B) : -B ≤ lowS n ps f ∧ lowS n ps f ≤ B := by
  unfold lowS
  refine itr_inv (F := lowStep ps f) (k := n) (P := fun q : Int × Int => -B ≤ q.2 ∧ q.2 ≤ B) (l0 := 0) (fun l a h0 h1 hP => ?_) 0 hn (0, 0) (Int.le_refl _) (by simp only; omega)
  have := hf l
  unfold lowStep
  split
  · simp only
    split <;> omega
  · exact hP
theorem hig_r {n B : Int} {ps f : Int → Int} (hn : 0 ≤ n) (hB : 0 ≤ B) (hf : ∀ j, -B ≤ f j ∧ f j ≤ B) : -B ≤ higS n ps f ∧ higS n ps f ≤ B := by
  unfold higS
  refine itr_inv (F := higStep ps f) (k := n) (P := fun q : Int × Int => -B ≤ q.2 ∧ q.2 ≤ B) (l0 := 0) (fun l a h0 h1 hP => ?_) 0 hn (0, 0) (Int.le_refl _) (by simp only; omega)
  have := hf l
  unfold higStep
  split
  · simp only
    split <;> omega
  · exact hP
def extS (n : Int) (ps f : Int → Int) : Int := if cntP n ps = 0 then 0 else higS n ps f - lowS n ps f + 1
theorem c_X2_extent_3_18 (t : Sto) (hn : 0 ≤ t 267 0 ∧ t 267 0 ≤ 24) (hB : BD (t 18)) : CT yX2_extent cX2_extent 2 (some .int) 1 [mP 3, mP 18] t (fun a t' => a = some (mI (extS (t 267 0) (t 21) (t 18))) ∧ t' = t) := by
  refine CT_of rfl rfl (Nat.le_of_ble_eq_true rfl) (fun E ht has => ?_)
  have h1 := low_r (n := t 267 0) (B := 1000000) (ps := t 21) (f := t 18) hn.1 (by omega) hB
  have h2 := hig_r (n := t 267 0) (B := 1000000) (ps := t 21) (f := t 18) hn.1 (by omega) hB
  refine G_aload_n (pc := 0) dX2_extent_0 rfl ?_
  refine G_cV1 (pc := 1) (c_X2_count_3 _ (by omega)) dX2_extent_1 ml_X2_59 rfl rfl rfl (by decide) (Nat.le_of_ble_eq_true rfl) ?_
  refine G_if_ne (pc := 4) (tgt := 11) dX2_extent_4 rfl (fun h_4 => ?_) (fun h_4 => ?_)
  · try simp only [bq0, ne_eq, Classical.not_not] at h_4
    refine G_aload_n (pc := 11) dX2_extent_11 rfl ?_
    refine G_aload_n (pc := 12) dX2_extent_12 rfl ?_
    refine G_cV1 (pc := 13) (c_X2_highest_3_18 _ (by omega)) dX2_extent_13 ml_X2_63 rfl rfl rfl (by decide) (Nat.le_of_ble_eq_true rfl) ?_
    refine G_aload_n (pc := 16) dX2_extent_16 rfl ?_
    refine G_aload_n (pc := 17) dX2_extent_17 rfl ?_
    refine G_cV1 (pc := 18) (c_X2_lowest_3_18 _ (by omega)) dX2_extent_18 ml_X2_67 rfl rfl rfl (by decide) (Nat.le_of_ble_eq_true rfl) ?_
    refine G_isub (pc := 21) dX2_extent_21 (by omega) ?_
    refine G_iconst (pc := 22) dX2_extent_22 (by decide) ?_
    refine G_iadd (pc := 23) dX2_extent_23 (by omega) ?_
    exact G_ireturn (pc := 24) dX2_extent_24 (qeq (by unfold extS; grind))
  · try simp only [bq0, ne_eq, Classical.not_not] at h_4
    refine G_iconst (pc := 7) dX2_extent_7 (by decide) ?_
    refine G_goto (pc := 8) (tgt := 24) dX2_extent_8 rfl ?_
    exact G_ireturn (pc := 24) dX2_extent_24 (qeq (by unfold extS; grind))
theorem c_X2_extent_3_19 (t : Sto) (hn : 0 ≤ t 267 0 ∧ t 267 0 ≤ 24) (hB : BD (t 19)) : CT yX2_extent cX2_extent 2 (some .int) 1 [mP 3, mP 19] t (fun a t' => a = some (mI (extS (t 267 0) (t 21) (t 19))) ∧ t' = t) := by
  refine CT_of rfl rfl (Nat.le_of_ble_eq_true rfl) (fun E ht has => ?_)
  have h1 := low_r (n := t 267 0) (B := 1000000) (ps := t 21) (f := t 19) hn.1 (by omega) hB
  have h2 := hig_r (n := t 267 0) (B := 1000000) (ps := t 21) (f := t 19) hn.1 (by omega) hB
  refine G_aload_n (pc := 0) dX2_extent_0 rfl ?_
  refine G_cV1 (pc := 1) (c_X2_count_3 _ (by omega)) dX2_extent_1 ml_X2_59 rfl rfl rfl (by decide) (Nat.le_of_ble_eq_true rfl) ?_
  refine G_if_ne (pc := 4) (tgt := 11) dX2_extent_4 rfl (fun h_4 => ?_) (fun h_4 => ?_)
  · try simp only [bq0, ne_eq, Classical.not_not] at h_4
    refine G_aload_n (pc := 11) dX2_extent_11 rfl ?_
    refine G_aload_n (pc := 12) dX2_extent_12 rfl ?_
    refine G_cV1 (pc := 13) (c_X2_highest_3_19 _ (by omega)) dX2_extent_13 ml_X2_63 rfl rfl rfl (by decide) (Nat.le_of_ble_eq_true rfl) ?_
    refine G_aload_n (pc := 16) dX2_extent_16 rfl ?_
    refine G_aload_n (pc := 17) dX2_extent_17 rfl ?_
    refine G_cV1 (pc := 18) (c_X2_lowest_3_19 _ (by omega)) dX2_extent_18 ml_X2_67 rfl rfl rfl (by decide) (Nat.le_of_ble_eq_true rfl) ?_
    refine G_isub (pc := 21) dX2_extent_21 (by omega) ?_
    refine G_iconst (pc := 22) dX2_extent_22 (by decide) ?_
    refine G_iadd (pc := 23) dX2_extent_23 (by omega) ?_
    exact G_ireturn (pc := 24) dX2_extent_24 (qeq (by unfold extS; grind))
  · try simp only [bq0, ne_eq, Classical.not_not] at h_4
    refine G_iconst (pc := 7) dX2_extent_7 (by decide) ?_
    refine G_goto (pc := 8) (tgt := 24) dX2_extent_8 rfl ?_
    exact G_ireturn (pc := 24) dX2_extent_24 (qeq (by unfold extS; grind))
