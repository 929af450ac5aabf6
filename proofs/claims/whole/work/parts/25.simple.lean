/-! PLACES: what is told -/
theorem dist_congr {n : Int} {xs ys ls xs' ys' ls' : Int → Int} (h : ∀ r, 0 ≤ r → r < n → xs r = xs' r ∧ ys r = ys' r ∧ ls r = ls' r) {a w b : Int} (ha : 0 ≤ a ∧ a < n) (hb : 0 ≤ b ∧ b < n) : distS xs ys ls a w b = distS xs' ys' ls' a w b := by
  have h1 := h a ha.1 ha.2
  have h2 := h b hb.1 hb.2
  unfold distS dlS
  rw [h1.1, h1.2.1, h1.2.2, h2.1, h2.2.1, h2.2.2]
theorem str_congr {n : Int} {ps xs ys ls ps' xs' ys' ls' : Int → Int} (h : ∀ r, 0 ≤ r → r < n → ps r = ps' r ∧ xs r = xs' r ∧ ys r = ys' r ∧ ls r = ls' r) {a w b : Int} (ha : 0 ≤ a ∧ a < n) (hb : 0 ≤ b ∧ b < n) : strS n ps xs ys ls a w b = strS n ps' xs' ys' ls' a w b := by
  have hd : ∀ r, 0 ≤ r → r < n → distS xs ys ls a w r = distS xs' ys' ls' a w r := fun r h0 h1 => dist_congr (n := n) (fun q q0 q1 => (h q q0 q1).2) ha ⟨h0, h1⟩
  unfold strS
  rw [hd b hb.1 hb.2]
  have e : fst (nearP ps xs ys ls a w (distS xs' ys' ls' a w b)) 0 n = fst (nearP ps' xs' ys' ls' a w (distS xs' ys' ls' a w b)) 0 n := by
    apply fst_congr
    intro r h0 h1
    unfold nearP
    rw [hd r h0 h1, (h r h0 h1).1]
  rw [e]
theorem cost_congr {n k : Int} {fr di to bo ps xs ys ls ps' xs' ys' ls' : Int → Int} (hS : SOK n k fr di to bo) (h : ∀ r, 0 ≤ r → r < n → ps r = ps' r ∧ xs r = xs' r ∧ ys r = ys' r ∧ ls r = ls' r) : costS n k fr di to ps xs ys ls = costS n k fr di to ps' xs' ys' ls' ∧ bentS n k fr di to ps xs ys ls = bentS n k fr di to ps' xs' ys' ls' := by
  have hw : ∀ l, 0 ≤ l → l < k → (wghP fr to ps l ↔ wghP fr to ps' l) := fun l h0 h1 => by
    have hl := hS.2 l h0 h1
    unfold wghP
    rw [(h _ hl.1.1 hl.1.2).1, (h _ hl.2.1.1 hl.2.1.2).1]
  have hs : ∀ l, 0 ≤ l → l < k → strS n ps xs ys ls (fr l) (di l) (to l) = strS n ps' xs' ys' ls' (fr l) (di l) (to l) := fun l h0 h1 => str_congr h (hS.2 l h0 h1).1 (hS.2 l h0 h1).2.1
  constructor
  · unfold costS
    refine sumI_congr (fun l h0 h1 => ?_) 0 hS.1.2.2.1 (Int.le_refl _)
    unfold clS
    rw [hs l h0 h1]
    by_cases q : wghP fr to ps l
    · rw [if_pos q, if_pos ((hw l h0 h1).mp q)]
    · rw [if_neg q, if_neg (fun z => q ((hw l h0 h1).mpr z))]
  · unfold bentS
    refine sumI_congr (fun l h0 h1 => ?_) 0 hS.1.2.2.1 (Int.le_refl _)
    unfold blS
    rw [hs l h0 h1]
    by_cases q : wghP fr to ps l
    · by_cases q2 : strS n ps' xs' ys' ls' (fr l) (di l) (to l) = 0
      · rw [if_pos ⟨q, q2⟩, if_pos ⟨(hw l h0 h1).mp q, q2⟩]
      · rw [if_neg (fun z => q2 z.2), if_neg (fun z => q2 z.2)]
    · rw [if_neg (fun z => q z.1), if_neg (fun z => q ((hw l h0 h1).mpr z.1))]
theorem BD_glue {n : Int} {f g : Int → Int} (hf : BD f) (hg : BD g) : BD (glue n f g) := by
  intro j
  unfold glue
  split
  · exact hf j
  · exact hg j
def leastR (dp : Int) (al : Int → Int) (p : Int) : Int := if 0 ≤ p ∧ p ≤ 23 then (if p < dp then (if al p = 0 then 0 else 1) else -2) else -1
theorem c_X3_leastness (t : Sto) (p : Int) (hp : 0 ≤ p ∧ p ≤ 23) : CT yX3_leastness cX3_leastness 2 (some .int) 0 [mP 5, mI p] t (fun a t' => a = some (mI (leastR (t 529 0) (t 27) p)) ∧ t' = t) := by
  refine CT_of rfl rfl (Nat.le_of_ble_eq_true rfl) (fun E ht has => ?_)
  refine G_iload_n (pc := 0) dX3_leastness_0 rfl ?_
  refine G_aload_n (pc := 1) dX3_leastness_1 rfl ?_
  refine G_getI (pc := 2) dX3_leastness_2 fk_X3_55 rfl rfl rfl ?_
  refine G_icmp_lt (pc := 5) (tgt := 11) dX3_leastness_5 rfl (fun h_5 => ?_) (fun h_5 => ?_)
  · refine G_aload_n (pc := 11) dX3_leastness_11 rfl ?_
    refine G_getP (pc := 12) dX3_leastness_12 fk_X3_22 rfl rfl rfl ?_
    refine G_iload_n (pc := 15) dX3_leastness_15 rfl ?_
    refine G_baload (pc := 16) dX3_leastness_16 rfl rfl (by omega) ?_
    refine G_if_eq (pc := 17) (tgt := 24) dX3_leastness_17 rfl (fun h_17 => ?_) (fun h_17 => ?_)
    · try simp only [bq0, ne_eq, Classical.not_not] at h_17
      refine G_iconst (pc := 24) dX3_leastness_24 (by decide) ?_
      exact G_ireturn (pc := 25) dX3_leastness_25 (qeq (by unfold leastR; grind))
    · try simp only [bq0, ne_eq, Classical.not_not] at h_17
      refine G_iconst (pc := 20) dX3_leastness_20 (by decide) ?_
      refine G_goto (pc := 21) (tgt := 25) dX3_leastness_21 rfl ?_
      exact G_ireturn (pc := 25) dX3_leastness_25 (qeq (by unfold leastR; grind))
  · refine G_bipush (pc := 8) (x := (-2)) dX3_leastness_8 rfl (by decide) ?_
    exact G_ireturn (pc := 10) dX3_leastness_10 (qeq (by unfold leastR; grind))
theorem c_X8_least (t : Sto) (p : Int) : CT yX8_least cX8_least 2 (some .int) 1 [mP 0, mI p] t (fun a t' => a = some (mI (leastR (t 529 0) (t 27) p)) ∧ t' = t) := by
  refine CT_of rfl rfl (Nat.le_of_ble_eq_true rfl) (fun E ht has => ?_)
  refine G_iload_n (pc := 0) dX8_least_0 rfl ?_
  refine G_if_lt (pc := 1) (tgt := 10) dX8_least_1 rfl (fun h_1 => ?_) (fun h_1 => ?_)
  · refine G_iconst (pc := 10) dX8_least_10 (by decide) ?_
    refine G_goto (pc := 11) (tgt := 22) dX8_least_11 rfl ?_
    exact G_ireturn (pc := 22) dX8_least_22 (qeq (by first | rfl | (unfold leastR; grind)))
  · refine G_iload_n (pc := 4) dX8_least_4 rfl ?_
    refine G_bipush (pc := 5) (x := 24) dX8_least_5 rfl (by decide) ?_
    refine G_icmp_lt (pc := 7) (tgt := 14) dX8_least_7 rfl (fun h_7 => ?_) (fun h_7 => ?_)
    · refine G_aload_n (pc := 14) dX8_least_14 rfl ?_
      refine G_getP (pc := 15) dX8_least_15 fk_X8_37 rfl rfl rfl ?_
      refine G_iload_n (pc := 18) dX8_least_18 rfl ?_
      refine G_cV1 (pc := 19) (c_X3_leastness _ _ (by omega)) dX8_least_19 ml_X8_150 rfl rfl rfl (by decide) (Nat.le_of_ble_eq_true rfl) ?_
      exact G_ireturn (pc := 22) dX8_least_22 (qeq (by first | rfl | (unfold leastR; grind)))
    · refine G_iconst (pc := 10) dX8_least_10 (by decide) ?_
      refine G_goto (pc := 11) (tgt := 22) dX8_least_11 rfl ?_
      exact G_ireturn (pc := 22) dX8_least_22 (qeq (by first | rfl | (unfold leastR; grind)))
theorem c_X9_least (t : Sto) (p : Int) : CT yX9_least cX9_least 2 (some .int) 1 [mP 31, mI p] t (fun a t' => a = some (mI (leastR (t 2198 0) (t 43) p)) ∧ t' = t) := by
  refine CT_of rfl rfl (Nat.le_of_ble_eq_true rfl) (fun E ht has => ?_)
  refine G_iload_n (pc := 0) dX9_least_0 rfl ?_
  refine G_iconst (pc := 1) dX9_least_1 (by decide) ?_
  refine G_bipush (pc := 2) (x := 23) dX9_least_2 rfl (by decide) ?_
  refine G_cS1 (pc := 4) (c_X9_in _ _ _ _) dX9_least_4 ml_X9_90 rfl (by decide) (Nat.le_of_ble_eq_true rfl) ?_
  refine G_if_ne (pc := 7) (tgt := 14) dX9_least_7 rfl (fun h_7 => ?_) (fun h_7 => ?_)
  · try simp only [bq0, ne_eq, Classical.not_not] at h_7
    refine G_iload_n (pc := 14) dX9_least_14 rfl ?_
    refine G_aload_n (pc := 15) dX9_least_15 rfl ?_
    refine G_getI (pc := 16) dX9_least_16 fk_X9_200 rfl rfl rfl ?_
    refine G_icmp_lt (pc := 19) (tgt := 27) dX9_least_19 rfl (fun h_19 => ?_) (fun h_19 => ?_)
    · refine G_aload_n (pc := 27) dX9_least_27 rfl ?_
      refine G_getP (pc := 28) dX9_least_28 fk_X9_44 rfl rfl rfl ?_
      refine G_iload_n (pc := 31) dX9_least_31 rfl ?_
      refine G_baload (pc := 32) dX9_least_32 rfl rfl (by omega) ?_
      refine G_if_eq (pc := 33) (tgt := 40) dX9_least_33 rfl (fun h_33 => ?_) (fun h_33 => ?_)
      · try simp only [bq0, ne_eq, Classical.not_not] at h_33
        refine G_iconst (pc := 40) dX9_least_40 (by decide) ?_
        exact G_ireturn (pc := 41) dX9_least_41 (qeq (by unfold leastR; grind))
      · try simp only [bq0, ne_eq, Classical.not_not] at h_33
        refine G_iconst (pc := 36) dX9_least_36 (by decide) ?_
        refine G_goto (pc := 37) (tgt := 41) dX9_least_37 rfl ?_
        exact G_ireturn (pc := 41) dX9_least_41 (qeq (by unfold leastR; grind))
    · refine G_bipush (pc := 22) (x := (-2)) dX9_least_22 rfl (by decide) ?_
      refine G_goto (pc := 24) (tgt := 41) dX9_least_24 rfl ?_
      exact G_ireturn (pc := 41) dX9_least_41 (qeq (by unfold leastR; grind))
  · try simp only [bq0, ne_eq, Classical.not_not] at h_7
    refine G_iconst (pc := 10) dX9_least_10 (by decide) ?_
    refine G_goto (pc := 11) (tgt := 41) dX9_least_11 rfl ?_
    exact G_ireturn (pc := 41) dX9_least_41 (qeq (by unfold leastR; grind))
theorem c_X8_steps (t : Sto) : CT yX8_steps cX8_steps 1 (some .int) 0 [mP 0] t (fun a t' => a = some (mI (t 530 0)) ∧ t' = t) := by
  refine CT_of rfl rfl (Nat.le_of_ble_eq_true rfl) (fun E ht has => ?_)
  refine G_aload_n (pc := 0) dX8_steps_0 rfl ?_
  refine G_getP (pc := 1) dX8_steps_1 fk_X8_37 rfl rfl rfl ?_
  refine G_getI (pc := 4) dX8_steps_4 fk_X8_153 rfl rfl rfl ?_
  exact G_ireturn (pc := 7) dX8_steps_7 (qeq (by first | rfl | omega | (split <;> omega) | grind))
theorem c_X9_steps (t : Sto) : CT yX9_steps cX9_steps 1 (some .int) 0 [mP 31] t (fun a t' => a = some (mI (t 2197 0)) ∧ t' = t) := by
  refine CT_of rfl rfl (Nat.le_of_ble_eq_true rfl) (fun E ht has => ?_)
  refine G_aload_n (pc := 0) dX9_steps_0 rfl ?_
  refine G_getI (pc := 1) dX9_steps_1 fk_X9_197 rfl rfl rfl ?_
  exact G_ireturn (pc := 4) dX9_steps_4 (qeq (by first | rfl | omega | (split <;> omega) | grind))
def placeR (n : Int) (ps xs ys ls : Int → Int) (r w : Int) : Int := if (0 ≤ r ∧ r < n) ∧ (0 ≤ w ∧ w ≤ 2) then (if ps r = 0 then -1002 else if w = 0 then xs r else if w = 1 then ys r else ls r) else -1001
theorem c_X8_place (t : Sto) (r w : Int) (hn : 0 ≤ t 267 0 ∧ t 267 0 ≤ 24) : CT yX8_place cX8_place 3 (some .int) 1 [mP 0, mI r, mI w] t (fun a t' => a = some (mI (placeR (t 267 0) (t 21) (t 18) (t 19) (t 20) r w)) ∧ t' = t) := by
  refine CT_of rfl rfl (Nat.le_of_ble_eq_true rfl) (fun E ht has => ?_)
  refine G_aload_n (pc := 0) dX8_place_0 rfl ?_
  refine G_getP (pc := 1) dX8_place_1 fk_X8_10 rfl rfl rfl ?_
  refine G_iload_n (pc := 4) dX8_place_4 rfl ?_
  refine G_cV1 (pc := 5) (c_X5_isRoom _ _) dX8_place_5 ml_X8_69 rfl rfl rfl (by decide) (Nat.le_of_ble_eq_true rfl) ?_
  refine G_if_eq (pc := 8) (tgt := 20) dX8_place_8 rfl (fun h_8 => ?_) (fun h_8 => ?_)
  · try simp only [bq0, ne_eq, Classical.not_not] at h_8
    refine G_sipush (pc := 20) (x := (-1001)) dX8_place_20 rfl (by decide) ?_
    exact G_ireturn (pc := 23) dX8_place_23 (qeq (by unfold placeR; grind))
  · try simp only [bq0, ne_eq, Classical.not_not] at h_8
    refine G_iload_n (pc := 11) dX8_place_11 rfl ?_
    refine G_if_lt (pc := 12) (tgt := 20) dX8_place_12 rfl (fun h_12 => ?_) (fun h_12 => ?_)
    · refine G_sipush (pc := 20) (x := (-1001)) dX8_place_20 rfl (by decide) ?_
      exact G_ireturn (pc := 23) dX8_place_23 (qeq (by unfold placeR; grind))
    · refine G_iload_n (pc := 15) dX8_place_15 rfl ?_
      refine G_iconst (pc := 16) dX8_place_16 (by decide) ?_
      refine G_icmp_le (pc := 17) (tgt := 24) dX8_place_17 rfl (fun h_17 => ?_) (fun h_17 => ?_)
      · refine G_aload_n (pc := 24) dX8_place_24 rfl ?_
        refine G_getP (pc := 25) dX8_place_25 fk_X8_28 rfl rfl rfl ?_
        refine G_getP (pc := 28) dX8_place_28 fk_X8_156 rfl rfl rfl ?_
        refine G_iload_n (pc := 31) dX8_place_31 rfl ?_
        refine G_baload (pc := 32) dX8_place_32 rfl rfl (by omega) ?_
        refine G_if_ne (pc := 33) (tgt := 40) dX8_place_33 rfl (fun h_33 => ?_) (fun h_33 => ?_)
        · try simp only [bq0, ne_eq, Classical.not_not] at h_33
          refine G_iload_n (pc := 40) dX8_place_40 rfl ?_
          rcases (show w = 0 ∨ w = 1 ∨ w = 2 by omega) with rfl | rfl | rfl
          · refine G_lookup (pc := 41) (tgt := 68) dX8_place_41 rfl (by rfl) rfl ?_
            refine G_aload_n (pc := 68) dX8_place_68 rfl ?_
            refine G_getP (pc := 69) dX8_place_69 fk_X8_28 rfl rfl rfl ?_
            refine G_getP (pc := 72) dX8_place_72 fk_X8_159 rfl rfl rfl ?_
            refine G_iload_n (pc := 75) dX8_place_75 rfl ?_
            refine G_iaload (pc := 76) dX8_place_76 rfl rfl (by omega) ?_
            exact G_ireturn (pc := 77) dX8_place_77 (qeq (by unfold placeR; grind))
          · refine G_lookup (pc := 41) (tgt := 78) dX8_place_41 rfl (by rfl) rfl ?_
            refine G_aload_n (pc := 78) dX8_place_78 rfl ?_
            refine G_getP (pc := 79) dX8_place_79 fk_X8_28 rfl rfl rfl ?_
            refine G_getP (pc := 82) dX8_place_82 fk_X8_162 rfl rfl rfl ?_
            refine G_iload_n (pc := 85) dX8_place_85 rfl ?_
            refine G_iaload (pc := 86) dX8_place_86 rfl rfl (by omega) ?_
            exact G_ireturn (pc := 87) dX8_place_87 (qeq (by unfold placeR; grind))
          · refine G_lookup (pc := 41) (tgt := 88) dX8_place_41 rfl (by rfl) rfl ?_
            refine G_aload_n (pc := 88) dX8_place_88 rfl ?_
            refine G_getP (pc := 89) dX8_place_89 fk_X8_28 rfl rfl rfl ?_
            refine G_getP (pc := 92) dX8_place_92 fk_X8_165 rfl rfl rfl ?_
            refine G_iload_n (pc := 95) dX8_place_95 rfl ?_
            refine G_iaload (pc := 96) dX8_place_96 rfl rfl (by omega) ?_
            exact G_ireturn (pc := 97) dX8_place_97 (qeq (by unfold placeR; grind))
        · try simp only [bq0, ne_eq, Classical.not_not] at h_33
          refine G_sipush (pc := 36) (x := (-1002)) dX8_place_36 rfl (by decide) ?_
          exact G_ireturn (pc := 39) dX8_place_39 (qeq (by unfold placeR; grind))
      · refine G_sipush (pc := 20) (x := (-1001)) dX8_place_20 rfl (by decide) ?_
        exact G_ireturn (pc := 23) dX8_place_23 (qeq (by unfold placeR; grind))
theorem c_X9_place (t : Sto) (r w : Int) (hn : 0 ≤ t 2184 0 ∧ t 2184 0 ≤ 24) : CT yX9_place cX9_place 3 (some .int) 2 [mP 31, mI r, mI w] t (fun a t' => a = some (mI (placeR (t 2184 0) (t 39) (t 40) (t 41) (t 42) r w)) ∧ t' = t) := by
  refine CT_of rfl rfl (Nat.le_of_ble_eq_true rfl) (fun E ht has => ?_)
  refine G_aload_n (pc := 0) dX9_place_0 rfl ?_
  refine G_iload_n (pc := 1) dX9_place_1 rfl ?_
  refine G_cV1 (pc := 2) (c_X9_isRoom _ _ (by omega)) dX9_place_2 ml_X9_101 rfl rfl rfl (by decide) (Nat.le_of_ble_eq_true rfl) ?_
  refine G_if_eq (pc := 5) (tgt := 17) dX9_place_5 rfl (fun h_5 => ?_) (fun h_5 => ?_)
  · try simp only [bq0, ne_eq, Classical.not_not] at h_5
    refine G_sipush (pc := 17) (x := (-1001)) dX9_place_17 rfl (by decide) ?_
    exact G_ireturn (pc := 20) dX9_place_20 (qeq (by unfold placeR; grind))
  · try simp only [bq0, ne_eq, Classical.not_not] at h_5
    refine G_iload_n (pc := 8) dX9_place_8 rfl ?_
    refine G_iconst (pc := 9) dX9_place_9 (by decide) ?_
    refine G_iconst (pc := 10) dX9_place_10 (by decide) ?_
    refine G_cS1 (pc := 11) (c_X9_in _ _ _ _) dX9_place_11 ml_X9_90 rfl (by decide) (Nat.le_of_ble_eq_true rfl) ?_
    refine G_if_ne (pc := 14) (tgt := 21) dX9_place_14 rfl (fun h_14 => ?_) (fun h_14 => ?_)
    · try simp only [bq0, ne_eq, Classical.not_not] at h_14
      refine G_aload_n (pc := 21) dX9_place_21 rfl ?_
      refine G_getP (pc := 22) dX9_place_22 fk_X9_32 rfl rfl rfl ?_
      refine G_iload_n (pc := 25) dX9_place_25 rfl ?_
      refine G_baload (pc := 26) dX9_place_26 rfl rfl (by omega) ?_
      refine G_if_ne (pc := 27) (tgt := 36) dX9_place_27 rfl (fun h_27 => ?_) (fun h_27 => ?_)
      · try simp only [bq0, ne_eq, Classical.not_not] at h_27
        refine G_iload_n (pc := 36) dX9_place_36 rfl ?_
        refine G_if_ne (pc := 37) (tgt := 49) dX9_place_37 rfl (fun h_37 => ?_) (fun h_37 => ?_)
        · try simp only [bq0, ne_eq, Classical.not_not] at h_37
          refine G_iload_n (pc := 49) dX9_place_49 rfl ?_
          refine G_iconst (pc := 50) dX9_place_50 (by decide) ?_
          refine G_icmp_ne (pc := 51) (tgt := 63) dX9_place_51 rfl (fun h_51 => ?_) (fun h_51 => ?_)
          · refine G_aload_n (pc := 63) dX9_place_63 rfl ?_
            refine G_getP (pc := 64) dX9_place_64 fk_X9_41 rfl rfl rfl ?_
            refine G_iload_n (pc := 67) dX9_place_67 rfl ?_
            refine G_iaload (pc := 68) dX9_place_68 rfl rfl (by omega) ?_
            exact G_ireturn (pc := 69) dX9_place_69 (qeq (by unfold placeR; grind))
          · refine G_aload_n (pc := 54) dX9_place_54 rfl ?_
            refine G_getP (pc := 55) dX9_place_55 fk_X9_38 rfl rfl rfl ?_
            refine G_iload_n (pc := 58) dX9_place_58 rfl ?_
            refine G_iaload (pc := 59) dX9_place_59 rfl rfl (by omega) ?_
            refine G_goto (pc := 60) (tgt := 69) dX9_place_60 rfl ?_
            exact G_ireturn (pc := 69) dX9_place_69 (qeq (by unfold placeR; grind))
        · try simp only [bq0, ne_eq, Classical.not_not] at h_37
          refine G_aload_n (pc := 40) dX9_place_40 rfl ?_
          refine G_getP (pc := 41) dX9_place_41 fk_X9_35 rfl rfl rfl ?_
          refine G_iload_n (pc := 44) dX9_place_44 rfl ?_
          refine G_iaload (pc := 45) dX9_place_45 rfl rfl (by omega) ?_
          refine G_goto (pc := 46) (tgt := 69) dX9_place_46 rfl ?_
          exact G_ireturn (pc := 69) dX9_place_69 (qeq (by unfold placeR; grind))
      · try simp only [bq0, ne_eq, Classical.not_not] at h_27
        refine G_sipush (pc := 30) (x := (-1002)) dX9_place_30 rfl (by decide) ?_
        refine G_goto (pc := 33) (tgt := 69) dX9_place_33 rfl ?_
        exact G_ireturn (pc := 69) dX9_place_69 (qeq (by unfold placeR; grind))
    · try simp only [bq0, ne_eq, Classical.not_not] at h_14
      refine G_sipush (pc := 17) (x := (-1001)) dX9_place_17 rfl (by decide) ?_
      exact G_ireturn (pc := 20) dX9_place_20 (qeq (by unfold placeR; grind))
noncomputable def straightR (n k : Int) (fr di to ps xs ys ls : Int → Int) (l : Int) : Int := if 0 ≤ l ∧ l < k then (if ps (fr l) = 0 ∨ ps (to l) = 0 then -3 else if fr l = to l then 0 else if strS n ps xs ys ls (fr l) (di l) (to l) = 0 then -2 else strS n ps xs ys ls (fr l) (di l) (to l)) else -1
theorem c_X8_straight (t : Sto) (l : Int) (hS : SC t) (hX : BD (t 18)) (hY : BD (t 19)) (hL : BD (t 20)) : CT yX8_straight cX8_straight 3 (some .int) 2 [mP 0, mI l] t (fun a t' => a = some (mI (straightR (t 267 0) (t 272 0) (t 13) (t 14) (t 15) (t 21) (t 18) (t 19) (t 20) l)) ∧ t' = t) := by
  refine CT_of rfl rfl (Nat.le_of_ble_eq_true rfl) (fun E ht has => ?_)
  have hb := hS.1
  have hr := strS_r (t 267 0) (t 21) (t 18) (t 19) (t 20) (t 13 l) (t 14 l) (t 15 l)
  refine G_aload_n (pc := 0) dX8_straight_0 rfl ?_
  refine G_getP (pc := 1) dX8_straight_1 fk_X8_10 rfl rfl rfl ?_
  refine G_iload_n (pc := 4) dX8_straight_4 rfl ?_
  refine G_cV1 (pc := 5) (c_X5_isLink _ _) dX8_straight_5 ml_X8_89 rfl rfl rfl (by decide) (Nat.le_of_ble_eq_true rfl) ?_
  refine G_if_ne (pc := 8) (tgt := 13) dX8_straight_8 rfl (fun h_8 => ?_) (fun h_8 => ?_)
  · try simp only [bq0, ne_eq, Classical.not_not] at h_8
    refine G_aload_n (pc := 13) dX8_straight_13 rfl ?_
    refine G_getP (pc := 14) dX8_straight_14 fk_X8_28 rfl rfl rfl ?_
    refine G_iload_n (pc := 17) dX8_straight_17 rfl ?_
    refine G_cV1 (pc := 18) (c_X2_hasBothEnds_3 _ _ (by exact hS) (by omega)) dX8_straight_18 ml_X8_168 rfl rfl rfl (by decide) (Nat.le_of_ble_eq_true rfl) ?_
    refine G_if_ne (pc := 21) (tgt := 27) dX8_straight_21 rfl (fun h_21 => ?_) (fun h_21 => ?_)
    · try simp only [bq0, ne_eq, Classical.not_not] at h_21
      refine G_aload_n (pc := 27) dX8_straight_27 rfl ?_
      refine G_getP (pc := 28) dX8_straight_28 fk_X8_10 rfl rfl rfl ?_
      refine G_iload_n (pc := 31) dX8_straight_31 rfl ?_
      refine G_cV1 (pc := 32) (c_X5_isLoop _ _ (by omega)) dX8_straight_32 ml_X8_130 rfl rfl rfl (by decide) (Nat.le_of_ble_eq_true rfl) ?_
      refine G_if_eq (pc := 35) (tgt := 40) dX8_straight_35 rfl (fun h_35 => ?_) (fun h_35 => ?_)
      · try simp only [bq0, ne_eq, Classical.not_not] at h_35
        refine G_aload_n (pc := 40) dX8_straight_40 rfl ?_
        refine G_getP (pc := 41) dX8_straight_41 fk_X8_28 rfl rfl rfl ?_
        refine G_iload_n (pc := 44) dX8_straight_44 rfl ?_
        refine G_cV1 (pc := 45) (c_X2_straightLength_3 _ _ (by exact hS) (by omega) (by exact hX) (by exact hY) (by exact hL)) dX8_straight_45 ml_X8_171 rfl rfl rfl (by decide) (Nat.le_of_ble_eq_true rfl) ?_
        refine G_istore_n (pc := 48) dX8_straight_48 (Nat.le_of_ble_eq_true rfl) rfl ?_
        refine G_iload_n (pc := 49) dX8_straight_49 rfl ?_
        refine G_if_le (pc := 50) (tgt := 57) dX8_straight_50 rfl (fun h_50 => ?_) (fun h_50 => ?_)
        · refine G_bipush (pc := 57) (x := (-2)) dX8_straight_57 rfl (by decide) ?_
          exact G_ireturn (pc := 59) dX8_straight_59 (qeq (by unfold straightR; grind))
        · refine G_iload_n (pc := 53) dX8_straight_53 rfl ?_
          refine G_goto (pc := 54) (tgt := 59) dX8_straight_54 rfl ?_
          exact G_ireturn (pc := 59) dX8_straight_59 (qeq (by unfold straightR; grind))
      · try simp only [bq0, ne_eq, Classical.not_not] at h_35
        refine G_iconst (pc := 38) dX8_straight_38 (by decide) ?_
        exact G_ireturn (pc := 39) dX8_straight_39 (qeq (by unfold straightR; grind))
    · try simp only [bq0, ne_eq, Classical.not_not] at h_21
      refine G_bipush (pc := 24) (x := (-3)) dX8_straight_24 rfl (by decide) ?_
      exact G_ireturn (pc := 26) dX8_straight_26 (qeq (by unfold straightR; grind))
  · try simp only [bq0, ne_eq, Classical.not_not] at h_8
    refine G_iconst (pc := 11) dX8_straight_11 (by decide) ?_
    exact G_ireturn (pc := 12) dX8_straight_12 (qeq (by unfold straightR; grind))
theorem c_X8_cost (t : Sto) (hS : SC t) (hX : BD (t 18)) (hY : BD (t 19)) (hL : BD (t 20)) : CT yX8_cost cX8_cost 1 (some .int) 3 [mP 0] t (fun a t' => ∃ x, a = some (mI x) ∧ (x = costS (t 267 0) (t 272 0) (t 13) (t 14) (t 15) (t 21) (t 18) (t 19) (t 20) ∧ t' = t)) := by
  refine CT_of rfl rfl (Nat.le_of_ble_eq_true rfl) (fun E ht has => ?_)
  have hr := sumI_r (c := clS (t 267 0) (t 13) (t 14) (t 15) (t 21) (t 18) (t 19) (t 20)) (k := t 272 0) (B := 59) (fun j _ _ => clS_59 _ _ _ _ _ _ _ _ j) 0 hS.1.2.2.1 (Int.le_refl _)
  have hb := hS.1
  refine G_aload_n (pc := 0) dX8_cost_0 rfl ?_
  refine G_getP (pc := 1) dX8_cost_1 fk_X8_28 rfl rfl rfl ?_
  refine G_sipush (pc := 4) (x := 3600) dX8_cost_4 rfl (by decide) ?_
  refine G_cVg1 (pc := 7) (c_X2_costBelow_3 _ _ (by exact hS) (by exact hX) (by exact hY) (by exact hL)) dX8_cost_7 ml_X8_174 rfl rfl rfl (by decide) (Nat.le_of_ble_eq_true rfl) (fun r_7 t_7 hq_7 => ?_)
  obtain ⟨hq1, rfl⟩ := hq_7
  exact G_ireturn (pc := 10) dX8_cost_10 ⟨_, rfl, by (rcases hq1 with q | q; exact q; (unfold costS at q; omega)), rfl⟩
theorem c_X9_straight (t : Sto) (l : Int) (hS : SM t) (hp : ∀ r, t 39 r = 0 ∨ t 39 r = 1) (hX : BD (t 40)) (hY : BD (t 41)) (hL : BD (t 42)) (hX2 : BD (t 47)) (hY2 : BD (t 48)) (hL2 : BD (t 49)) : CT yX9_straight cX9_straight 3 (some .int) 4 [mP 31, mI l] t (fun a t' => ∃ x, a = some (mI x) ∧ (x = straightR (t 2184 0) (t 2188 0) (t 35) (t 36) (t 37) (t 39) (t 40) (t 41) (t 42) l ∧ (t' = t ∨ t' = loadM t))) := by
  refine CT_of rfl rfl (Nat.le_of_ble_eq_true rfl) (fun E ht has => ?_)
  have hb := hS.1
  obtain ⟨a46, a47, a48, a49⟩ := loadN_at t (t 2184 0)
  have ne : ∀ {w : Nat}, (w ≠ 46 ∧ w ≠ 47 ∧ w ≠ 48 ∧ w ≠ 49) → loadM t w = t w := fun h => loadN_ne t (t 2184 0) h
  have e1 := ne (w := 2184) (by decide)
  have e2 := ne (w := 2188) (by decide)
  have e3 := ne (w := 35) (by decide)
  have e4 := ne (w := 36) (by decide)
  have e5 := ne (w := 37) (by decide)
  have e6 := ne (w := 38) (by decide)
  have hS1 : SM (loadM t) := by unfold SM; rw [e1, e2, e3, e4, e5, e6]; exact hS
  have hstr : 0 ≤ l → l < t 2188 0 → strS (loadM t 2184 0) (loadM t 46) (loadM t 47) (loadM t 48) (loadM t 49) (loadM t 35 l) (loadM t 36 l) (loadM t 37 l) = strS (t 2184 0) (t 39) (t 40) (t 41) (t 42) (t 35 l) (t 36 l) (t 37 l) := by
    intro h0 h1
    rw [e1, e3, e4, e5]
    refine str_congr (fun r r0 r1 => ?_) (hS.2 l h0 h1).1 (hS.2 l h0 h1).2.1
    unfold loadM
    rw [a46, a47, a48, a49, glue_at ⟨r0, r1⟩, glue_at ⟨r0, r1⟩, glue_at ⟨r0, r1⟩, glue_at ⟨r0, r1⟩]
    exact ⟨rfl, rfl, rfl, rfl⟩
  refine G_aload_n (pc := 0) dX9_straight_0 rfl ?_
  refine G_iload_n (pc := 1) dX9_straight_1 rfl ?_
  refine G_cV1 (pc := 2) (c_X9_isLink _ _ (by omega)) dX9_straight_2 ml_X9_113 rfl rfl rfl (by decide) (Nat.le_of_ble_eq_true rfl) ?_
  refine G_if_ne (pc := 5) (tgt := 10) dX9_straight_5 rfl (fun h_5 => ?_) (fun h_5 => ?_)
  · try simp only [bq0, ne_eq, Classical.not_not] at h_5
    obtain ⟨hfr, hto, -, -⟩ := hS.2 l h_5.1 h_5.2
    refine G_aload_n (pc := 10) dX9_straight_10 rfl ?_
    refine G_getP (pc := 11) dX9_straight_11 fk_X9_32 rfl rfl rfl ?_
    refine G_aload_n (pc := 14) dX9_straight_14 rfl ?_
    refine G_getP (pc := 15) dX9_straight_15 fk_X9_19 rfl rfl rfl ?_
    refine G_iload_n (pc := 18) dX9_straight_18 rfl ?_
    refine G_iaload (pc := 19) dX9_straight_19 rfl rfl (by omega) ?_
    refine G_baload (pc := 20) dX9_straight_20 rfl rfl (by omega) ?_
    refine G_if_eq (pc := 21) (tgt := 38) dX9_straight_21 rfl (fun h_21 => ?_) (fun h_21 => ?_)
    · try simp only [bq0, ne_eq, Classical.not_not] at h_21
      refine G_bipush (pc := 38) (x := (-3)) dX9_straight_38 rfl (by decide) ?_
      exact G_ireturn (pc := 40) dX9_straight_40 ⟨_, rfl, by unfold straightR; grind, Or.inl rfl⟩
    · try simp only [bq0, ne_eq, Classical.not_not] at h_21
      refine G_aload_n (pc := 24) dX9_straight_24 rfl ?_
      refine G_getP (pc := 25) dX9_straight_25 fk_X9_32 rfl rfl rfl ?_
      refine G_aload_n (pc := 28) dX9_straight_28 rfl ?_
      refine G_getP (pc := 29) dX9_straight_29 fk_X9_25 rfl rfl rfl ?_
      refine G_iload_n (pc := 32) dX9_straight_32 rfl ?_
      refine G_iaload (pc := 33) dX9_straight_33 rfl rfl (by omega) ?_
      refine G_baload (pc := 34) dX9_straight_34 rfl rfl (by omega) ?_
      refine G_if_ne (pc := 35) (tgt := 41) dX9_straight_35 rfl (fun h_35 => ?_) (fun h_35 => ?_)
      · try simp only [bq0, ne_eq, Classical.not_not] at h_35
        refine G_aload_n (pc := 41) dX9_straight_41 rfl ?_
        refine G_cV0 (pc := 42) (c_X9_load _ (by omega) (by exact hp)) dX9_straight_42 ml_X9_215 rfl rfl rfl (by decide) (Nat.le_of_ble_eq_true rfl) ?_
        refine G_aload_n (pc := 45) dX9_straight_45 rfl ?_
        refine G_iload_n (pc := 46) dX9_straight_46 rfl ?_
        refine G_cV1 (pc := 47) (c_X9_isLoop _ _ (by omega)) dX9_straight_47 ml_X9_145 rfl rfl rfl (by decide) (Nat.le_of_ble_eq_true rfl) ?_
        rw [e3, e5]
        refine G_if_eq (pc := 50) (tgt := 57) dX9_straight_50 rfl (fun h_50 => ?_) (fun h_50 => ?_)
        · try simp only [bq0, ne_eq, Classical.not_not] at h_50
          refine G_aload_n (pc := 57) dX9_straight_57 rfl ?_
          refine G_iload_n (pc := 58) dX9_straight_58 rfl ?_
          refine G_cV1 (pc := 59) (c_X9_straightBy _ _ (by exact hS1) (by rw [e2]; omega) (by unfold loadM; rw [a47]; exact BD_glue hX hX2) (by unfold loadM; rw [a48]; exact BD_glue hY hY2) (by unfold loadM; rw [a49]; exact BD_glue hL hL2)) dX9_straight_59 ml_X9_148 rfl rfl rfl (by decide) (Nat.le_of_ble_eq_true rfl) ?_
          try rw [hstr h_5.1 h_5.2]
          refine G_istore_n (pc := 62) dX9_straight_62 (Nat.le_of_ble_eq_true rfl) rfl ?_
          refine G_aload_n (pc := 63) dX9_straight_63 rfl ?_
          refine G_iload_n (pc := 64) dX9_straight_64 rfl ?_
          refine G_cV1 (pc := 65) (c_X9_isLoop _ _ (by omega)) dX9_straight_65 ml_X9_145 rfl rfl rfl (by decide) (Nat.le_of_ble_eq_true rfl) ?_
          rw [e3, e5]
          refine G_if_eq (pc := 68) (tgt := 75) dX9_straight_68 rfl (fun h_68 => ?_) (fun h_68 => ?_)
          · try simp only [bq0, ne_eq, Classical.not_not] at h_68
            refine G_iload_n (pc := 75) dX9_straight_75 rfl ?_
            refine G_if_ne (pc := 76) (tgt := 84) dX9_straight_76 rfl (fun h_76 => ?_) (fun h_76 => ?_)
            · try simp only [bq0, ne_eq, Classical.not_not] at h_76
              refine G_iload_n (pc := 84) dX9_straight_84 rfl ?_
              exact G_ireturn (pc := 85) dX9_straight_85 ⟨_, rfl, by unfold straightR; grind, Or.inr rfl⟩
            · try simp only [bq0, ne_eq, Classical.not_not] at h_76
              refine G_bipush (pc := 79) (x := (-2)) dX9_straight_79 rfl (by decide) ?_
              refine G_goto (pc := 81) (tgt := 85) dX9_straight_81 rfl ?_
              exact G_ireturn (pc := 85) dX9_straight_85 ⟨_, rfl, by unfold straightR; grind, Or.inr rfl⟩
          · try simp only [bq0, ne_eq, Classical.not_not] at h_68
            refine G_iconst (pc := 71) dX9_straight_71 (by decide) ?_
            refine G_goto (pc := 72) (tgt := 85) dX9_straight_72 rfl ?_
            exact G_ireturn (pc := 85) dX9_straight_85 ⟨_, rfl, by unfold straightR; grind, Or.inr rfl⟩
        · try simp only [bq0, ne_eq, Classical.not_not] at h_50
          refine G_iconst (pc := 53) dX9_straight_53 (by decide) ?_
          refine G_goto (pc := 54) (tgt := 62) dX9_straight_54 rfl ?_
          try rw [hstr h_5.1 h_5.2]
          refine G_istore_n (pc := 62) dX9_straight_62 (Nat.le_of_ble_eq_true rfl) rfl ?_
          refine G_aload_n (pc := 63) dX9_straight_63 rfl ?_
          refine G_iload_n (pc := 64) dX9_straight_64 rfl ?_
          refine G_cV1 (pc := 65) (c_X9_isLoop _ _ (by omega)) dX9_straight_65 ml_X9_145 rfl rfl rfl (by decide) (Nat.le_of_ble_eq_true rfl) ?_
          rw [e3, e5]
          refine G_if_eq (pc := 68) (tgt := 75) dX9_straight_68 rfl (fun h_68 => ?_) (fun h_68 => ?_)
          · try simp only [bq0, ne_eq, Classical.not_not] at h_68
            refine G_iload_n (pc := 75) dX9_straight_75 rfl ?_
            refine G_if_ne (pc := 76) (tgt := 84) dX9_straight_76 rfl (fun h_76 => ?_) (fun h_76 => ?_)
            · try simp only [bq0, ne_eq, Classical.not_not] at h_76
              refine G_iload_n (pc := 84) dX9_straight_84 rfl ?_
              exact G_ireturn (pc := 85) dX9_straight_85 ⟨_, rfl, by unfold straightR; grind, Or.inr rfl⟩
            · try simp only [bq0, ne_eq, Classical.not_not] at h_76
              refine G_bipush (pc := 79) (x := (-2)) dX9_straight_79 rfl (by decide) ?_
              refine G_goto (pc := 81) (tgt := 85) dX9_straight_81 rfl ?_
              exact G_ireturn (pc := 85) dX9_straight_85 ⟨_, rfl, by unfold straightR; grind, Or.inr rfl⟩
          · try simp only [bq0, ne_eq, Classical.not_not] at h_68
            refine G_iconst (pc := 71) dX9_straight_71 (by decide) ?_
            refine G_goto (pc := 72) (tgt := 85) dX9_straight_72 rfl ?_
            exact G_ireturn (pc := 85) dX9_straight_85 ⟨_, rfl, by unfold straightR; grind, Or.inr rfl⟩
      · try simp only [bq0, ne_eq, Classical.not_not] at h_35
        refine G_bipush (pc := 38) (x := (-3)) dX9_straight_38 rfl (by decide) ?_
        exact G_ireturn (pc := 40) dX9_straight_40 ⟨_, rfl, by unfold straightR; grind, Or.inl rfl⟩
  · try simp only [bq0, ne_eq, Classical.not_not] at h_5
    refine G_iconst (pc := 8) dX9_straight_8 (by decide) ?_
    exact G_ireturn (pc := 9) dX9_straight_9 ⟨_, rfl, by unfold straightR; grind, Or.inl rfl⟩
theorem c_X9_cost (t : Sto) (hS : SM t) (hp : ∀ r, t 39 r = 0 ∨ t 39 r = 1) (hX : BD (t 40)) (hY : BD (t 41)) (hL : BD (t 42)) (hX2 : BD (t 47)) (hY2 : BD (t 48)) (hL2 : BD (t 49)) : CT yX9_cost cX9_cost 1 (some .int) 5 [mP 31] t (fun a t' => a = some (mI (costS (t 2184 0) (t 2188 0) (t 35) (t 36) (t 37) (t 39) (t 40) (t 41) (t 42))) ∧ t' = loadM t) := by
  refine CT_of rfl rfl (Nat.le_of_ble_eq_true rfl) (fun E ht has => ?_)
  have hb := hS.1
  obtain ⟨a46, a47, a48, a49⟩ := loadN_at t (t 2184 0)
  have ne : ∀ {w : Nat}, (w ≠ 46 ∧ w ≠ 47 ∧ w ≠ 48 ∧ w ≠ 49) → loadM t w = t w := fun h => loadN_ne t (t 2184 0) h
  have e1 := ne (w := 2184) (by decide)
  have e2 := ne (w := 2188) (by decide)
  have e3 := ne (w := 35) (by decide)
  have e4 := ne (w := 36) (by decide)
  have e5 := ne (w := 37) (by decide)
  have e6 := ne (w := 38) (by decide)
  have hS1 : SM (loadM t) := by unfold SM; rw [e1, e2, e3, e4, e5, e6]; exact hS
  have hcs : costS (loadM t 2184 0) (loadM t 2188 0) (loadM t 35) (loadM t 36) (loadM t 37) (loadM t 46) (loadM t 47) (loadM t 48) (loadM t 49) = costS (t 2184 0) (t 2188 0) (t 35) (t 36) (t 37) (t 39) (t 40) (t 41) (t 42) := by
    rw [e1, e2, e3, e4, e5]
    refine (cost_congr hS (fun r r0 r1 => ?_)).1
    unfold loadM
    rw [a46, a47, a48, a49, glue_at ⟨r0, r1⟩, glue_at ⟨r0, r1⟩, glue_at ⟨r0, r1⟩, glue_at ⟨r0, r1⟩]
    exact ⟨rfl, rfl, rfl, rfl⟩
  refine G_aload_n (pc := 0) dX9_cost_0 rfl ?_
  refine G_cV0 (pc := 1) (c_X9_load _ (by omega) (by exact hp)) dX9_cost_1 ml_X9_215 rfl rfl rfl (by decide) (Nat.le_of_ble_eq_true rfl) ?_
  refine G_aload_n (pc := 4) dX9_cost_4 rfl ?_
  refine G_cV1 (pc := 5) (c_X9_costNow _ (by exact hS1) (by unfold loadM; rw [a47]; exact BD_glue hX hX2) (by unfold loadM; rw [a48]; exact BD_glue hY hY2) (by unfold loadM; rw [a49]; exact BD_glue hL hL2)) dX9_cost_5 ml_X9_181 rfl rfl rfl (by decide) (Nat.le_of_ble_eq_true rfl) ?_
  exact G_ireturn (pc := 8) dX9_cost_8 (qeq' hcs rfl)
noncomputable def toldR (n k : Int) (fr to ps xs ys ls : Int → Int) (w : Int) : Int := if w = 0 then n else if w = 1 then k else if w = 2 then cntS n k fr to else if w = 3 then cntP n ps else if w = 4 then lowS n ps ls else if w = 5 then higS n ps ls else if w = 6 then extS n ps xs else if w = 7 then extS n ps ys else -1
theorem c_X8_told (t : Sto) (w : Int) (hS : SC t) (hX : BD (t 18)) (hY : BD (t 19)) : CT yX8_told cX8_told 2 (some .int) 3 [mP 0, mI w] t (fun a t' => ∃ x, a = some (mI x) ∧ (x = toldR (t 267 0) (t 272 0) (t 13) (t 15) (t 21) (t 18) (t 19) (t 20) w ∧ ∃ f, t' = sv t 17 f)) := by
  refine CT_of rfl rfl (Nat.le_of_ble_eq_true rfl) (fun E ht has => ?_)
  have hb := hS.1
  refine G_iload_n (pc := 0) dX8_told_0 rfl ?_
  rcases (show w = 0 ∨ w = 1 ∨ w = 2 ∨ w = 3 ∨ w = 4 ∨ w = 5 ∨ w = 6 ∨ w = 7 ∨ (w < 0 ∨ 7 < w) by omega) with h_1 | h_1 | h_1 | h_1 | h_1 | h_1 | h_1 | h_1 | h_1
  · subst h_1
    refine G_tableAt (pc := 1) (off := 47) (tgt := 48) dX8_told_1 (by decide) rfl rfl ?_
    refine G_aload_n (pc := 48) dX8_told_48 rfl ?_
    refine G_getP (pc := 49) dX8_told_49 fk_X8_10 rfl rfl rfl ?_
    refine G_getI (pc := 52) dX8_told_52 fk_X8_186 rfl rfl rfl ?_
    exact G_ireturn (pc := 55) dX8_told_55 ⟨_, rfl, by unfold toldR; rfl, t 17, (sv_id t 17).symm⟩
  · subst h_1
    refine G_tableAt (pc := 1) (off := 55) (tgt := 56) dX8_told_1 (by decide) rfl rfl ?_
    refine G_aload_n (pc := 56) dX8_told_56 rfl ?_
    refine G_getP (pc := 57) dX8_told_57 fk_X8_10 rfl rfl rfl ?_
    refine G_getI (pc := 60) dX8_told_60 fk_X8_96 rfl rfl rfl ?_
    exact G_ireturn (pc := 63) dX8_told_63 ⟨_, rfl, by unfold toldR; rfl, t 17, (sv_id t 17).symm⟩
  · subst h_1
    refine G_tableAt (pc := 1) (off := 63) (tgt := 64) dX8_told_1 (by decide) rfl rfl ?_
    refine G_aload_n (pc := 64) dX8_told_64 rfl ?_
    refine G_getP (pc := 65) dX8_told_65 fk_X8_19 rfl rfl rfl ?_
    refine G_aload_n (pc := 68) dX8_told_68 rfl ?_
    refine G_getP (pc := 69) dX8_told_69 fk_X8_10 rfl rfl rfl ?_
    refine G_cV1 (pc := 72) (c_X1_find_1 _ (by exact hS)) dX8_told_72 ml_X8_133 rfl rfl rfl (by decide) (Nat.le_of_ble_eq_true rfl) ?_
    exact G_ireturn (pc := 75) dX8_told_75 ⟨_, rfl, by unfold toldR; rfl, _, rfl⟩
  · subst h_1
    refine G_tableAt (pc := 1) (off := 75) (tgt := 76) dX8_told_1 (by decide) rfl rfl ?_
    refine G_aload_n (pc := 76) dX8_told_76 rfl ?_
    refine G_getP (pc := 77) dX8_told_77 fk_X8_28 rfl rfl rfl ?_
    refine G_cV1 (pc := 80) (c_X2_count_3 _ (by omega)) dX8_told_80 ml_X8_189 rfl rfl rfl (by decide) (Nat.le_of_ble_eq_true rfl) ?_
    exact G_ireturn (pc := 83) dX8_told_83 ⟨_, rfl, by unfold toldR; rfl, t 17, (sv_id t 17).symm⟩
  · subst h_1
    refine G_tableAt (pc := 1) (off := 83) (tgt := 84) dX8_told_1 (by decide) rfl rfl ?_
    refine G_aload_n (pc := 84) dX8_told_84 rfl ?_
    refine G_getP (pc := 85) dX8_told_85 fk_X8_28 rfl rfl rfl ?_
    refine G_aload_n (pc := 88) dX8_told_88 rfl ?_
    refine G_getP (pc := 89) dX8_told_89 fk_X8_28 rfl rfl rfl ?_
    refine G_getP (pc := 92) dX8_told_92 fk_X8_165 rfl rfl rfl ?_
    refine G_cV1 (pc := 95) (c_X2_lowest_3_20 _ (by omega)) dX8_told_95 ml_X8_192 rfl rfl rfl (by decide) (Nat.le_of_ble_eq_true rfl) ?_
    exact G_ireturn (pc := 98) dX8_told_98 ⟨_, rfl, by unfold toldR; rfl, t 17, (sv_id t 17).symm⟩
  · subst h_1
    refine G_tableAt (pc := 1) (off := 98) (tgt := 99) dX8_told_1 (by decide) rfl rfl ?_
    refine G_aload_n (pc := 99) dX8_told_99 rfl ?_
    refine G_getP (pc := 100) dX8_told_100 fk_X8_28 rfl rfl rfl ?_
    refine G_aload_n (pc := 103) dX8_told_103 rfl ?_
    refine G_getP (pc := 104) dX8_told_104 fk_X8_28 rfl rfl rfl ?_
    refine G_getP (pc := 107) dX8_told_107 fk_X8_165 rfl rfl rfl ?_
    refine G_cV1 (pc := 110) (c_X2_highest_3_20 _ (by omega)) dX8_told_110 ml_X8_196 rfl rfl rfl (by decide) (Nat.le_of_ble_eq_true rfl) ?_
    exact G_ireturn (pc := 113) dX8_told_113 ⟨_, rfl, by unfold toldR; rfl, t 17, (sv_id t 17).symm⟩
  · subst h_1
    refine G_tableAt (pc := 1) (off := 113) (tgt := 114) dX8_told_1 (by decide) rfl rfl ?_
    refine G_aload_n (pc := 114) dX8_told_114 rfl ?_
    refine G_getP (pc := 115) dX8_told_115 fk_X8_28 rfl rfl rfl ?_
    refine G_aload_n (pc := 118) dX8_told_118 rfl ?_
    refine G_getP (pc := 119) dX8_told_119 fk_X8_28 rfl rfl rfl ?_
    refine G_getP (pc := 122) dX8_told_122 fk_X8_159 rfl rfl rfl ?_
    refine G_cV1 (pc := 125) (c_X2_extent_3_18 _ (by omega) (by exact hX)) dX8_told_125 ml_X8_199 rfl rfl rfl (by decide) (Nat.le_of_ble_eq_true rfl) ?_
    exact G_ireturn (pc := 128) dX8_told_128 ⟨_, rfl, by unfold toldR; rfl, t 17, (sv_id t 17).symm⟩
  · subst h_1
    refine G_tableAt (pc := 1) (off := 128) (tgt := 129) dX8_told_1 (by decide) rfl rfl ?_
    refine G_aload_n (pc := 129) dX8_told_129 rfl ?_
    refine G_getP (pc := 130) dX8_told_130 fk_X8_28 rfl rfl rfl ?_
    refine G_aload_n (pc := 133) dX8_told_133 rfl ?_
    refine G_getP (pc := 134) dX8_told_134 fk_X8_28 rfl rfl rfl ?_
    refine G_getP (pc := 137) dX8_told_137 fk_X8_162 rfl rfl rfl ?_
    refine G_cV1 (pc := 140) (c_X2_extent_3_19 _ (by omega) (by exact hY)) dX8_told_140 ml_X8_199 rfl rfl rfl (by decide) (Nat.le_of_ble_eq_true rfl) ?_
    exact G_ireturn (pc := 143) dX8_told_143 ⟨_, rfl, by unfold toldR; rfl, t 17, (sv_id t 17).symm⟩
  · refine G_tableOut (pc := 1) (tgt := 144) dX8_told_1 h_1 rfl ?_
    refine G_iconst (pc := 144) dX8_told_144 (by decide) ?_
    exact G_ireturn (pc := 145) dX8_told_145 ⟨_, rfl, by unfold toldR; grind, t 17, (sv_id t 17).symm⟩
theorem c_X9_told (t : Sto) (w : Int) (hS : SM t) (hX : BD (t 40)) (hY : BD (t 41)) : CT yX9_told cX9_told 8 (some .int) 1 [mP 31, mI w] t (fun a t' => a = some (mI (toldR (t 2184 0) (t 2188 0) (t 35) (t 37) (t 39) (t 40) (t 41) (t 42) w)) ∧ t' = fpM t) := by
  refine CT_of rfl rfl (Nat.le_of_ble_eq_true rfl) (fun E ht has => ?_)
  have hb := hS.1
  have hlx := low_r (n := t 2184 0) (B := 1000000) (ps := t 39) (f := t 40) hb.1 (by omega) hX
  have hly := low_r (n := t 2184 0) (B := 1000000) (ps := t 39) (f := t 41) hb.1 (by omega) hY
  have hhx := hig_r (n := t 2184 0) (B := 1000000) (ps := t 39) (f := t 40) hb.1 (by omega) hX
  have hhy := hig_r (n := t 2184 0) (B := 1000000) (ps := t 39) (f := t 41) hb.1 (by omega) hY
  have e1 := fpM_ne t (w := 2184) (by decide)
  have e2 := fpM_ne t (w := 2188) (by decide)
  have e3 := fpM_2201 t
  have e4 := fpM_ne t (w := 39) (by decide)
  have e5 := fpM_ne t (w := 40) (by decide)
  have e6 := fpM_ne t (w := 41) (by decide)
  have tail : ∀ c lo hi ea so r0 : Int, c = cntP (t 2184 0) (t 39) → lo = lowS (t 2184 0) (t 39) (t 42) → hi = higS (t 2184 0) (t 39) (t 42) → ea = higS (t 2184 0) (t 39) (t 40) → so = higS (t 2184 0) (t 39) (t 41) → G E cX9_told RX9 (some .int) 1 161 [some (mP 31), some (mI w), some (mI c), some (mI lo), some (mI hi), some (mI ea), some (mI so), some (mI r0)] [] t (fun a t' => a = some (mI (toldR (t 2184 0) (t 2188 0) (t 35) (t 37) (t 39) (t 40) (t 41) (t 42) w)) ∧ t' = fpM t) := by
    intro c lo hi ea so r0 hc hlo hhi hea hso
    refine G_aload_n (pc := 161) dX9_told_161 rfl ?_
    refine G_cV0 (pc := 162) (c_X9_findParts _ (by exact hS)) dX9_told_162 ml_X9_129 rfl rfl rfl (by decide) (Nat.le_of_ble_eq_true rfl) ?_
    refine G_join (pc := 165) (P := fun v => v = (if c = 0 then (0 : Int) else 1)) 174 (fun v_174 hv_174 => ?_) (fun j_174 => ?_)
    · refine G_istore (pc := 174) dX9_told_174 (Nat.le_of_ble_eq_true rfl) rfl ?_
      refine G_iload_n (pc := 176) dX9_told_176 rfl ?_
      refine G_if_ne (pc := 177) (tgt := 187) dX9_told_177 rfl (fun h_177 => ?_) (fun h_177 => ?_)
      · try simp only [bq0, ne_eq, Classical.not_not] at h_177
        refine G_iload_n (pc := 187) dX9_told_187 rfl ?_
        refine G_iconst (pc := 188) dX9_told_188 (by decide) ?_
        refine G_icmp_ne (pc := 189) (tgt := 199) dX9_told_189 rfl (fun h_189 => ?_) (fun h_189 => ?_)
        · refine G_iload_n (pc := 199) dX9_told_199 rfl ?_
          refine G_iconst (pc := 200) dX9_told_200 (by decide) ?_
          refine G_icmp_ne (pc := 201) (tgt := 211) dX9_told_201 rfl (fun h_201 => ?_) (fun h_201 => ?_)
          · refine G_iload_n (pc := 211) dX9_told_211 rfl ?_
            refine G_iconst (pc := 212) dX9_told_212 (by decide) ?_
            refine G_icmp_ne (pc := 213) (tgt := 220) dX9_told_213 rfl (fun h_213 => ?_) (fun h_213 => ?_)
            · refine G_iload_n (pc := 220) dX9_told_220 rfl ?_
              refine G_iconst (pc := 221) dX9_told_221 (by decide) ?_
              refine G_icmp_ne (pc := 222) (tgt := 229) dX9_told_222 rfl (fun h_222 => ?_) (fun h_222 => ?_)
              · refine G_iload_n (pc := 229) dX9_told_229 rfl ?_
                refine G_iconst (pc := 230) dX9_told_230 (by decide) ?_
                refine G_icmp_ne (pc := 231) (tgt := 239) dX9_told_231 rfl (fun h_231 => ?_) (fun h_231 => ?_)
                · refine G_iload_n (pc := 239) dX9_told_239 rfl ?_
                  refine G_bipush (pc := 240) (x := 6) dX9_told_240 rfl (by decide) ?_
                  refine G_icmp_ne (pc := 242) (tgt := 261) dX9_told_242 rfl (fun h_242 => ?_) (fun h_242 => ?_)
                  · refine G_iload_n (pc := 261) dX9_told_261 rfl ?_
                    refine G_bipush (pc := 262) (x := 7) dX9_told_262 rfl (by decide) ?_
                    refine G_icmp_ne (pc := 264) (tgt := 283) dX9_told_264 rfl (fun h_264 => ?_) (fun h_264 => ?_)
                    · refine G_iconst (pc := 283) dX9_told_283 (by decide) ?_
                      exact G_ireturn (pc := 284) dX9_told_284 (qeq (by unfold toldR; first | (subst hc; subst hlo; subst hhi; simp_all; done) | (unfold extS; grind)))
                    · refine G_iload (pc := 267) dX9_told_267 rfl ?_
                      refine G_iload (pc := 269) dX9_told_269 rfl ?_
                      refine G_aload_n (pc := 271) dX9_told_271 rfl ?_
                      refine G_iconst (pc := 272) dX9_told_272 (by decide) ?_
                      refine G_cV1 (pc := 273) (c_X9_leastOf_b0 _ (by rw [e1]; omega)) dX9_told_273 ml_X9_236 rfl rfl rfl (by decide) (Nat.le_of_ble_eq_true rfl) ?_
                      rw [e1, e4, e6]
                      refine G_isub (pc := 276) dX9_told_276 (by omega) ?_
                      refine G_iconst (pc := 277) dX9_told_277 (by decide) ?_
                      refine G_iadd (pc := 278) dX9_told_278 (by omega) ?_
                      refine G_imul (pc := 279) dX9_told_279 (by rw [hv_174]; split <;> omega) ?_
                      refine G_goto (pc := 280) (tgt := 284) dX9_told_280 rfl ?_
                      exact G_ireturn (pc := 284) dX9_told_284 (qeq (by unfold toldR; first | (subst hc; subst hlo; subst hhi; simp_all; done) | (unfold extS; grind)))
                  · refine G_iload (pc := 245) dX9_told_245 rfl ?_
                    refine G_iload (pc := 247) dX9_told_247 rfl ?_
                    refine G_aload_n (pc := 249) dX9_told_249 rfl ?_
                    refine G_iconst (pc := 250) dX9_told_250 (by decide) ?_
                    refine G_cV1 (pc := 251) (c_X9_leastOf_b1 _ (by rw [e1]; omega)) dX9_told_251 ml_X9_236 rfl rfl rfl (by decide) (Nat.le_of_ble_eq_true rfl) ?_
                    rw [e1, e4, e5]
                    refine G_isub (pc := 254) dX9_told_254 (by omega) ?_
                    refine G_iconst (pc := 255) dX9_told_255 (by decide) ?_
                    refine G_iadd (pc := 256) dX9_told_256 (by omega) ?_
                    refine G_imul (pc := 257) dX9_told_257 (by rw [hv_174]; split <;> omega) ?_
                    refine G_goto (pc := 258) (tgt := 284) dX9_told_258 rfl ?_
                    exact G_ireturn (pc := 284) dX9_told_284 (qeq (by unfold toldR; first | (subst hc; subst hlo; subst hhi; simp_all; done) | (unfold extS; grind)))
                · refine G_iload (pc := 234) dX9_told_234 rfl ?_
                  refine G_goto (pc := 236) (tgt := 284) dX9_told_236 rfl ?_
                  exact G_ireturn (pc := 284) dX9_told_284 (qeq (by unfold toldR; first | (subst hc; subst hlo; subst hhi; simp_all; done) | (unfold extS; grind)))
              · refine G_iload_n (pc := 225) dX9_told_225 rfl ?_
                refine G_goto (pc := 226) (tgt := 284) dX9_told_226 rfl ?_
                exact G_ireturn (pc := 284) dX9_told_284 (qeq (by unfold toldR; first | (subst hc; subst hlo; subst hhi; simp_all; done) | (unfold extS; grind)))
            · refine G_iload_n (pc := 216) dX9_told_216 rfl ?_
              refine G_goto (pc := 217) (tgt := 284) dX9_told_217 rfl ?_
              exact G_ireturn (pc := 284) dX9_told_284 (qeq (by unfold toldR; first | (subst hc; subst hlo; subst hhi; simp_all; done) | (unfold extS; grind)))
          · refine G_aload_n (pc := 204) dX9_told_204 rfl ?_
            refine G_getI (pc := 205) dX9_told_205 fk_X9_126 rfl rfl rfl ?_
            try simp (disch := decide) only [su_ne, su_at, su_same, sv_ne, sv_at]
            rw [e3]
            refine G_goto (pc := 208) (tgt := 284) dX9_told_208 rfl ?_
            exact G_ireturn (pc := 284) dX9_told_284 (qeq (by unfold toldR; first | (subst hc; subst hlo; subst hhi; simp_all; done) | (unfold extS; grind)))
        · refine G_aload_n (pc := 192) dX9_told_192 rfl ?_
          refine G_getI (pc := 193) dX9_told_193 fk_X9_94 rfl rfl rfl ?_
          try simp (disch := decide) only [su_ne, su_at, su_same, sv_ne, sv_at]
          rw [e2]
          refine G_goto (pc := 196) (tgt := 284) dX9_told_196 rfl ?_
          exact G_ireturn (pc := 284) dX9_told_284 (qeq (by unfold toldR; first | (subst hc; subst hlo; subst hhi; simp_all; done) | (unfold extS; grind)))
      · try simp only [bq0, ne_eq, Classical.not_not] at h_177
        refine G_aload_n (pc := 180) dX9_told_180 rfl ?_
        refine G_getI (pc := 181) dX9_told_181 fk_X9_86 rfl rfl rfl ?_
        try simp (disch := decide) only [su_ne, su_at, su_same, sv_ne, sv_at]
        rw [e1]
        refine G_goto (pc := 184) (tgt := 284) dX9_told_184 rfl ?_
        exact G_ireturn (pc := 284) dX9_told_284 (qeq (by unfold toldR; first | (subst hc; subst hlo; subst hhi; simp_all; done) | (unfold extS; grind)))
    · refine G_iload_n (pc := 165) dX9_told_165 rfl ?_
      refine G_if_ne (pc := 166) (tgt := 173) dX9_told_166 rfl (fun h_166 => ?_) (fun h_166 => ?_)
      · try simp only [bq0, ne_eq, Classical.not_not] at h_166
        refine G_iconst (pc := 173) dX9_told_173 (by decide) ?_
        exact j_174 _ (by grind)
      · try simp only [bq0, ne_eq, Classical.not_not] at h_166
        refine G_iconst (pc := 169) dX9_told_169 (by decide) ?_
        refine G_goto (pc := 170) (tgt := 174) dX9_told_170 rfl ?_
        exact j_174 _ (by grind)
  have loop : ∀ r, r ≤ t 2184 0 → ∀ c qb lo hi ea so : Int, 0 ≤ r → (0 ≤ c ∧ c ≤ r) → (qb = 0 ∨ qb = 1) → (qb = 0 ↔ c = 0) → c + sumI (cpl (t 39)) r (t 2184 0) = cntP (t 2184 0) (t 39) → (itr (lowStep (t 39) (t 42)) r (t 2184 0) (qb, lo)).2 = lowS (t 2184 0) (t 39) (t 42) → (itr (higStep (t 39) (t 42)) r (t 2184 0) (qb, hi)).2 = higS (t 2184 0) (t 39) (t 42) → (itr (higStep (t 39) (t 40)) r (t 2184 0) (qb, ea)).2 = higS (t 2184 0) (t 39) (t 40) → (itr (higStep (t 39) (t 41)) r (t 2184 0) (qb, so)).2 = higS (t 2184 0) (t 39) (t 41) → G E cX9_told RX9 (some .int) 1 16 [some (mP 31), some (mI w), some (mI c), some (mI lo), some (mI hi), some (mI ea), some (mI so), some (mI r)] [] t (fun a t' => a = some (mI (toldR (t 2184 0) (t 2188 0) (t 35) (t 37) (t 39) (t 40) (t 41) (t 42) w)) ∧ t' = fpM t) := by
    refine up_ind (fun r hr ih c qb lo hi ea so h0 hc hqb hqc h1 h2 h3 h4 h5 => ?_)
    refine G_iload (pc := 16) dX9_told_16 rfl ?_
    refine G_aload_n (pc := 18) dX9_told_18 rfl ?_
    refine G_getI (pc := 19) dX9_told_19 fk_X9_86 rfl rfl rfl ?_
    refine G_icmp_ge (pc := 22) (tgt := 161) dX9_told_22 rfl (fun h_22 => ?_) (fun h_22 => ?_)
    · rw [sumI_ge (by omega)] at h1
      rw [itr_ge (by omega)] at h2 h3 h4 h5
      exact tail c lo hi ea so r (by omega) h2 h3 h4 h5
    · refine G_aload_n (pc := 25) dX9_told_25 rfl ?_
      refine G_getP (pc := 26) dX9_told_26 fk_X9_32 rfl rfl rfl ?_
      refine G_iload (pc := 29) dX9_told_29 rfl ?_
      refine G_baload (pc := 31) dX9_told_31 rfl rfl (by omega) ?_
      refine G_if_eq (pc := 32) (tgt := 155) dX9_told_32 rfl (fun h_32 => ?_) (fun h_32 => ?_)
      · try simp only [bq0, ne_eq, Classical.not_not] at h_32
        have hs1 : lowStep (t 39) (t 42) r (qb, lo) = (qb, lo) := by unfold lowStep; rw [if_neg (by omega)]
        have hs2 : ∀ f v, higStep (t 39) f r (qb, v) = (qb, v) := fun f v => by unfold higStep; rw [if_neg (by omega)]
        have hs3 : cpl (t 39) r = 0 := by unfold cpl; rw [if_neg (by omega)]
        rw [sumI_lt (by omega), hs3] at h1
        rw [itr_lt (by omega), hs1] at h2
        rw [itr_lt (by omega), hs2] at h3 h4 h5
        refine G_iinc (pc := 155) dX9_told_155 rfl rfl (by omega) ?_
        refine G_goto (pc := 158) (tgt := 16) dX9_told_158 rfl ?_
        exact ih (by omega) c qb lo hi ea so (by omega) (by omega) hqb hqc (by omega) h2 h3 h4 h5
        skip
      · try simp only [bq0, ne_eq, Classical.not_not] at h_32
        refine G_join (pc := 35) (P := fun v => v = (if qb = 0 ∨ t 42 r < lo then t 42 r else lo)) 61 (fun v_61 hv_61 => ?_) (fun j_61 => ?_)
        · refine G_istore_n (pc := 61) dX9_told_61 (Nat.le_of_ble_eq_true rfl) rfl ?_
          refine G_join (pc := 62) (P := fun v => v = (if qb = 0 ∨ hi < t 42 r then t 42 r else hi)) 90 (fun v_90 hv_90 => ?_) (fun j_90 => ?_)
          · refine G_istore (pc := 90) dX9_told_90 (Nat.le_of_ble_eq_true rfl) rfl ?_
            refine G_join (pc := 92) (P := fun v => v = (if qb = 0 ∨ ea < t 40 r then t 40 r else ea)) 120 (fun v_120 hv_120 => ?_) (fun j_120 => ?_)
            · refine G_istore (pc := 120) dX9_told_120 (Nat.le_of_ble_eq_true rfl) rfl ?_
              refine G_join (pc := 122) (P := fun v => v = (if qb = 0 ∨ so < t 41 r then t 41 r else so)) 150 (fun v_150 hv_150 => ?_) (fun j_150 => ?_)
              · refine G_istore (pc := 150) dX9_told_150 (Nat.le_of_ble_eq_true rfl) rfl ?_
                refine G_iinc (pc := 152) dX9_told_152 rfl rfl (by omega) ?_
                refine G_iinc (pc := 155) dX9_told_155 rfl rfl (by omega) ?_
                refine G_goto (pc := 158) (tgt := 16) dX9_told_158 rfl ?_
                have hs1 : lowStep (t 39) (t 42) r (qb, lo) = (1, v_61) := by rw [hv_61]; unfold lowStep; rw [if_pos h_32]
                have hs2 : higStep (t 39) (t 42) r (qb, hi) = (1, v_90) := by rw [hv_90]; unfold higStep; rw [if_pos h_32]
                have hs4 : higStep (t 39) (t 40) r (qb, ea) = (1, v_120) := by rw [hv_120]; unfold higStep; rw [if_pos h_32]
                have hs5 : higStep (t 39) (t 41) r (qb, so) = (1, v_150) := by rw [hv_150]; unfold higStep; rw [if_pos h_32]
                have hs3 : cpl (t 39) r = 1 := by unfold cpl; rw [if_pos h_32]
                rw [sumI_lt (by omega), hs3] at h1
                rw [itr_lt (by omega), hs1] at h2
                rw [itr_lt (by omega), hs2] at h3
                rw [itr_lt (by omega), hs4] at h4
                rw [itr_lt (by omega), hs5] at h5
                exact ih (by omega) (c + 1) 1 v_61 v_90 v_120 v_150 (by omega) (by omega) (Or.inr rfl) (by omega) (by omega) h2 h3 h4 h5
              · refine G_iload_n (pc := 122) dX9_told_122 rfl ?_
                refine G_if_eq (pc := 123) (tgt := 138) dX9_told_123 rfl (fun h_123 => ?_) (fun h_123 => ?_)
                · try simp only [bq0, ne_eq, Classical.not_not] at h_123
                  refine G_aload_n (pc := 138) dX9_told_138 rfl ?_
                  refine G_getP (pc := 139) dX9_told_139 fk_X9_38 rfl rfl rfl ?_
                  refine G_iload (pc := 142) dX9_told_142 rfl ?_
                  refine G_iaload (pc := 144) dX9_told_144 rfl rfl (by omega) ?_
                  refine G_goto (pc := 145) (tgt := 150) dX9_told_145 rfl ?_
                  exact j_150 _ (by grind)
                · try simp only [bq0, ne_eq, Classical.not_not] at h_123
                  refine G_aload_n (pc := 126) dX9_told_126 rfl ?_
                  refine G_getP (pc := 127) dX9_told_127 fk_X9_38 rfl rfl rfl ?_
                  refine G_iload (pc := 130) dX9_told_130 rfl ?_
                  refine G_iaload (pc := 132) dX9_told_132 rfl rfl (by omega) ?_
                  refine G_iload (pc := 133) dX9_told_133 rfl ?_
                  refine G_icmp_le (pc := 135) (tgt := 148) dX9_told_135 rfl (fun h_135 => ?_) (fun h_135 => ?_)
                  · refine G_iload (pc := 148) dX9_told_148 rfl ?_
                    exact j_150 _ (by grind)
                  · refine G_aload_n (pc := 138) dX9_told_138 rfl ?_
                    refine G_getP (pc := 139) dX9_told_139 fk_X9_38 rfl rfl rfl ?_
                    refine G_iload (pc := 142) dX9_told_142 rfl ?_
                    refine G_iaload (pc := 144) dX9_told_144 rfl rfl (by omega) ?_
                    refine G_goto (pc := 145) (tgt := 150) dX9_told_145 rfl ?_
                    exact j_150 _ (by grind)
            · refine G_iload_n (pc := 92) dX9_told_92 rfl ?_
              refine G_if_eq (pc := 93) (tgt := 108) dX9_told_93 rfl (fun h_93 => ?_) (fun h_93 => ?_)
              · try simp only [bq0, ne_eq, Classical.not_not] at h_93
                refine G_aload_n (pc := 108) dX9_told_108 rfl ?_
                refine G_getP (pc := 109) dX9_told_109 fk_X9_35 rfl rfl rfl ?_
                refine G_iload (pc := 112) dX9_told_112 rfl ?_
                refine G_iaload (pc := 114) dX9_told_114 rfl rfl (by omega) ?_
                refine G_goto (pc := 115) (tgt := 120) dX9_told_115 rfl ?_
                exact j_120 _ (by grind)
              · try simp only [bq0, ne_eq, Classical.not_not] at h_93
                refine G_aload_n (pc := 96) dX9_told_96 rfl ?_
                refine G_getP (pc := 97) dX9_told_97 fk_X9_35 rfl rfl rfl ?_
                refine G_iload (pc := 100) dX9_told_100 rfl ?_
                refine G_iaload (pc := 102) dX9_told_102 rfl rfl (by omega) ?_
                refine G_iload (pc := 103) dX9_told_103 rfl ?_
                refine G_icmp_le (pc := 105) (tgt := 118) dX9_told_105 rfl (fun h_105 => ?_) (fun h_105 => ?_)
                · refine G_iload (pc := 118) dX9_told_118 rfl ?_
                  exact j_120 _ (by grind)
                · refine G_aload_n (pc := 108) dX9_told_108 rfl ?_
                  refine G_getP (pc := 109) dX9_told_109 fk_X9_35 rfl rfl rfl ?_
                  refine G_iload (pc := 112) dX9_told_112 rfl ?_
                  refine G_iaload (pc := 114) dX9_told_114 rfl rfl (by omega) ?_
                  refine G_goto (pc := 115) (tgt := 120) dX9_told_115 rfl ?_
                  exact j_120 _ (by grind)
          · refine G_iload_n (pc := 62) dX9_told_62 rfl ?_
            refine G_if_eq (pc := 63) (tgt := 78) dX9_told_63 rfl (fun h_63 => ?_) (fun h_63 => ?_)
            · try simp only [bq0, ne_eq, Classical.not_not] at h_63
              refine G_aload_n (pc := 78) dX9_told_78 rfl ?_
              refine G_getP (pc := 79) dX9_told_79 fk_X9_41 rfl rfl rfl ?_
              refine G_iload (pc := 82) dX9_told_82 rfl ?_
              refine G_iaload (pc := 84) dX9_told_84 rfl rfl (by omega) ?_
              refine G_goto (pc := 85) (tgt := 90) dX9_told_85 rfl ?_
              exact j_90 _ (by grind)
            · try simp only [bq0, ne_eq, Classical.not_not] at h_63
              refine G_aload_n (pc := 66) dX9_told_66 rfl ?_
              refine G_getP (pc := 67) dX9_told_67 fk_X9_41 rfl rfl rfl ?_
              refine G_iload (pc := 70) dX9_told_70 rfl ?_
              refine G_iaload (pc := 72) dX9_told_72 rfl rfl (by omega) ?_
              refine G_iload (pc := 73) dX9_told_73 rfl ?_
              refine G_icmp_le (pc := 75) (tgt := 88) dX9_told_75 rfl (fun h_75 => ?_) (fun h_75 => ?_)
              · refine G_iload (pc := 88) dX9_told_88 rfl ?_
                exact j_90 _ (by grind)
              · refine G_aload_n (pc := 78) dX9_told_78 rfl ?_
                refine G_getP (pc := 79) dX9_told_79 fk_X9_41 rfl rfl rfl ?_
                refine G_iload (pc := 82) dX9_told_82 rfl ?_
                refine G_iaload (pc := 84) dX9_told_84 rfl rfl (by omega) ?_
                refine G_goto (pc := 85) (tgt := 90) dX9_told_85 rfl ?_
                exact j_90 _ (by grind)
        · refine G_iload_n (pc := 35) dX9_told_35 rfl ?_
          refine G_if_eq (pc := 36) (tgt := 50) dX9_told_36 rfl (fun h_36 => ?_) (fun h_36 => ?_)
          · try simp only [bq0, ne_eq, Classical.not_not] at h_36
            refine G_aload_n (pc := 50) dX9_told_50 rfl ?_
            refine G_getP (pc := 51) dX9_told_51 fk_X9_41 rfl rfl rfl ?_
            refine G_iload (pc := 54) dX9_told_54 rfl ?_
            refine G_iaload (pc := 56) dX9_told_56 rfl rfl (by omega) ?_
            refine G_goto (pc := 57) (tgt := 61) dX9_told_57 rfl ?_
            exact j_61 _ (by grind)
          · try simp only [bq0, ne_eq, Classical.not_not] at h_36
            refine G_aload_n (pc := 39) dX9_told_39 rfl ?_
            refine G_getP (pc := 40) dX9_told_40 fk_X9_41 rfl rfl rfl ?_
            refine G_iload (pc := 43) dX9_told_43 rfl ?_
            refine G_iaload (pc := 45) dX9_told_45 rfl rfl (by omega) ?_
            refine G_iload_n (pc := 46) dX9_told_46 rfl ?_
            refine G_icmp_ge (pc := 47) (tgt := 60) dX9_told_47 rfl (fun h_47 => ?_) (fun h_47 => ?_)
            · refine G_iload_n (pc := 60) dX9_told_60 rfl ?_
              exact j_61 _ (by grind)
            · refine G_aload_n (pc := 50) dX9_told_50 rfl ?_
              refine G_getP (pc := 51) dX9_told_51 fk_X9_41 rfl rfl rfl ?_
              refine G_iload (pc := 54) dX9_told_54 rfl ?_
              refine G_iaload (pc := 56) dX9_told_56 rfl rfl (by omega) ?_
              refine G_goto (pc := 57) (tgt := 61) dX9_told_57 rfl ?_
              exact j_61 _ (by grind)
  refine G_iconst (pc := 0) dX9_told_0 (by decide) ?_
  refine G_istore_n (pc := 1) dX9_told_1 (Nat.le_of_ble_eq_true rfl) rfl ?_
  refine G_iconst (pc := 2) dX9_told_2 (by decide) ?_
  refine G_istore_n (pc := 3) dX9_told_3 (Nat.le_of_ble_eq_true rfl) rfl ?_
  refine G_iconst (pc := 4) dX9_told_4 (by decide) ?_
  refine G_istore (pc := 5) dX9_told_5 (Nat.le_of_ble_eq_true rfl) rfl ?_
  refine G_iconst (pc := 7) dX9_told_7 (by decide) ?_
  refine G_istore (pc := 8) dX9_told_8 (Nat.le_of_ble_eq_true rfl) rfl ?_
  refine G_iconst (pc := 10) dX9_told_10 (by decide) ?_
  refine G_istore (pc := 11) dX9_told_11 (Nat.le_of_ble_eq_true rfl) rfl ?_
  refine G_iconst (pc := 13) dX9_told_13 (by decide) ?_
  refine G_istore (pc := 14) dX9_told_14 (Nat.le_of_ble_eq_true rfl) rfl ?_
  exact loop 0 (by omega) 0 0 0 0 0 0 (by omega) (by omega) (Or.inl rfl) (by omega) (by unfold cntP; omega) rfl rfl rfl rfl
