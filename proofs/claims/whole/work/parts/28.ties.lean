/-! TIES: each room's links -/
def incP (fr to : Int → Int) (r l : Int) : Prop := (fr l = r ∨ to l = r) ∧ fr l ≠ to l
def SEG (fr to : Int → Int) (r a b : Int) (L : Int → Int) (u : Int) : Prop := (∀ i, a ≤ i → i < b → (0 ≤ L i ∧ L i < u) ∧ incP fr to r (L i)) ∧ (∀ i j, a ≤ i → i < j → j < b → L i < L j) ∧ (∀ l, 0 ≤ l → l < u → incP fr to r l → ∃ i, a ≤ i ∧ i < b ∧ L i = l)
theorem SEG_0 (fr to : Int → Int) (r a : Int) (L : Int → Int) : SEG fr to r a a L 0 := ⟨fun i h1 h2 => by omega, fun i j h1 h2 h3 => by omega, fun l h1 h2 => by omega⟩
theorem SEG_add {fr to : Int → Int} {r a b : Int} {L : Int → Int} {l : Int} (hab : a ≤ b) (hl : 0 ≤ l) (h : SEG fr to r a b L l) (hi : incP fr to r l) : SEG fr to r a (b + 1) (fu L b l) (l + 1) := by
  obtain ⟨h1, h2, h3⟩ := h
  refine ⟨fun i hi1 hi2 => ?_, fun i j hi1 hij hj => ?_, fun l' q1 q2 q3 => ?_⟩
  · by_cases e : i = b
    · subst e; rw [fu_at]; exact ⟨by omega, hi⟩
    · rw [fu_ne e]
      have := h1 i hi1 (by omega)
      exact ⟨by omega, this.2⟩
  · by_cases e : j = b
    · subst e
      rw [fu_at, fu_ne (by omega)]
      exact (h1 i hi1 hij).1.2
    · rw [fu_ne e, fu_ne (by omega)]
      exact h2 i j hi1 hij (by omega)
  · by_cases e : l' = l
    · subst e
      exact ⟨b, hab, by omega, fu_at _ _ _⟩
    · obtain ⟨i, i1, i2, i3⟩ := h3 l' q1 (by omega) q3
      exact ⟨i, i1, by omega, by rw [fu_ne (by omega)]; exact i3⟩
theorem SEG_skip {fr to : Int → Int} {r a b : Int} {L : Int → Int} {l : Int} (h : SEG fr to r a b L l) (hi : ¬ incP fr to r l) : SEG fr to r a b L (l + 1) := by
  obtain ⟨h1, h2, h3⟩ := h
  refine ⟨fun i hi1 hi2 => ?_, h2, fun l' q1 q2 q3 => ?_⟩
  · have := h1 i hi1 hi2
    exact ⟨by omega, this.2⟩
  · by_cases e : l' = l
    · subst e; exact absurd q3 hi
    · exact h3 l' q1 (by omega) q3
theorem SEG_frame {fr to : Int → Int} {r a b : Int} {L L' : Int → Int} {u : Int} (h : SEG fr to r a b L u) (he : ∀ i, a ≤ i → i < b → L' i = L i) : SEG fr to r a b L' u := by
  obtain ⟨h1, h2, h3⟩ := h
  refine ⟨fun i hi1 hi2 => by rw [he i hi1 hi2]; exact h1 i hi1 hi2, fun i j hi1 hij hj => by rw [he i hi1 (by omega), he j (by omega) hj]; exact h2 i j hi1 hij hj, fun l q1 q2 q3 => ?_⟩
  obtain ⟨i, i1, i2, i3⟩ := h3 l q1 q2 q3
  exact ⟨i, i1, i2, by rw [he i i1 i2]; exact i3⟩
/-- first and links as they must be -/
def TIf (n k : Int) (fr to F L : Int → Int) : Prop := ∀ r, 0 ≤ r → r < n → (0 ≤ F r ∧ F r ≤ F (r + 1) ∧ F (r + 1) ≤ 120) ∧ SEG fr to r (F r) (F (r + 1)) L k
/-- what is still to come of a link -/
def rmC (fr to : Int → Int) (r l j : Int) : Int := if fr j = to j then 0 else (if r < fr j ∨ (fr j = r ∧ l ≤ j) then 1 else 0) + (if r < to j ∨ (to j = r ∧ l ≤ j) then 1 else 0)
theorem rmC_r (fr to : Int → Int) (r l j : Int) : 0 ≤ rmC fr to r l j ∧ rmC fr to r l j ≤ 2 := by
  unfold rmC
  split
  · omega
  · split <;> split <;> omega
theorem sumI_upd {c c' : Int → Int} {k j : Int} (hc : ∀ i, i ≠ j → c i = c' i) : ∀ l, l ≤ k → l ≤ j → j < k → sumI c l k = sumI c' l k + (c j - c' j) := by
  refine up_ind (fun l hl ih h0 hj => ?_)
  rw [sumI_lt (c := c) (l := l) (by omega), sumI_lt (c := c') (l := l) (by omega)]
  by_cases e : l = j
  · subst e
    have h2 : ∀ m, m ≤ k → l < m → sumI c m k = sumI c' m k := by
      refine up_ind (fun m hm ih2 h1 => ?_)
      rcases Int.lt_or_le m k with q | q
      · rw [sumI_lt q, sumI_lt q, hc m (by omega), ih2 q (by omega)]
      · rw [sumI_ge q, sumI_ge q]
    rw [h2 (l + 1) (by omega) (by omega)]
    omega
  · rw [hc l e, ih (by omega) (by omega) hj]
    omega
theorem rem_step {fr to : Int → Int} {k r l : Int} (hl : 0 ≤ l ∧ l < k) : (incP fr to r l → sumI (rmC fr to r l) 0 k = sumI (rmC fr to r (l + 1)) 0 k + 1) ∧ (¬ incP fr to r l → sumI (rmC fr to r l) 0 k = sumI (rmC fr to r (l + 1)) 0 k) := by
  have e := sumI_upd (c := rmC fr to r l) (c' := rmC fr to r (l + 1)) (k := k) (j := l) (fun i hi => by
    unfold rmC
    have h1 : (fr i = r ∧ l ≤ i) ↔ (fr i = r ∧ l + 1 ≤ i) := by omega
    have h2 : (to i = r ∧ l ≤ i) ↔ (to i = r ∧ l + 1 ≤ i) := by omega
    simp only [h1, h2]) 0 (by omega) hl.1 hl.2
  rw [e]
  constructor
  · intro h
    have : rmC fr to r l l - rmC fr to r (l + 1) l = 1 := by
      obtain ⟨h1, h2⟩ := h
      unfold rmC
      rw [if_neg h2, if_neg h2]
      rcases h1 with q | q
      · have q2 : to l ≠ r := fun z => h2 (by omega)
        rw [if_pos (by omega), if_neg (show ¬ (r < fr l ∨ (fr l = r ∧ l + 1 ≤ l)) by omega)]
        by_cases z : r < to l
        · rw [if_pos (by omega), if_pos (by omega)]; omega
        · rw [if_neg (by omega), if_neg (by omega)]; omega
      · have q2 : fr l ≠ r := fun z => h2 (by omega)
        by_cases z : r < fr l
        · rw [if_pos (by omega), if_pos (by omega), if_pos (by omega), if_neg (by omega)]; omega
        · rw [if_neg (by omega), if_pos (by omega), if_neg (by omega), if_neg (by omega)]; omega
    omega
  · intro h
    have : rmC fr to r l l - rmC fr to r (l + 1) l = 0 := by
      unfold rmC
      by_cases z : fr l = to l
      · rw [if_pos z, if_pos z]; omega
      · rw [if_neg z, if_neg z]
        have a1 : fr l ≠ r := fun q => h ⟨Or.inl q, z⟩
        have a2 : to l ≠ r := fun q => h ⟨Or.inr q, z⟩
        have e1 : (r < fr l ∨ (fr l = r ∧ l ≤ l)) ↔ (r < fr l ∨ (fr l = r ∧ l + 1 ≤ l)) := by omega
        have e2 : (r < to l ∨ (to l = r ∧ l ≤ l)) ↔ (r < to l ∨ (to l = r ∧ l + 1 ≤ l)) := by omega
        simp only [e1, e2]
        omega
    omega
theorem rem_next {fr to : Int → Int} {k r : Int} (hk : 0 ≤ k) : sumI (rmC fr to r k) 0 k = sumI (rmC fr to (r + 1) 0) 0 k := by
  refine sumI_congr (fun j h0 h1 => ?_) 0 hk (Int.le_refl _)
  unfold rmC
  have e1 : (r < fr j ∨ (fr j = r ∧ k ≤ j)) ↔ (r + 1 < fr j ∨ (fr j = r + 1 ∧ 0 ≤ j)) := by omega
  have e2 : (r < to j ∨ (to j = r ∧ k ≤ j)) ↔ (r + 1 < to j ∨ (to j = r + 1 ∧ 0 ≤ j)) := by omega
  simp only [e1, e2]
theorem c_X6_gather_1 (t : Sto) (hS : SC t) : CT yX6_gather cX6_gather 6 none 1 [mP 6, mP 1] t (fun a t' => a = none ∧ (∃ F L, t' = sv (sv t 28 F) 29 L ∧ TIf (t 267 0) (t 272 0) (t 13) (t 15) F L)) := by
  refine CT_of rfl rfl (Nat.le_of_ble_eq_true rfl) (fun E ht has => ?_)
  obtain ⟨hb, hS⟩ := hS
  have key : ∀ (F L : Int → Int) (v w : Nat) (f : Int → Int), sv (sv t 28 F) 29 L = sv (sv t 28 F) 29 L := fun _ _ _ _ _ => rfl
  have inner : ∀ r, 0 ≤ r → r < t 267 0 → ∀ F : Int → Int, (∀ (L : Int → Int) (nn : Int) (o4 o5 : Option MV), SEG (t 13) (t 15) r (F r) nn L (t 272 0) → F r ≤ nn → (∀ r', 0 ≤ r' → r' < r → (0 ≤ F r' ∧ F r' ≤ F (r' + 1) ∧ F (r' + 1) ≤ F r) ∧ SEG (t 13) (t 15) r' (F r') (F (r' + 1)) L (t 272 0)) → nn + sumI (rmC (t 13) (t 15) r (t 272 0)) 0 (t 272 0) ≤ 120 → G E cX6_gather RX6 none 1 100 [some (mP 6), some (mP 1), some (mI nn), some (mI r), o4, o5] [] (sv (sv t 28 F) 29 L) (fun a t' => a = none ∧ (∃ F L, t' = sv (sv t 28 F) 29 L ∧ TIf (t 267 0) (t 272 0) (t 13) (t 15) F L))) → 0 ≤ F r →
      ∀ l, l ≤ t 272 0 → ∀ (L : Int → Int) (nn : Int) (o5 : Option MV), 0 ≤ l → SEG (t 13) (t 15) r (F r) nn L l → F r ≤ nn → (∀ r', 0 ≤ r' → r' < r → (0 ≤ F r' ∧ F r' ≤ F (r' + 1) ∧ F (r' + 1) ≤ F r) ∧ SEG (t 13) (t 15) r' (F r') (F (r' + 1)) L (t 272 0)) → nn + sumI (rmC (t 13) (t 15) r l) 0 (t 272 0) ≤ 120 → G E cX6_gather RX6 none 1 22 [some (mP 6), some (mP 1), some (mI nn), some (mI r), some (mI l), o5] [] (sv (sv t 28 F) 29 L) (fun a t' => a = none ∧ (∃ F L, t' = sv (sv t 28 F) 29 L ∧ TIf (t 267 0) (t 272 0) (t 13) (t 15) F L)) := by
    intro r hr0 hrn F hend hF0
    refine up_ind (fun l hl ih L nn o5 h0 hseg hfn hold hrem => ?_)
    have hrs := sumI_r (c := rmC (t 13) (t 15) r l) (k := t 272 0) (B := 2) (fun j _ _ => rmC_r _ _ _ _ j) 0 (by omega) (by omega)
    refine G_iload (pc := 22) dX6_gather_22 rfl ?_
    refine G_aload_n (pc := 24) dX6_gather_24 rfl ?_
    refine G_getI (pc := 25) dX6_gather_25 fk_X6_24 rfl rfl rfl ?_
    try simp (disch := decide) only [su_ne, su_at, su_same, sv_ne, sv_at]
    refine G_icmp_ge (pc := 28) (tgt := 100) dX6_gather_28 rfl (fun h_28 => ?_) (fun h_28 => ?_)
    · have hlk : l = t 272 0 := by omega
      subst hlk
      exact hend L nn _ _ hseg hfn hold hrem
    · have hst := rem_step (fr := t 13) (to := t 15) (k := t 272 0) (r := r) (l := l) (by omega)
      have hrs2 := sumI_r (c := rmC (t 13) (t 15) r (l + 1)) (k := t 272 0) (B := 2) (fun j _ _ => rmC_r _ _ _ _ j) 0 (by omega) (by omega)
      refine G_join (pc := 31) (P := fun v => v = (if t 13 l = r ∨ t 15 l = r then (1 : Int) else 0)) 58 (fun v_58 hv_58 => ?_) (fun j_58 => ?_)
      · refine G_istore (pc := 58) dX6_gather_58 (Nat.le_of_ble_eq_true rfl) rfl ?_
        refine G_iload (pc := 60) dX6_gather_60 rfl ?_
        refine G_if_eq (pc := 62) (tgt := 94) dX6_gather_62 rfl (fun h_62 => ?_) (fun h_62 => ?_)
        · try simp only [bq0, ne_eq, Classical.not_not] at h_62
          rw [hv_58, bq0] at h_62
          have hN : ¬ incP (t 13) (t 15) r l := fun z => h_62 z.1
          refine G_iinc (pc := 94) dX6_gather_94 rfl rfl (by omega) ?_
          refine G_goto (pc := 97) (tgt := 22) dX6_gather_97 rfl ?_
          first | exact ih (by omega) L nn _ (by omega) (SEG_skip hseg hN) hfn hold (by have := hst.2 hN; omega) | (rw [su_sv, sv_at, sv_sv]; exact ih (by omega) _ (nn + 1) _ (by omega) (SEG_add hfn h0 hseg hY) (by omega) (fun r' q0 q1 => ⟨(hold r' q0 q1).1, SEG_frame (hold r' q0 q1).2 (fun i i1 i2 => fu_ne (by have := (hold r' q0 q1).1; omega))⟩) (by have := hst.1 hY; omega))
        · try simp only [bq0, ne_eq, Classical.not_not] at h_62
          rw [hv_58, bq0, Classical.not_not] at h_62
          refine G_aload_n (pc := 65) dX6_gather_65 rfl ?_
          refine G_iload (pc := 66) dX6_gather_66 rfl ?_
          refine G_cV1 (pc := 68) (c_X5_isLoop _ _ (by omega)) dX6_gather_68 ml_X6_33 rfl rfl rfl (by decide) (Nat.le_of_ble_eq_true rfl) ?_
          simp (disch := decide) only [sv_ne]
          refine G_if_ne (pc := 71) (tgt := 94) dX6_gather_71 rfl (fun h_71 => ?_) (fun h_71 => ?_)
          · try simp only [bq0, ne_eq, Classical.not_not] at h_71
            have hN : ¬ incP (t 13) (t 15) r l := fun z => z.2 h_71
            refine G_iinc (pc := 94) dX6_gather_94 rfl rfl (by omega) ?_
            refine G_goto (pc := 97) (tgt := 22) dX6_gather_97 rfl ?_
            first | exact ih (by omega) L nn _ (by omega) (SEG_skip hseg hN) hfn hold (by have := hst.2 hN; omega) | (rw [su_sv, sv_at, sv_sv]; exact ih (by omega) _ (nn + 1) _ (by omega) (SEG_add hfn h0 hseg hY) (by omega) (fun r' q0 q1 => ⟨(hold r' q0 q1).1, SEG_frame (hold r' q0 q1).2 (fun i i1 i2 => fu_ne (by have := (hold r' q0 q1).1; omega))⟩) (by have := hst.1 hY; omega))
          · try simp only [bq0, ne_eq, Classical.not_not] at h_71
            have hY : incP (t 13) (t 15) r l := ⟨h_62, h_71⟩
            refine G_iload_n (pc := 74) dX6_gather_74 rfl ?_
            refine G_aload_n (pc := 75) dX6_gather_75 rfl ?_
            refine G_getP (pc := 76) dX6_gather_76 fk_X6_15 rfl rfl rfl ?_
            refine G_alen (pc := 79) dX6_gather_79 rfl rfl (by decide) ?_
            refine G_icmp_ge (pc := 80) (tgt := 94) dX6_gather_80 rfl (fun h_80 => ?_) (fun h_80 => ?_)
            · exact absurd h_80 (by have := hst.1 hY; omega)
            · refine G_aload_n (pc := 83) dX6_gather_83 rfl ?_
              refine G_getP (pc := 84) dX6_gather_84 fk_X6_15 rfl rfl rfl ?_
              refine G_iload_n (pc := 87) dX6_gather_87 rfl ?_
              refine G_iinc (pc := 88) dX6_gather_88 rfl rfl (by omega) ?_
              refine G_iload (pc := 91) dX6_gather_91 rfl ?_
              refine G_iastore (pc := 93) dX6_gather_93 rfl rfl (by omega) ?_
              refine G_iinc (pc := 94) dX6_gather_94 rfl rfl (by omega) ?_
              refine G_goto (pc := 97) (tgt := 22) dX6_gather_97 rfl ?_
              first | exact ih (by omega) L nn _ (by omega) (SEG_skip hseg hN) hfn hold (by have := hst.2 hN; omega) | (rw [su_sv, sv_at, sv_sv]; exact ih (by omega) _ (nn + 1) _ (by omega) (SEG_add hfn h0 hseg hY) (by omega) (fun r' q0 q1 => ⟨(hold r' q0 q1).1, SEG_frame (hold r' q0 q1).2 (fun i i1 i2 => fu_ne (by have := (hold r' q0 q1).1; omega))⟩) (by have := hst.1 hY; omega))
      · have hst := rem_step (fr := t 13) (to := t 15) (k := t 272 0) (r := r) (l := l) (by omega)
        have hrs2 := sumI_r (c := rmC (t 13) (t 15) r (l + 1)) (k := t 272 0) (B := 2) (fun j _ _ => rmC_r _ _ _ _ j) 0 (by omega) (by omega)
        refine G_aload_n (pc := 31) dX6_gather_31 rfl ?_
        refine G_getP (pc := 32) dX6_gather_32 fk_X6_27 rfl rfl rfl ?_
        refine G_iload (pc := 35) dX6_gather_35 rfl ?_
        refine G_iaload (pc := 37) dX6_gather_37 rfl rfl (by omega) ?_
        try simp (disch := decide) only [su_ne, su_at, su_same, sv_ne, sv_at]
        refine G_iload_n (pc := 38) dX6_gather_38 rfl ?_
        refine G_icmp_eq (pc := 39) (tgt := 53) dX6_gather_39 rfl (fun h_39 => ?_) (fun h_39 => ?_)
        · refine G_iconst (pc := 53) dX6_gather_53 (by decide) ?_
          refine G_goto (pc := 54) (tgt := 58) dX6_gather_54 rfl ?_
          exact j_58 _ (by grind)
        · refine G_aload_n (pc := 42) dX6_gather_42 rfl ?_
          refine G_getP (pc := 43) dX6_gather_43 fk_X6_30 rfl rfl rfl ?_
          refine G_iload (pc := 46) dX6_gather_46 rfl ?_
          refine G_iaload (pc := 48) dX6_gather_48 rfl rfl (by omega) ?_
          try simp (disch := decide) only [su_ne, su_at, su_same, sv_ne, sv_at]
          refine G_iload_n (pc := 49) dX6_gather_49 rfl ?_
          refine G_icmp_ne (pc := 50) (tgt := 57) dX6_gather_50 rfl (fun h_50 => ?_) (fun h_50 => ?_)
          · refine G_iconst (pc := 57) dX6_gather_57 (by decide) ?_
            exact j_58 _ (by grind)
          · refine G_iconst (pc := 53) dX6_gather_53 (by decide) ?_
            refine G_goto (pc := 54) (tgt := 58) dX6_gather_54 rfl ?_
            exact j_58 _ (by grind)
  have outer : ∀ r, r ≤ t 267 0 → ∀ (F L : Int → Int) (nn : Int) (o4 o5 : Option MV), 0 ≤ r → 0 ≤ nn → (∀ r', 0 ≤ r' → r' < r → (0 ≤ fu F r nn r' ∧ fu F r nn r' ≤ fu F r nn (r' + 1) ∧ fu F r nn (r' + 1) ≤ nn) ∧ SEG (t 13) (t 15) r' (fu F r nn r') (fu F r nn (r' + 1)) L (t 272 0)) → nn + sumI (rmC (t 13) (t 15) r 0) 0 (t 272 0) ≤ 120 → G E cX6_gather RX6 none 1 4 [some (mP 6), some (mP 1), some (mI nn), some (mI r), o4, o5] [] (sv (sv t 28 F) 29 L) (fun a t' => a = none ∧ (∃ F L, t' = sv (sv t 28 F) 29 L ∧ TIf (t 267 0) (t 272 0) (t 13) (t 15) F L)) := by
    refine up_ind (fun r hr ih F L nn o4 o5 h0 hnn hold hrem => ?_)
    have hrs := sumI_r (c := rmC (t 13) (t 15) r 0) (k := t 272 0) (B := 2) (fun j _ _ => rmC_r _ _ _ _ j) 0 (by omega) (by omega)
    have ecomm : su (sv (sv t 28 F) 29 L) 28 r nn = sv (sv t 28 (fu F r nn)) 29 L := by
      funext w
      rw [su_sv]
      by_cases h29 : w = 29
      · subst h29; simp (disch := decide) only [sv_at, sv_ne]
      · by_cases h28 : w = 28
        · subst h28; simp (disch := decide) only [sv_at, sv_ne]
        · rw [sv_ne h28, sv_ne h29, sv_ne h28, sv_ne h29, sv_ne h28]
    refine G_iload_n (pc := 4) dX6_gather_4 rfl ?_
    refine G_aload_n (pc := 5) dX6_gather_5 rfl ?_
    refine G_getI (pc := 6) dX6_gather_6 fk_X6_18 rfl rfl rfl ?_
    try simp (disch := decide) only [su_ne, su_at, su_same, sv_ne, sv_at]
    refine G_icmp_ge (pc := 9) (tgt := 106) dX6_gather_9 rfl (fun h_9 => ?_) (fun h_9 => ?_)
    · refine G_aload_n (pc := 106) dX6_gather_106 rfl ?_
      refine G_getP (pc := 107) dX6_gather_107 fk_X6_9 rfl rfl rfl ?_
      refine G_aload_n (pc := 110) dX6_gather_110 rfl ?_
      refine G_getI (pc := 111) dX6_gather_111 fk_X6_18 rfl rfl rfl ?_
      try simp (disch := decide) only [su_ne, su_at, su_same, sv_ne, sv_at]
      refine G_iload_n (pc := 114) dX6_gather_114 rfl ?_
      refine G_iastore (pc := 115) dX6_gather_115 rfl rfl (by omega) ?_
      have hrn : r = t 267 0 := by omega
      subst hrn
      rw [ecomm]
      refine G_return (pc := 116) dX6_gather_116 ⟨rfl, _, _, rfl, fun r' z0 z1 => ?_⟩
      have h9 := hold r' z0 z1
      exact ⟨by omega, h9.2⟩
    · refine G_aload_n (pc := 12) dX6_gather_12 rfl ?_
      refine G_getP (pc := 13) dX6_gather_13 fk_X6_9 rfl rfl rfl ?_
      refine G_iload_n (pc := 16) dX6_gather_16 rfl ?_
      refine G_iload_n (pc := 17) dX6_gather_17 rfl ?_
      refine G_iastore (pc := 18) dX6_gather_18 rfl rfl (by omega) ?_
      rw [ecomm]
      refine G_iconst (pc := 19) dX6_gather_19 (by decide) ?_
      refine G_istore (pc := 20) dX6_gather_20 (Nat.le_of_ble_eq_true rfl) rfl ?_
      refine inner r h0 (by omega) (fu F r nn) ?_ (by rw [fu_at]; omega) 0 (by omega) L nn _ (by omega) (by rw [fu_at]; exact SEG_0 _ _ _ _ _) (by rw [fu_at]; omega) (by rw [fu_at]; exact hold) hrem
      intro L2 n2 p4 p5 q1 q2 q3 q4
      rw [fu_at] at q1 q2 q3
      refine G_iinc (pc := 100) dX6_gather_100 rfl rfl (by omega) ?_
      refine G_goto (pc := 103) (tgt := 4) dX6_gather_103 rfl ?_
      refine ih (by omega) _ L2 n2 _ _ (by omega) (by omega) (fun r' z0 z1 => ?_) (by rw [← rem_next (by omega)]; exact q4)
      rw [fu_ne (show r' ≠ r + 1 by omega)]
      by_cases e : r' = r
      · subst e
        rw [fu_at, fu_at]
        exact ⟨by omega, q1⟩
      · rw [fu_ne (show r' + 1 ≠ r + 1 by omega)]
        have := q3 r' z0 (by omega)
        exact ⟨by omega, this.2⟩
  refine G_iconst (pc := 0) dX6_gather_0 (by decide) ?_
  refine G_istore_n (pc := 1) dX6_gather_1 (Nat.le_of_ble_eq_true rfl) rfl ?_
  refine G_iconst (pc := 2) dX6_gather_2 (by decide) ?_
  refine G_istore_n (pc := 3) dX6_gather_3 (Nat.le_of_ble_eq_true rfl) rfl ?_
  have hrs := sumI_r (c := rmC (t 13) (t 15) 0 0) (k := t 272 0) (B := 2) (fun j _ _ => rmC_r _ _ _ _ j) 0 (by omega) (by omega)
  have h := outer 0 (by omega) (t 28) (t 29) 0 none none (by omega) (by omega) (fun r' z0 z1 => by omega) (by omega)
  have e : sv (sv t 28 (t 28)) 29 (t 29) = t := by rw [sv_id, sv_id]
  rw [e] at h
  exact h
theorem c_X6_count (t : Sto) (r : Int) (h : (0 ≤ r ∧ r < 24) ∧ 0 ≤ t 28 r ∧ t 28 r ≤ t 28 (r + 1) ∧ t 28 (r + 1) ≤ 120) : CT yX6_count cX6_count 2 (some .int) 0 [mP 6, mI r] t (fun a t' => a = some (mI (t 28 (r + 1) - t 28 r)) ∧ t' = t) := by
  refine CT_of rfl rfl (Nat.le_of_ble_eq_true rfl) (fun E ht has => ?_)
  refine G_aload_n (pc := 0) dX6_count_0 rfl ?_
  refine G_getP (pc := 1) dX6_count_1 fk_X6_9 rfl rfl rfl ?_
  refine G_iload_n (pc := 4) dX6_count_4 rfl ?_
  refine G_iconst (pc := 5) dX6_count_5 (by decide) ?_
  refine G_iadd (pc := 6) dX6_count_6 (by omega) ?_
  refine G_iaload (pc := 7) dX6_count_7 rfl rfl (by omega) ?_
  refine G_aload_n (pc := 8) dX6_count_8 rfl ?_
  refine G_getP (pc := 9) dX6_count_9 fk_X6_9 rfl rfl rfl ?_
  refine G_iload_n (pc := 12) dX6_count_12 rfl ?_
  refine G_iaload (pc := 13) dX6_count_13 rfl rfl (by omega) ?_
  refine G_isub (pc := 14) dX6_count_14 (by omega) ?_
  exact G_ireturn (pc := 15) dX6_count_15 (qeq (by first | rfl | omega | (split <;> omega) | grind))
theorem c_X6_get (t : Sto) (r i : Int) (h : (0 ≤ r ∧ r < 24) ∧ 0 ≤ t 28 r ∧ 0 ≤ i ∧ t 28 r + i < 120) : CT yX6_get cX6_get 3 (some .int) 0 [mP 6, mI r, mI i] t (fun a t' => a = some (mI (t 29 (t 28 r + i))) ∧ t' = t) := by
  refine CT_of rfl rfl (Nat.le_of_ble_eq_true rfl) (fun E ht has => ?_)
  refine G_aload_n (pc := 0) dX6_get_0 rfl ?_
  refine G_getP (pc := 1) dX6_get_1 fk_X6_15 rfl rfl rfl ?_
  refine G_aload_n (pc := 4) dX6_get_4 rfl ?_
  refine G_getP (pc := 5) dX6_get_5 fk_X6_9 rfl rfl rfl ?_
  refine G_iload_n (pc := 8) dX6_get_8 rfl ?_
  refine G_iaload (pc := 9) dX6_get_9 rfl rfl (by omega) ?_
  refine G_iload_n (pc := 10) dX6_get_10 rfl ?_
  refine G_iadd (pc := 11) dX6_get_11 (by omega) ?_
  refine G_iaload (pc := 12) dX6_get_12 rfl rfl (by omega) ?_
  exact G_ireturn (pc := 13) dX6_get_13 (qeq (by first | rfl | omega | (split <;> omega) | grind))
theorem c_X0_bound (t : Sto) (r : Int) (h : (0 ≤ r ∧ r < 24) ∧ 0 ≤ t 28 r ∧ t 28 r ≤ t 28 (r + 1) ∧ t 28 (r + 1) ≤ 120) : CT yX0_bound cX0_bound 2 (some .int) 1 [mP 7, mI r] t (fun a t' => a = some (mI (3 * (t 28 (r + 1) - t 28 r))) ∧ t' = t) := by
  refine CT_of rfl rfl (Nat.le_of_ble_eq_true rfl) (fun E ht has => ?_)
  refine G_iconst (pc := 0) dX0_bound_0 (by decide) ?_
  refine G_aload_n (pc := 1) dX0_bound_1 rfl ?_
  refine G_getP (pc := 2) dX0_bound_2 fk_X0_15 rfl rfl rfl ?_
  refine G_iload_n (pc := 5) dX0_bound_5 rfl ?_
  refine G_cV1 (pc := 6) (c_X6_count _ _ (by omega)) dX0_bound_6 ml_X0_19 rfl rfl rfl (by decide) (Nat.le_of_ble_eq_true rfl) ?_
  refine G_imul (pc := 9) dX0_bound_9 (by omega) ?_
  exact G_ireturn (pc := 10) dX0_bound_10 (qeq (by first | rfl | omega | (split <;> omega) | grind))
theorem c_X0_lookAtOrigin (t : Sto) : CT yX0_lookAtOrigin cX0_lookAtOrigin 1 none 0 [mP 7] t (fun a t' => a = none ∧ t' = su (su (su t 650 0 0) 651 0 0) 652 0 0) := by
  refine CT_of rfl rfl (Nat.le_of_ble_eq_true rfl) (fun E ht has => ?_)
  refine G_aload_n (pc := 0) dX0_lookAtOrigin_0 rfl ?_
  refine G_iconst (pc := 1) dX0_lookAtOrigin_1 (by decide) ?_
  refine G_put (pc := 2) dX0_lookAtOrigin_2 fk_X0_25 fw_X0_2 rfl rfl rfl (fun h => absurd h (by decide)) ?_
  refine G_aload_n (pc := 5) dX0_lookAtOrigin_5 rfl ?_
  refine G_iconst (pc := 6) dX0_lookAtOrigin_6 (by decide) ?_
  refine G_put (pc := 7) dX0_lookAtOrigin_7 fk_X0_29 fw_X0_3 rfl rfl rfl (fun h => absurd h (by decide)) ?_
  refine G_aload_n (pc := 10) dX0_lookAtOrigin_10 rfl ?_
  refine G_iconst (pc := 11) dX0_lookAtOrigin_11 (by decide) ?_
  refine G_put (pc := 12) dX0_lookAtOrigin_12 fk_X0_32 fw_X0_4 rfl rfl rfl (fun h => absurd h (by decide)) ?_
  exact G_return (pc := 15) dX0_lookAtOrigin_15 ⟨rfl, rfl⟩
