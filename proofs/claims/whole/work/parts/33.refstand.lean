/-! STANDING BY a chance; JOINED rooms: the reference -/
noncomputable def sbX (t : Sto) (r j : Int) : Int := if 0 ≤ nth (cdM t r) 0 (3 * t 2188 0) j then chX (t 35) (t 36) (t 37) (t 47) r (nth (cdM t r) 0 (3 * t 2188 0) j) else spX (t 2184 0) (t 2188 0) (t 35) (t 37) (t 46) (t 47) (t 48) (t 49) r
noncomputable def sbY (t : Sto) (r j : Int) : Int := if 0 ≤ nth (cdM t r) 0 (3 * t 2188 0) j then chY (t 35) (t 36) (t 37) (t 48) r (nth (cdM t r) 0 (3 * t 2188 0) j) else spY (t 2184 0) (t 2188 0) (t 35) (t 37) (t 46) (t 47) (t 48) (t 49) r
noncomputable def sbL (t : Sto) (r j : Int) : Int := if 0 ≤ nth (cdM t r) 0 (3 * t 2188 0) j then chL (t 35) (t 36) (t 37) (t 49) r (nth (cdM t r) 0 (3 * t 2188 0) j) else spL (t 2188 0) (t 35) (t 37) (t 46) (t 49) r
noncomputable def sbT (t : Sto) (r j : Int) : Sto := if nth (cdM t r) 0 (3 * t 2188 0) j < 0 ∧ 0 < j then t else standM (cM3 t (sbX t r j) (sbY t r j) (sbL t r j)) r (sbX t r j) (sbY t r j) (sbL t r j)
theorem c_X9_standBy (t : Sto) (r j : Int) (hS : SM t) (hr : 0 ≤ r ∧ r < t 2184 0) (hj : 0 ≤ j) (hnb : j = 0 → 0 ≤ nbS (t 2188 0) (t 35) (t 37) (t 46) r) (hX : BD (t 47)) (hY : BD (t 48)) (hL : BD (t 49)) : CT yX9_standBy cX9_standBy 4 (some .boolean) 3 [mP 31, mI r, mI j] t (fun a t' => a = some (mI (if nth (cdM t r) 0 (3 * t 2188 0) j < 0 ∧ 0 < j then 0 else 1)) ∧ t' = sbT t r j) := by
  refine CT_of rfl rfl (Nat.le_of_ble_eq_true rfl) (fun E ht has => ?_)
  have hb := hS.1
  have e0 : sbT t r j = if nth (cdM t r) 0 (3 * t 2188 0) j < 0 ∧ 0 < j then t else standM (cM3 t (sbX t r j) (sbY t r j) (sbL t r j)) r (sbX t r j) (sbY t r j) (sbL t r j) := rfl
  rw [e0]
  unfold sbX sbY sbL
  generalize hZ : nth (cdM t r) 0 (3 * t 2188 0) j = Z
  have w1 : 0 ≤ Z → G E cX9_standBy RX9 (some .boolean) 3 17 [some (mP 31), some (mI r), some (mI j), some (mI (if 0 ≤ Z then 1 else 0))] [] (cM3 t (chX (t 35) (t 36) (t 37) (t 47) r Z) (chY (t 35) (t 36) (t 37) (t 48) r Z) (chL (t 35) (t 36) (t 37) (t 49) r Z)) (fun a t' => a = some (mI (if Z < 0 ∧ 0 < j then 0 else 1)) ∧ t' = if Z < 0 ∧ 0 < j then t else standM (cM3 t (if 0 ≤ Z then chX (t 35) (t 36) (t 37) (t 47) r Z else spX (t 2184 0) (t 2188 0) (t 35) (t 37) (t 46) (t 47) (t 48) (t 49) r) (if 0 ≤ Z then chY (t 35) (t 36) (t 37) (t 48) r Z else spY (t 2184 0) (t 2188 0) (t 35) (t 37) (t 46) (t 47) (t 48) (t 49) r) (if 0 ≤ Z then chL (t 35) (t 36) (t 37) (t 49) r Z else spL (t 2188 0) (t 35) (t 37) (t 46) (t 49) r)) r (if 0 ≤ Z then chX (t 35) (t 36) (t 37) (t 47) r Z else spX (t 2184 0) (t 2188 0) (t 35) (t 37) (t 46) (t 47) (t 48) (t 49) r) (if 0 ≤ Z then chY (t 35) (t 36) (t 37) (t 48) r Z else spY (t 2184 0) (t 2188 0) (t 35) (t 37) (t 46) (t 47) (t 48) (t 49) r) (if 0 ≤ Z then chL (t 35) (t 36) (t 37) (t 49) r Z else spL (t 2188 0) (t 35) (t 37) (t 46) (t 49) r)) := by
    intro hz
    have p6 := cM3_at t (chX (t 35) (t 36) (t 37) (t 47) r Z) (chY (t 35) (t 36) (t 37) (t 48) r Z) (chL (t 35) (t 36) (t 37) (t 49) r Z)
    refine G_iload_n (pc := 17) dX9_standBy_17 rfl ?_
    refine G_if_ne (pc := 18) (tgt := 26) dX9_standBy_18 rfl (fun h_18 => ?_) (fun h_18 => ?_)
    · try simp only [bq0, ne_eq, Classical.not_not] at h_18
      refine G_aload_n (pc := 26) dX9_standBy_26 rfl ?_
      refine G_iload_n (pc := 27) dX9_standBy_27 rfl ?_
      refine G_aload_n (pc := 28) dX9_standBy_28 rfl ?_
      refine G_getI (pc := 29) dX9_standBy_29 fk_X9_154 rfl rfl rfl ?_
      refine G_aload_n (pc := 32) dX9_standBy_32 rfl ?_
      refine G_getI (pc := 33) dX9_standBy_33 fk_X9_157 rfl rfl rfl ?_
      refine G_aload_n (pc := 36) dX9_standBy_36 rfl ?_
      refine G_getI (pc := 37) dX9_standBy_37 fk_X9_160 rfl rfl rfl ?_
      rw [p6.1, p6.2.1, p6.2.2]
      refine G_cV0 (pc := 40) (c_X9_stand _ _ _ _ _ (by omega)) dX9_standBy_40 ml_X9_171 rfl rfl rfl (by decide) (Nat.le_of_ble_eq_true rfl) ?_
      refine G_iconst (pc := 43) dX9_standBy_43 (by decide) ?_
      exact G_zreturn (pc := 44) dX9_standBy_44 (by first | exact Or.inl rfl | exact Or.inr rfl | omega | (split <;> first | exact Or.inl rfl | exact Or.inr rfl)) (qeq' (by rw [if_neg (by omega)]) (by rw [if_neg (by omega), if_pos hz, if_pos hz, if_pos hz]))
    · try simp only [bq0, ne_eq, Classical.not_not] at h_18
      exact absurd hz h_18
  have w2 : ¬ 0 ≤ Z → j = 0 → G E cX9_standBy RX9 (some .boolean) 3 17 [some (mP 31), some (mI r), some (mI j), some (mI (if 0 ≤ Z then 1 else 0))] [] t (fun a t' => a = some (mI (if Z < 0 ∧ 0 < j then 0 else 1)) ∧ t' = if Z < 0 ∧ 0 < j then t else standM (cM3 t (if 0 ≤ Z then chX (t 35) (t 36) (t 37) (t 47) r Z else spX (t 2184 0) (t 2188 0) (t 35) (t 37) (t 46) (t 47) (t 48) (t 49) r) (if 0 ≤ Z then chY (t 35) (t 36) (t 37) (t 48) r Z else spY (t 2184 0) (t 2188 0) (t 35) (t 37) (t 46) (t 47) (t 48) (t 49) r) (if 0 ≤ Z then chL (t 35) (t 36) (t 37) (t 49) r Z else spL (t 2188 0) (t 35) (t 37) (t 46) (t 49) r)) r (if 0 ≤ Z then chX (t 35) (t 36) (t 37) (t 47) r Z else spX (t 2184 0) (t 2188 0) (t 35) (t 37) (t 46) (t 47) (t 48) (t 49) r) (if 0 ≤ Z then chY (t 35) (t 36) (t 37) (t 48) r Z else spY (t 2184 0) (t 2188 0) (t 35) (t 37) (t 46) (t 47) (t 48) (t 49) r) (if 0 ≤ Z then chL (t 35) (t 36) (t 37) (t 49) r Z else spL (t 2188 0) (t 35) (t 37) (t 46) (t 49) r)) := by
    intro hz hj0
    have p6 := cM3_at t (spX (t 2184 0) (t 2188 0) (t 35) (t 37) (t 46) (t 47) (t 48) (t 49) r) (spY (t 2184 0) (t 2188 0) (t 35) (t 37) (t 46) (t 47) (t 48) (t 49) r) (spL (t 2188 0) (t 35) (t 37) (t 46) (t 49) r)
    refine G_iload_n (pc := 17) dX9_standBy_17 rfl ?_
    refine G_if_ne (pc := 18) (tgt := 26) dX9_standBy_18 rfl (fun h_18 => ?_) (fun h_18 => ?_)
    · try simp only [bq0, ne_eq, Classical.not_not] at h_18
      exact absurd h_18 hz
    · try simp only [bq0, ne_eq, Classical.not_not] at h_18
      refine G_aload_n (pc := 21) dX9_standBy_21 rfl ?_
      refine G_iload_n (pc := 22) dX9_standBy_22 rfl ?_
      refine G_cV0 (pc := 23) (c_X9_spare _ _ (by exact hS) (by omega) (by omega) (by omega) (by omega) (by omega)) dX9_standBy_23 ml_X9_167 rfl rfl rfl (by decide) (Nat.le_of_ble_eq_true rfl) ?_
      refine G_aload_n (pc := 26) dX9_standBy_26 rfl ?_
      refine G_iload_n (pc := 27) dX9_standBy_27 rfl ?_
      refine G_aload_n (pc := 28) dX9_standBy_28 rfl ?_
      refine G_getI (pc := 29) dX9_standBy_29 fk_X9_154 rfl rfl rfl ?_
      try simp (disch := decide) only [su_ne, su_at, su_same, sv_ne, sv_at]
      refine G_aload_n (pc := 32) dX9_standBy_32 rfl ?_
      refine G_getI (pc := 33) dX9_standBy_33 fk_X9_157 rfl rfl rfl ?_
      try simp (disch := decide) only [su_ne, su_at, su_same, sv_ne, sv_at]
      refine G_aload_n (pc := 36) dX9_standBy_36 rfl ?_
      refine G_getI (pc := 37) dX9_standBy_37 fk_X9_160 rfl rfl rfl ?_
      try simp (disch := decide) only [su_ne, su_at, su_same, sv_ne, sv_at]
      rw [p6.1, p6.2.1, p6.2.2]
      refine G_cV0 (pc := 40) (c_X9_stand _ _ _ _ _ (by omega)) dX9_standBy_40 ml_X9_171 rfl rfl rfl (by decide) (Nat.le_of_ble_eq_true rfl) ?_
      refine G_iconst (pc := 43) dX9_standBy_43 (by decide) ?_
      exact G_zreturn (pc := 44) dX9_standBy_44 (by first | exact Or.inl rfl | exact Or.inr rfl | omega | (split <;> first | exact Or.inl rfl | exact Or.inr rfl)) (qeq' (by rw [if_neg (by omega)]) (by rw [if_neg (by omega), if_neg hz, if_neg hz, if_neg hz]))
  refine G_aload_n (pc := 0) dX9_standBy_0 rfl ?_
  refine G_iload_n (pc := 1) dX9_standBy_1 rfl ?_
  refine G_iload_n (pc := 2) dX9_standBy_2 rfl ?_
  refine G_cV1 (pc := 3) (c_X9_chance _ _ _ (by exact hS) (by omega) (by omega) (by omega) (by omega) (by omega)) dX9_standBy_3 ml_X9_163 rfl rfl rfl (by decide) (Nat.le_of_ble_eq_true rfl) ?_
  rw [hZ]
  refine G_istore_n (pc := 6) dX9_standBy_6 (Nat.le_of_ble_eq_true rfl) rfl ?_
  refine G_iload_n (pc := 7) dX9_standBy_7 rfl ?_
  refine G_if_ne (pc := 8) (tgt := 17) dX9_standBy_8 rfl (fun h_8 => ?_) (fun h_8 => ?_)
  · try simp only [bq0, ne_eq, Classical.not_not] at h_8
    have hc0 : chT t r Z = cM3 t (chX (t 35) (t 36) (t 37) (t 47) r Z) (chY (t 35) (t 36) (t 37) (t 48) r Z) (chL (t 35) (t 36) (t 37) (t 49) r Z) := by unfold chT; rw [if_pos h_8]
    rw [hc0]
    first | exact w1 h_8 | exact w2 h_8 (by omega)
  · try simp only [bq0, ne_eq, Classical.not_not] at h_8
    have hc0 : chT t r Z = t := by unfold chT; rw [if_neg h_8]
    rw [hc0]
    refine G_iload_n (pc := 11) dX9_standBy_11 rfl ?_
    refine G_if_le (pc := 12) (tgt := 17) dX9_standBy_12 rfl (fun h_12 => ?_) (fun h_12 => ?_)
    · first | exact w1 h_8 | exact w2 h_8 (by omega)
    · refine G_iconst (pc := 15) dX9_standBy_15 (by decide) ?_
      exact G_zreturn (pc := 16) dX9_standBy_16 (by first | exact Or.inl rfl | exact Or.inr rfl | omega | (split <;> first | exact Or.inl rfl | exact Or.inr rfl)) (qeq' (by rw [if_pos (by omega)]) (by rw [if_pos (by omega)]))
/-- a link joins r with a room that P -/
def jnP (fr to ps : Int → Int) (r l : Int) : Prop := (fr l = r ∧ ps (to l) ≠ 0) ∨ (to l = r ∧ ps (fr l) ≠ 0)
theorem jn_nb {fr to ps : Int → Int} {r : Int} (h : ps r = 0) (l : Int) : jnP fr to ps r l ↔ nbP fr to ps r l := by
  unfold jnP nbP incP othE
  grind
theorem c_X9_hasTaken (t : Sto) (r : Int) (hS : SM t) (hr : 0 ≤ r ∧ r < t 2184 0) : CT yX9_hasTaken cX9_hasTaken 4 (some .boolean) 0 [mP 31, mI r] t (fun a t' => a = some (mI (if 0 ≤ fst (jnP (t 35) (t 37) (t 51) r) 0 (t 2188 0) then 1 else 0)) ∧ t' = t) := by
  refine CT_of rfl rfl (Nat.le_of_ble_eq_true rfl) (fun E ht has => ?_)
  have hb := hS.1
  generalize hZ : fst (jnP (t 35) (t 37) (t 51) r) 0 (t 2188 0) = Z
  have loop : ∀ l, l ≤ t 2188 0 → ∀ c : Int, 0 ≤ l → ((c = 1 ∧ 0 ≤ Z) ∨ (c = 0 ∧ fst (jnP (t 35) (t 37) (t 51) r) l (t 2188 0) = Z)) → G E cX9_hasTaken RX9 (some .boolean) 0 4 [some (mP 31), some (mI r), some (mI c), some (mI l)] [] t (fun a t' => a = some (mI (if 0 ≤ Z then 1 else 0)) ∧ t' = t) := by
    refine up_ind (fun l hl ih c h0 hc => ?_)
    have hst : l < t 2188 0 → ∀ v, v = @ite _ (c ≠ 0 ∨ jnP (t 35) (t 37) (t 51) r l) (Classical.propDecidable _) (1 : Int) 0 → (v = 1 ∧ 0 ≤ Z) ∨ (v = 0 ∧ fst (jnP (t 35) (t 37) (t 51) r) (l + 1) (t 2188 0) = Z) := by
      intro hlk v hv
      rcases hc with ⟨c1, c2⟩ | ⟨c1, c2⟩
      · rw [if_pos (Or.inl (by omega))] at hv; exact Or.inl ⟨hv, c2⟩
      · by_cases hP : jnP (t 35) (t 37) (t 51) r l
        · rw [fst_pos hlk hP] at c2; rw [if_pos (Or.inr hP)] at hv; exact Or.inl ⟨hv, by omega⟩
        · rw [fst_neg hlk hP] at c2; rw [if_neg (by rintro (z | z); exact z c1; exact hP z)] at hv; exact Or.inr ⟨hv, c2⟩
    refine G_iload_n (pc := 4) dX9_hasTaken_4 rfl ?_
    refine G_aload_n (pc := 5) dX9_hasTaken_5 rfl ?_
    refine G_getI (pc := 6) dX9_hasTaken_6 fk_X9_94 rfl rfl rfl ?_
    refine G_icmp_ge (pc := 9) (tgt := 76) dX9_hasTaken_9 rfl (fun h_9 => ?_) (fun h_9 => ?_)
    · refine G_iload_n (pc := 76) dX9_hasTaken_76 rfl ?_
      exact G_zreturn (pc := 77) dX9_hasTaken_77 (by first | exact Or.inl rfl | exact Or.inr rfl | omega | (split <;> first | exact Or.inl rfl | exact Or.inr rfl)) (qeq (by rcases hc with ⟨c1, c2⟩ | ⟨c1, c2⟩; (rw [c1, if_pos c2]); (rw [fst_ge (by omega)] at c2; rw [c1, if_neg (by omega)])))
    · obtain ⟨hfr, hto, hdi, -⟩ := hS.2 l h0 (by omega)
      refine G_join (pc := 12) (P := fun v => v = @ite _ (c ≠ 0 ∨ jnP (t 35) (t 37) (t 51) r l) (Classical.propDecidable _) (1 : Int) 0) 69 (fun v_69 hv_69 => ?_) (fun j_69 => ?_)
      · refine G_istore_n (pc := 69) dX9_hasTaken_69 (Nat.le_of_ble_eq_true rfl) rfl ?_
        refine G_iinc (pc := 70) dX9_hasTaken_70 rfl rfl (by omega) ?_
        refine G_goto (pc := 73) (tgt := 4) dX9_hasTaken_73 rfl ?_
        exact ih (by omega) _ (by omega) (hst (by omega) _ hv_69)
      · refine G_iload_n (pc := 12) dX9_hasTaken_12 rfl ?_
        refine G_if_ne (pc := 13) (tgt := 64) dX9_hasTaken_13 rfl (fun h_13 => ?_) (fun h_13 => ?_)
        · try simp only [bq0, ne_eq, Classical.not_not] at h_13
          refine G_iconst (pc := 64) dX9_hasTaken_64 (by decide) ?_
          refine G_goto (pc := 65) (tgt := 69) dX9_hasTaken_65 rfl ?_
          exact j_69 _ (by unfold jnP; grind)
        · try simp only [bq0, ne_eq, Classical.not_not] at h_13
          refine G_aload_n (pc := 16) dX9_hasTaken_16 rfl ?_
          refine G_getP (pc := 17) dX9_hasTaken_17 fk_X9_19 rfl rfl rfl ?_
          refine G_iload_n (pc := 20) dX9_hasTaken_20 rfl ?_
          refine G_iaload (pc := 21) dX9_hasTaken_21 rfl rfl (by omega) ?_
          refine G_iload_n (pc := 22) dX9_hasTaken_22 rfl ?_
          refine G_icmp_ne (pc := 23) (tgt := 40) dX9_hasTaken_23 rfl (fun h_23 => ?_) (fun h_23 => ?_)
          · refine G_aload_n (pc := 40) dX9_hasTaken_40 rfl ?_
            refine G_getP (pc := 41) dX9_hasTaken_41 fk_X9_25 rfl rfl rfl ?_
            refine G_iload_n (pc := 44) dX9_hasTaken_44 rfl ?_
            refine G_iaload (pc := 45) dX9_hasTaken_45 rfl rfl (by omega) ?_
            refine G_iload_n (pc := 46) dX9_hasTaken_46 rfl ?_
            refine G_icmp_ne (pc := 47) (tgt := 68) dX9_hasTaken_47 rfl (fun h_47 => ?_) (fun h_47 => ?_)
            · refine G_iconst (pc := 68) dX9_hasTaken_68 (by decide) ?_
              exact j_69 _ (by unfold jnP; grind)
            · refine G_aload_n (pc := 50) dX9_hasTaken_50 rfl ?_
              refine G_getP (pc := 51) dX9_hasTaken_51 fk_X9_68 rfl rfl rfl ?_
              refine G_aload_n (pc := 54) dX9_hasTaken_54 rfl ?_
              refine G_getP (pc := 55) dX9_hasTaken_55 fk_X9_19 rfl rfl rfl ?_
              refine G_iload_n (pc := 58) dX9_hasTaken_58 rfl ?_
              refine G_iaload (pc := 59) dX9_hasTaken_59 rfl rfl (by omega) ?_
              refine G_baload (pc := 60) dX9_hasTaken_60 rfl rfl (by omega) ?_
              refine G_if_eq (pc := 61) (tgt := 68) dX9_hasTaken_61 rfl (fun h_61 => ?_) (fun h_61 => ?_)
              · try simp only [bq0, ne_eq, Classical.not_not] at h_61
                refine G_iconst (pc := 68) dX9_hasTaken_68 (by decide) ?_
                exact j_69 _ (by unfold jnP; grind)
              · try simp only [bq0, ne_eq, Classical.not_not] at h_61
                refine G_iconst (pc := 64) dX9_hasTaken_64 (by decide) ?_
                refine G_goto (pc := 65) (tgt := 69) dX9_hasTaken_65 rfl ?_
                exact j_69 _ (by unfold jnP; grind)
          · refine G_aload_n (pc := 26) dX9_hasTaken_26 rfl ?_
            refine G_getP (pc := 27) dX9_hasTaken_27 fk_X9_68 rfl rfl rfl ?_
            refine G_aload_n (pc := 30) dX9_hasTaken_30 rfl ?_
            refine G_getP (pc := 31) dX9_hasTaken_31 fk_X9_25 rfl rfl rfl ?_
            refine G_iload_n (pc := 34) dX9_hasTaken_34 rfl ?_
            refine G_iaload (pc := 35) dX9_hasTaken_35 rfl rfl (by omega) ?_
            refine G_baload (pc := 36) dX9_hasTaken_36 rfl rfl (by omega) ?_
            refine G_if_ne (pc := 37) (tgt := 64) dX9_hasTaken_37 rfl (fun h_37 => ?_) (fun h_37 => ?_)
            · try simp only [bq0, ne_eq, Classical.not_not] at h_37
              refine G_iconst (pc := 64) dX9_hasTaken_64 (by decide) ?_
              refine G_goto (pc := 65) (tgt := 69) dX9_hasTaken_65 rfl ?_
              exact j_69 _ (by unfold jnP; grind)
            · try simp only [bq0, ne_eq, Classical.not_not] at h_37
              refine G_aload_n (pc := 40) dX9_hasTaken_40 rfl ?_
              refine G_getP (pc := 41) dX9_hasTaken_41 fk_X9_25 rfl rfl rfl ?_
              refine G_iload_n (pc := 44) dX9_hasTaken_44 rfl ?_
              refine G_iaload (pc := 45) dX9_hasTaken_45 rfl rfl (by omega) ?_
              refine G_iload_n (pc := 46) dX9_hasTaken_46 rfl ?_
              refine G_icmp_ne (pc := 47) (tgt := 68) dX9_hasTaken_47 rfl (fun h_47 => ?_) (fun h_47 => ?_)
              · refine G_iconst (pc := 68) dX9_hasTaken_68 (by decide) ?_
                exact j_69 _ (by unfold jnP; grind)
              · refine G_aload_n (pc := 50) dX9_hasTaken_50 rfl ?_
                refine G_getP (pc := 51) dX9_hasTaken_51 fk_X9_68 rfl rfl rfl ?_
                refine G_aload_n (pc := 54) dX9_hasTaken_54 rfl ?_
                refine G_getP (pc := 55) dX9_hasTaken_55 fk_X9_19 rfl rfl rfl ?_
                refine G_iload_n (pc := 58) dX9_hasTaken_58 rfl ?_
                refine G_iaload (pc := 59) dX9_hasTaken_59 rfl rfl (by omega) ?_
                refine G_baload (pc := 60) dX9_hasTaken_60 rfl rfl (by omega) ?_
                refine G_if_eq (pc := 61) (tgt := 68) dX9_hasTaken_61 rfl (fun h_61 => ?_) (fun h_61 => ?_)
                · try simp only [bq0, ne_eq, Classical.not_not] at h_61
                  refine G_iconst (pc := 68) dX9_hasTaken_68 (by decide) ?_
                  exact j_69 _ (by unfold jnP; grind)
                · try simp only [bq0, ne_eq, Classical.not_not] at h_61
                  refine G_iconst (pc := 64) dX9_hasTaken_64 (by decide) ?_
                  refine G_goto (pc := 65) (tgt := 69) dX9_hasTaken_65 rfl ?_
                  exact j_69 _ (by unfold jnP; grind)
  refine G_iconst (pc := 0) dX9_hasTaken_0 (by decide) ?_
  refine G_istore_n (pc := 1) dX9_hasTaken_1 (Nat.le_of_ble_eq_true rfl) rfl ?_
  refine G_iconst (pc := 2) dX9_hasTaken_2 (by decide) ?_
  refine G_istore_n (pc := 3) dX9_hasTaken_3 (Nat.le_of_ble_eq_true rfl) rfl ?_
  exact loop 0 (by omega) 0 (by omega) (Or.inr ⟨rfl, hZ⟩)
theorem c_X9_isJoined (t : Sto) (r : Int) (hS : SM t) (hr : 0 ≤ r ∧ r < t 2184 0) : CT yX9_isJoined cX9_isJoined 4 (some .boolean) 0 [mP 31, mI r] t (fun a t' => a = some (mI (if 0 ≤ fst (jnP (t 35) (t 37) (t 46) r) 0 (t 2188 0) then 1 else 0)) ∧ t' = t) := by
  refine CT_of rfl rfl (Nat.le_of_ble_eq_true rfl) (fun E ht has => ?_)
  have hb := hS.1
  generalize hZ : fst (jnP (t 35) (t 37) (t 46) r) 0 (t 2188 0) = Z
  have loop : ∀ l, l ≤ t 2188 0 → ∀ c : Int, 0 ≤ l → ((c = 1 ∧ 0 ≤ Z) ∨ (c = 0 ∧ fst (jnP (t 35) (t 37) (t 46) r) l (t 2188 0) = Z)) → G E cX9_isJoined RX9 (some .boolean) 0 4 [some (mP 31), some (mI r), some (mI c), some (mI l)] [] t (fun a t' => a = some (mI (if 0 ≤ Z then 1 else 0)) ∧ t' = t) := by
    refine up_ind (fun l hl ih c h0 hc => ?_)
    have hst : l < t 2188 0 → ∀ v, v = @ite _ (c ≠ 0 ∨ jnP (t 35) (t 37) (t 46) r l) (Classical.propDecidable _) (1 : Int) 0 → (v = 1 ∧ 0 ≤ Z) ∨ (v = 0 ∧ fst (jnP (t 35) (t 37) (t 46) r) (l + 1) (t 2188 0) = Z) := by
      intro hlk v hv
      rcases hc with ⟨c1, c2⟩ | ⟨c1, c2⟩
      · rw [if_pos (Or.inl (by omega))] at hv; exact Or.inl ⟨hv, c2⟩
      · by_cases hP : jnP (t 35) (t 37) (t 46) r l
        · rw [fst_pos hlk hP] at c2; rw [if_pos (Or.inr hP)] at hv; exact Or.inl ⟨hv, by omega⟩
        · rw [fst_neg hlk hP] at c2; rw [if_neg (by rintro (z | z); exact z c1; exact hP z)] at hv; exact Or.inr ⟨hv, c2⟩
    refine G_iload_n (pc := 4) dX9_isJoined_4 rfl ?_
    refine G_aload_n (pc := 5) dX9_isJoined_5 rfl ?_
    refine G_getI (pc := 6) dX9_isJoined_6 fk_X9_94 rfl rfl rfl ?_
    refine G_icmp_ge (pc := 9) (tgt := 76) dX9_isJoined_9 rfl (fun h_9 => ?_) (fun h_9 => ?_)
    · refine G_iload_n (pc := 76) dX9_isJoined_76 rfl ?_
      exact G_zreturn (pc := 77) dX9_isJoined_77 (by first | exact Or.inl rfl | exact Or.inr rfl | omega | (split <;> first | exact Or.inl rfl | exact Or.inr rfl)) (qeq (by rcases hc with ⟨c1, c2⟩ | ⟨c1, c2⟩; (rw [c1, if_pos c2]); (rw [fst_ge (by omega)] at c2; rw [c1, if_neg (by omega)])))
    · obtain ⟨hfr, hto, hdi, -⟩ := hS.2 l h0 (by omega)
      refine G_join (pc := 12) (P := fun v => v = @ite _ (c ≠ 0 ∨ jnP (t 35) (t 37) (t 46) r l) (Classical.propDecidable _) (1 : Int) 0) 69 (fun v_69 hv_69 => ?_) (fun j_69 => ?_)
      · refine G_istore_n (pc := 69) dX9_isJoined_69 (Nat.le_of_ble_eq_true rfl) rfl ?_
        refine G_iinc (pc := 70) dX9_isJoined_70 rfl rfl (by omega) ?_
        refine G_goto (pc := 73) (tgt := 4) dX9_isJoined_73 rfl ?_
        exact ih (by omega) _ (by omega) (hst (by omega) _ hv_69)
      · refine G_iload_n (pc := 12) dX9_isJoined_12 rfl ?_
        refine G_if_ne (pc := 13) (tgt := 64) dX9_isJoined_13 rfl (fun h_13 => ?_) (fun h_13 => ?_)
        · try simp only [bq0, ne_eq, Classical.not_not] at h_13
          refine G_iconst (pc := 64) dX9_isJoined_64 (by decide) ?_
          refine G_goto (pc := 65) (tgt := 69) dX9_isJoined_65 rfl ?_
          exact j_69 _ (by unfold jnP; grind)
        · try simp only [bq0, ne_eq, Classical.not_not] at h_13
          refine G_aload_n (pc := 16) dX9_isJoined_16 rfl ?_
          refine G_getP (pc := 17) dX9_isJoined_17 fk_X9_19 rfl rfl rfl ?_
          refine G_iload_n (pc := 20) dX9_isJoined_20 rfl ?_
          refine G_iaload (pc := 21) dX9_isJoined_21 rfl rfl (by omega) ?_
          refine G_iload_n (pc := 22) dX9_isJoined_22 rfl ?_
          refine G_icmp_ne (pc := 23) (tgt := 40) dX9_isJoined_23 rfl (fun h_23 => ?_) (fun h_23 => ?_)
          · refine G_aload_n (pc := 40) dX9_isJoined_40 rfl ?_
            refine G_getP (pc := 41) dX9_isJoined_41 fk_X9_25 rfl rfl rfl ?_
            refine G_iload_n (pc := 44) dX9_isJoined_44 rfl ?_
            refine G_iaload (pc := 45) dX9_isJoined_45 rfl rfl (by omega) ?_
            refine G_iload_n (pc := 46) dX9_isJoined_46 rfl ?_
            refine G_icmp_ne (pc := 47) (tgt := 68) dX9_isJoined_47 rfl (fun h_47 => ?_) (fun h_47 => ?_)
            · refine G_iconst (pc := 68) dX9_isJoined_68 (by decide) ?_
              exact j_69 _ (by unfold jnP; grind)
            · refine G_aload_n (pc := 50) dX9_isJoined_50 rfl ?_
              refine G_getP (pc := 51) dX9_isJoined_51 fk_X9_53 rfl rfl rfl ?_
              refine G_aload_n (pc := 54) dX9_isJoined_54 rfl ?_
              refine G_getP (pc := 55) dX9_isJoined_55 fk_X9_19 rfl rfl rfl ?_
              refine G_iload_n (pc := 58) dX9_isJoined_58 rfl ?_
              refine G_iaload (pc := 59) dX9_isJoined_59 rfl rfl (by omega) ?_
              refine G_baload (pc := 60) dX9_isJoined_60 rfl rfl (by omega) ?_
              refine G_if_eq (pc := 61) (tgt := 68) dX9_isJoined_61 rfl (fun h_61 => ?_) (fun h_61 => ?_)
              · try simp only [bq0, ne_eq, Classical.not_not] at h_61
                refine G_iconst (pc := 68) dX9_isJoined_68 (by decide) ?_
                exact j_69 _ (by unfold jnP; grind)
              · try simp only [bq0, ne_eq, Classical.not_not] at h_61
                refine G_iconst (pc := 64) dX9_isJoined_64 (by decide) ?_
                refine G_goto (pc := 65) (tgt := 69) dX9_isJoined_65 rfl ?_
                exact j_69 _ (by unfold jnP; grind)
          · refine G_aload_n (pc := 26) dX9_isJoined_26 rfl ?_
            refine G_getP (pc := 27) dX9_isJoined_27 fk_X9_53 rfl rfl rfl ?_
            refine G_aload_n (pc := 30) dX9_isJoined_30 rfl ?_
            refine G_getP (pc := 31) dX9_isJoined_31 fk_X9_25 rfl rfl rfl ?_
            refine G_iload_n (pc := 34) dX9_isJoined_34 rfl ?_
            refine G_iaload (pc := 35) dX9_isJoined_35 rfl rfl (by omega) ?_
            refine G_baload (pc := 36) dX9_isJoined_36 rfl rfl (by omega) ?_
            refine G_if_ne (pc := 37) (tgt := 64) dX9_isJoined_37 rfl (fun h_37 => ?_) (fun h_37 => ?_)
            · try simp only [bq0, ne_eq, Classical.not_not] at h_37
              refine G_iconst (pc := 64) dX9_isJoined_64 (by decide) ?_
              refine G_goto (pc := 65) (tgt := 69) dX9_isJoined_65 rfl ?_
              exact j_69 _ (by unfold jnP; grind)
            · try simp only [bq0, ne_eq, Classical.not_not] at h_37
              refine G_aload_n (pc := 40) dX9_isJoined_40 rfl ?_
              refine G_getP (pc := 41) dX9_isJoined_41 fk_X9_25 rfl rfl rfl ?_
              refine G_iload_n (pc := 44) dX9_isJoined_44 rfl ?_
              refine G_iaload (pc := 45) dX9_isJoined_45 rfl rfl (by omega) ?_
              refine G_iload_n (pc := 46) dX9_isJoined_46 rfl ?_
              refine G_icmp_ne (pc := 47) (tgt := 68) dX9_isJoined_47 rfl (fun h_47 => ?_) (fun h_47 => ?_)
              · refine G_iconst (pc := 68) dX9_isJoined_68 (by decide) ?_
                exact j_69 _ (by unfold jnP; grind)
              · refine G_aload_n (pc := 50) dX9_isJoined_50 rfl ?_
                refine G_getP (pc := 51) dX9_isJoined_51 fk_X9_53 rfl rfl rfl ?_
                refine G_aload_n (pc := 54) dX9_isJoined_54 rfl ?_
                refine G_getP (pc := 55) dX9_isJoined_55 fk_X9_19 rfl rfl rfl ?_
                refine G_iload_n (pc := 58) dX9_isJoined_58 rfl ?_
                refine G_iaload (pc := 59) dX9_isJoined_59 rfl rfl (by omega) ?_
                refine G_baload (pc := 60) dX9_isJoined_60 rfl rfl (by omega) ?_
                refine G_if_eq (pc := 61) (tgt := 68) dX9_isJoined_61 rfl (fun h_61 => ?_) (fun h_61 => ?_)
                · try simp only [bq0, ne_eq, Classical.not_not] at h_61
                  refine G_iconst (pc := 68) dX9_isJoined_68 (by decide) ?_
                  exact j_69 _ (by unfold jnP; grind)
                · try simp only [bq0, ne_eq, Classical.not_not] at h_61
                  refine G_iconst (pc := 64) dX9_isJoined_64 (by decide) ?_
                  refine G_goto (pc := 65) (tgt := 69) dX9_isJoined_65 rfl ?_
                  exact j_69 _ (by unfold jnP; grind)
  refine G_iconst (pc := 0) dX9_isJoined_0 (by decide) ?_
  refine G_istore_n (pc := 1) dX9_isJoined_1 (Nat.le_of_ble_eq_true rfl) rfl ?_
  refine G_iconst (pc := 2) dX9_isJoined_2 (by decide) ?_
  refine G_istore_n (pc := 3) dX9_isJoined_3 (Nat.le_of_ble_eq_true rfl) rfl ?_
  exact loop 0 (by omega) 0 (by omega) (Or.inr ⟨rfl, hZ⟩)
