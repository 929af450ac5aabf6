/-! PLACES: the reference's costs, loads, least -/
theorem c_X9_costNow (t : Sto) (hS : SM t) (hX : BD (t 47)) (hY : BD (t 48)) (hL : BD (t 49)) : CT yX9_costNow cX9_costNow 4 (some .int) 4 [mP 31] t (fun a t' => a = some (mI (costS (t 2184 0) (t 2188 0) (t 35) (t 36) (t 37) (t 46) (t 47) (t 48) (t 49))) ∧ t' = t) := by
  refine CT_of rfl rfl (Nat.le_of_ble_eq_true rfl) (fun E ht has => ?_)
  have hb := hS.1
  obtain ⟨c, hc⟩ : ∃ c, c = clS (t 2184 0) (t 35) (t 36) (t 37) (t 46) (t 47) (t 48) (t 49) := ⟨_, rfl⟩
  have hcr : ∀ l, 0 ≤ c l ∧ c l ≤ 60 := by intro l; rw [hc]; exact clS_r _ _ _ _ _ _ _ _ l
  unfold costS
  rw [← hc]
  have loop : ∀ l, l ≤ t 2188 0 → ∀ (s : Int) (o3 : Option MV), 0 ≤ l → (0 ≤ s ∧ s ≤ 60 * l) → s + sumI c l (t 2188 0) = sumI c 0 (t 2188 0) → G E cX9_costNow RX9 (some .int) 4 4 [some (mP 31), some (mI s), some (mI l), o3] [] t (fun a t' => a = some (mI (sumI c 0 (t 2188 0))) ∧ t' = t) := by
    refine up_ind (fun l hl ih s o3 h0 hs hX0 => ?_)
    have hstr := strS_r (t 2184 0) (t 46) (t 47) (t 48) (t 49) (t 35 l) (t 36 l) (t 37 l)
    refine G_iload_n (pc := 4) dX9_costNow_4 rfl ?_
    refine G_aload_n (pc := 5) dX9_costNow_5 rfl ?_
    refine G_getI (pc := 6) dX9_costNow_6 fk_X9_94 rfl rfl rfl ?_
    refine G_icmp_ge (pc := 9) (tgt := 75) dX9_costNow_9 rfl (fun h_9 => ?_) (fun h_9 => ?_)
    · refine G_iload_n (pc := 75) dX9_costNow_75 rfl ?_
      exact G_ireturn (pc := 76) dX9_costNow_76 (qeq (by rw [sumI_ge (by omega)] at hX0; omega))
    · obtain ⟨hfr, hto, -, -⟩ := hS.2 l h0 (by omega)
      refine G_aload_n (pc := 12) dX9_costNow_12 rfl ?_
      refine G_iload_n (pc := 13) dX9_costNow_13 rfl ?_
      refine G_cV1 (pc := 14) (c_X9_isLoop _ _ (by omega)) dX9_costNow_14 ml_X9_145 rfl rfl rfl (by decide) (Nat.le_of_ble_eq_true rfl) ?_
      refine G_if_ne (pc := 17) (tgt := 69) dX9_costNow_17 rfl (fun h_17 => ?_) (fun h_17 => ?_)
      · try simp only [bq0, ne_eq, Classical.not_not] at h_17
        have ec : c l = 0 := by rw [hc]; unfold clS; exact if_neg (fun q => q.1 h_17)
        refine G_iinc (pc := 69) dX9_costNow_69 rfl rfl (by omega) ?_
        refine G_goto (pc := 72) (tgt := 4) dX9_costNow_72 rfl ?_
        rw [sumI_lt (by omega)] at hX0
        exact ih (by omega) _ _ (by omega) (by omega) (by omega)
      · try simp only [bq0, ne_eq, Classical.not_not] at h_17
        refine G_aload_n (pc := 20) dX9_costNow_20 rfl ?_
        refine G_getP (pc := 21) dX9_costNow_21 fk_X9_53 rfl rfl rfl ?_
        refine G_aload_n (pc := 24) dX9_costNow_24 rfl ?_
        refine G_getP (pc := 25) dX9_costNow_25 fk_X9_19 rfl rfl rfl ?_
        refine G_iload_n (pc := 28) dX9_costNow_28 rfl ?_
        refine G_iaload (pc := 29) dX9_costNow_29 rfl rfl (by omega) ?_
        refine G_baload (pc := 30) dX9_costNow_30 rfl rfl (by omega) ?_
        refine G_if_eq (pc := 31) (tgt := 69) dX9_costNow_31 rfl (fun h_31 => ?_) (fun h_31 => ?_)
        · try simp only [bq0, ne_eq, Classical.not_not] at h_31
          have ec : c l = 0 := by rw [hc]; unfold clS; exact if_neg (fun q => q.2.1 h_31)
          refine G_iinc (pc := 69) dX9_costNow_69 rfl rfl (by omega) ?_
          refine G_goto (pc := 72) (tgt := 4) dX9_costNow_72 rfl ?_
          rw [sumI_lt (by omega)] at hX0
          exact ih (by omega) _ _ (by omega) (by omega) (by omega)
        · try simp only [bq0, ne_eq, Classical.not_not] at h_31
          refine G_aload_n (pc := 34) dX9_costNow_34 rfl ?_
          refine G_getP (pc := 35) dX9_costNow_35 fk_X9_53 rfl rfl rfl ?_
          refine G_aload_n (pc := 38) dX9_costNow_38 rfl ?_
          refine G_getP (pc := 39) dX9_costNow_39 fk_X9_25 rfl rfl rfl ?_
          refine G_iload_n (pc := 42) dX9_costNow_42 rfl ?_
          refine G_iaload (pc := 43) dX9_costNow_43 rfl rfl (by omega) ?_
          refine G_baload (pc := 44) dX9_costNow_44 rfl rfl (by omega) ?_
          refine G_if_eq (pc := 45) (tgt := 69) dX9_costNow_45 rfl (fun h_45 => ?_) (fun h_45 => ?_)
          · try simp only [bq0, ne_eq, Classical.not_not] at h_45
            have ec : c l = 0 := by rw [hc]; unfold clS; exact if_neg (fun q => q.2.2 h_45)
            refine G_iinc (pc := 69) dX9_costNow_69 rfl rfl (by omega) ?_
            refine G_goto (pc := 72) (tgt := 4) dX9_costNow_72 rfl ?_
            rw [sumI_lt (by omega)] at hX0
            exact ih (by omega) _ _ (by omega) (by omega) (by omega)
          · try simp only [bq0, ne_eq, Classical.not_not] at h_45
            have hw : wghP (t 35) (t 37) (t 46) l := ⟨h_17, h_31, h_45⟩
            refine G_aload_n (pc := 48) dX9_costNow_48 rfl ?_
            refine G_iload_n (pc := 49) dX9_costNow_49 rfl ?_
            refine G_cV1 (pc := 50) (c_X9_straightBy _ _ (by exact hS) (by omega) (by exact hX) (by exact hY) (by exact hL)) dX9_costNow_50 ml_X9_148 rfl rfl rfl (by decide) (Nat.le_of_ble_eq_true rfl) ?_
            refine G_istore_n (pc := 53) dX9_costNow_53 (Nat.le_of_ble_eq_true rfl) rfl ?_
            refine G_iload_n (pc := 54) dX9_costNow_54 rfl ?_
            refine G_iload_n (pc := 55) dX9_costNow_55 rfl ?_
            refine G_if_ne (pc := 56) (tgt := 64) dX9_costNow_56 rfl (fun h_56 => ?_) (fun h_56 => ?_)
            · try simp only [bq0, ne_eq, Classical.not_not] at h_56
              have ec : c l = strS (t 2184 0) (t 46) (t 47) (t 48) (t 49) (t 35 l) (t 36 l) (t 37 l) - 1 := by rw [hc]; unfold clS; rw [if_pos hw, if_pos (by omega)]
              refine G_iload_n (pc := 64) dX9_costNow_64 rfl ?_
              refine G_iconst (pc := 65) dX9_costNow_65 (by decide) ?_
              refine G_isub (pc := 66) dX9_costNow_66 (by omega) ?_
              refine G_iadd (pc := 67) dX9_costNow_67 (by omega) ?_
              refine G_istore_n (pc := 68) dX9_costNow_68 (Nat.le_of_ble_eq_true rfl) rfl ?_
              refine G_iinc (pc := 69) dX9_costNow_69 rfl rfl (by omega) ?_
              refine G_goto (pc := 72) (tgt := 4) dX9_costNow_72 rfl ?_
              rw [sumI_lt (by omega)] at hX0
              exact ih (by omega) _ _ (by omega) (by omega) (by omega)
            · try simp only [bq0, ne_eq, Classical.not_not] at h_56
              have ec : c l = 10 := by rw [hc]; unfold clS; rw [if_pos hw, if_neg (by omega)]
              refine G_bipush (pc := 59) (x := 10) dX9_costNow_59 rfl (by decide) ?_
              refine G_goto (pc := 61) (tgt := 67) dX9_costNow_61 rfl ?_
              refine G_iadd (pc := 67) dX9_costNow_67 (by omega) ?_
              refine G_istore_n (pc := 68) dX9_costNow_68 (Nat.le_of_ble_eq_true rfl) rfl ?_
              refine G_iinc (pc := 69) dX9_costNow_69 rfl rfl (by omega) ?_
              refine G_goto (pc := 72) (tgt := 4) dX9_costNow_72 rfl ?_
              rw [sumI_lt (by omega)] at hX0
              exact ih (by omega) _ _ (by omega) (by omega) (by omega)
  refine G_iconst (pc := 0) dX9_costNow_0 (by decide) ?_
  refine G_istore_n (pc := 1) dX9_costNow_1 (Nat.le_of_ble_eq_true rfl) rfl ?_
  refine G_iconst (pc := 2) dX9_costNow_2 (by decide) ?_
  refine G_istore_n (pc := 3) dX9_costNow_3 (Nat.le_of_ble_eq_true rfl) rfl ?_
  exact loop 0 (by omega) 0 _ (by omega) (by omega) (by omega)
theorem c_X9_bentNow (t : Sto) (hS : SM t) (hX : BD (t 47)) (hY : BD (t 48)) (hL : BD (t 49)) : CT yX9_bentNow cX9_bentNow 3 (some .int) 4 [mP 31] t (fun a t' => a = some (mI (bentS (t 2184 0) (t 2188 0) (t 35) (t 36) (t 37) (t 46) (t 47) (t 48) (t 49))) ∧ t' = t) := by
  refine CT_of rfl rfl (Nat.le_of_ble_eq_true rfl) (fun E ht has => ?_)
  have hb := hS.1
  obtain ⟨c, hc⟩ : ∃ c, c = blS (t 2184 0) (t 35) (t 36) (t 37) (t 46) (t 47) (t 48) (t 49) := ⟨_, rfl⟩
  unfold bentS
  rw [← hc]
  have loop : ∀ l, l ≤ t 2188 0 → ∀ (s : Int), 0 ≤ l → (0 ≤ s ∧ s ≤ l) → s + sumI c l (t 2188 0) = sumI c 0 (t 2188 0) → G E cX9_bentNow RX9 (some .int) 4 4 [some (mP 31), some (mI s), some (mI l)] [] t (fun a t' => a = some (mI (sumI c 0 (t 2188 0))) ∧ t' = t) := by
    refine up_ind (fun l hl ih s h0 hs hX0 => ?_)
    refine G_iload_n (pc := 4) dX9_bentNow_4 rfl ?_
    refine G_aload_n (pc := 5) dX9_bentNow_5 rfl ?_
    refine G_getI (pc := 6) dX9_bentNow_6 fk_X9_94 rfl rfl rfl ?_
    refine G_icmp_ge (pc := 9) (tgt := 70) dX9_bentNow_9 rfl (fun h_9 => ?_) (fun h_9 => ?_)
    · refine G_iload_n (pc := 70) dX9_bentNow_70 rfl ?_
      exact G_ireturn (pc := 71) dX9_bentNow_71 (qeq (by rw [sumI_ge (by omega)] at hX0; omega))
    · obtain ⟨hfr, hto, -, -⟩ := hS.2 l h0 (by omega)
      refine G_iload_n (pc := 12) dX9_bentNow_12 rfl ?_
      refine G_aload_n (pc := 13) dX9_bentNow_13 rfl ?_
      refine G_iload_n (pc := 14) dX9_bentNow_14 rfl ?_
      refine G_cV1 (pc := 15) (c_X9_isLoop _ _ (by omega)) dX9_bentNow_15 ml_X9_145 rfl rfl rfl (by decide) (Nat.le_of_ble_eq_true rfl) ?_
      refine G_if_ne (pc := 18) (tgt := 61) dX9_bentNow_18 rfl (fun h_18 => ?_) (fun h_18 => ?_)
      · try simp only [bq0, ne_eq, Classical.not_not] at h_18
        have ec : c l = 0 := by rw [hc]; unfold blS; exact if_neg (fun q => q.1.1 h_18)
        refine G_iconst (pc := 61) dX9_bentNow_61 (by decide) ?_
        refine G_iadd (pc := 62) dX9_bentNow_62 (by omega) ?_
        refine G_istore_n (pc := 63) dX9_bentNow_63 (Nat.le_of_ble_eq_true rfl) rfl ?_
        refine G_iinc (pc := 64) dX9_bentNow_64 rfl rfl (by omega) ?_
        refine G_goto (pc := 67) (tgt := 4) dX9_bentNow_67 rfl ?_
        rw [sumI_lt (by omega)] at hX0
        exact ih (by omega) _ (by omega) (by omega) (by omega)
      · try simp only [bq0, ne_eq, Classical.not_not] at h_18
        refine G_aload_n (pc := 21) dX9_bentNow_21 rfl ?_
        refine G_getP (pc := 22) dX9_bentNow_22 fk_X9_53 rfl rfl rfl ?_
        refine G_aload_n (pc := 25) dX9_bentNow_25 rfl ?_
        refine G_getP (pc := 26) dX9_bentNow_26 fk_X9_19 rfl rfl rfl ?_
        refine G_iload_n (pc := 29) dX9_bentNow_29 rfl ?_
        refine G_iaload (pc := 30) dX9_bentNow_30 rfl rfl (by omega) ?_
        refine G_baload (pc := 31) dX9_bentNow_31 rfl rfl (by omega) ?_
        refine G_if_eq (pc := 32) (tgt := 61) dX9_bentNow_32 rfl (fun h_32 => ?_) (fun h_32 => ?_)
        · try simp only [bq0, ne_eq, Classical.not_not] at h_32
          have ec : c l = 0 := by rw [hc]; unfold blS; exact if_neg (fun q => q.1.2.1 h_32)
          refine G_iconst (pc := 61) dX9_bentNow_61 (by decide) ?_
          refine G_iadd (pc := 62) dX9_bentNow_62 (by omega) ?_
          refine G_istore_n (pc := 63) dX9_bentNow_63 (Nat.le_of_ble_eq_true rfl) rfl ?_
          refine G_iinc (pc := 64) dX9_bentNow_64 rfl rfl (by omega) ?_
          refine G_goto (pc := 67) (tgt := 4) dX9_bentNow_67 rfl ?_
          rw [sumI_lt (by omega)] at hX0
          exact ih (by omega) _ (by omega) (by omega) (by omega)
        · try simp only [bq0, ne_eq, Classical.not_not] at h_32
          refine G_aload_n (pc := 35) dX9_bentNow_35 rfl ?_
          refine G_getP (pc := 36) dX9_bentNow_36 fk_X9_53 rfl rfl rfl ?_
          refine G_aload_n (pc := 39) dX9_bentNow_39 rfl ?_
          refine G_getP (pc := 40) dX9_bentNow_40 fk_X9_25 rfl rfl rfl ?_
          refine G_iload_n (pc := 43) dX9_bentNow_43 rfl ?_
          refine G_iaload (pc := 44) dX9_bentNow_44 rfl rfl (by omega) ?_
          refine G_baload (pc := 45) dX9_bentNow_45 rfl rfl (by omega) ?_
          refine G_if_eq (pc := 46) (tgt := 61) dX9_bentNow_46 rfl (fun h_46 => ?_) (fun h_46 => ?_)
          · try simp only [bq0, ne_eq, Classical.not_not] at h_46
            have ec : c l = 0 := by rw [hc]; unfold blS; exact if_neg (fun q => q.1.2.2 h_46)
            refine G_iconst (pc := 61) dX9_bentNow_61 (by decide) ?_
            refine G_iadd (pc := 62) dX9_bentNow_62 (by omega) ?_
            refine G_istore_n (pc := 63) dX9_bentNow_63 (Nat.le_of_ble_eq_true rfl) rfl ?_
            refine G_iinc (pc := 64) dX9_bentNow_64 rfl rfl (by omega) ?_
            refine G_goto (pc := 67) (tgt := 4) dX9_bentNow_67 rfl ?_
            rw [sumI_lt (by omega)] at hX0
            exact ih (by omega) _ (by omega) (by omega) (by omega)
          · try simp only [bq0, ne_eq, Classical.not_not] at h_46
            have hw : wghP (t 35) (t 37) (t 46) l := ⟨h_18, h_32, h_46⟩
            refine G_aload_n (pc := 49) dX9_bentNow_49 rfl ?_
            refine G_iload_n (pc := 50) dX9_bentNow_50 rfl ?_
            refine G_cV1 (pc := 51) (c_X9_straightBy _ _ (by exact hS) (by omega) (by exact hX) (by exact hY) (by exact hL)) dX9_bentNow_51 ml_X9_148 rfl rfl rfl (by decide) (Nat.le_of_ble_eq_true rfl) ?_
            refine G_if_ne (pc := 54) (tgt := 61) dX9_bentNow_54 rfl (fun h_54 => ?_) (fun h_54 => ?_)
            · try simp only [bq0, ne_eq, Classical.not_not] at h_54
              have ec : c l = 0 := by rw [hc]; unfold blS; exact if_neg (fun q => h_54 q.2)
              refine G_iconst (pc := 61) dX9_bentNow_61 (by decide) ?_
              refine G_iadd (pc := 62) dX9_bentNow_62 (by omega) ?_
              refine G_istore_n (pc := 63) dX9_bentNow_63 (Nat.le_of_ble_eq_true rfl) rfl ?_
              refine G_iinc (pc := 64) dX9_bentNow_64 rfl rfl (by omega) ?_
              refine G_goto (pc := 67) (tgt := 4) dX9_bentNow_67 rfl ?_
              rw [sumI_lt (by omega)] at hX0
              exact ih (by omega) _ (by omega) (by omega) (by omega)
            · try simp only [bq0, ne_eq, Classical.not_not] at h_54
              have ec : c l = 1 := by rw [hc]; unfold blS; exact if_pos ⟨hw, h_54⟩
              refine G_iconst (pc := 57) dX9_bentNow_57 (by decide) ?_
              refine G_goto (pc := 58) (tgt := 62) dX9_bentNow_58 rfl ?_
              refine G_iadd (pc := 62) dX9_bentNow_62 (by omega) ?_
              refine G_istore_n (pc := 63) dX9_bentNow_63 (Nat.le_of_ble_eq_true rfl) rfl ?_
              refine G_iinc (pc := 64) dX9_bentNow_64 rfl rfl (by omega) ?_
              refine G_goto (pc := 67) (tgt := 4) dX9_bentNow_67 rfl ?_
              rw [sumI_lt (by omega)] at hX0
              exact ih (by omega) _ (by omega) (by omega) (by omega)
  refine G_iconst (pc := 0) dX9_bentNow_0 (by decide) ?_
  refine G_istore_n (pc := 1) dX9_bentNow_1 (Nat.le_of_ble_eq_true rfl) rfl ?_
  refine G_iconst (pc := 2) dX9_bentNow_2 (by decide) ?_
  refine G_istore_n (pc := 3) dX9_bentNow_3 (Nat.le_of_ble_eq_true rfl) rfl ?_
  exact loop 0 (by omega) 0 (by omega) (by omega) (by omega)
theorem c_X9_noneThere (t : Sto) (hn : 0 ≤ t 2184 0 ∧ t 2184 0 ≤ 24) : CT yX9_noneThere cX9_noneThere 2 none 0 [mP 31] t (fun a t' => a = none ∧ t' = sv t 46 (glue (t 2184 0) (fun _ => 0) (t 46))) := by
  refine CT_of rfl rfl (Nat.le_of_ble_eq_true rfl) (fun E ht has => ?_)
  have loop : ∀ r, r ≤ t 2184 0 → 0 ≤ r → G E cX9_noneThere RX9 none 0 2 [some (mP 31), some (mI r)] [] (sv t 46 (glue r (fun _ => 0) (t 46))) (fun a t' => a = none ∧ t' = sv t 46 (glue (t 2184 0) (fun _ => 0) (t 46))) := by
    refine up_ind (fun r hr ih h0 => ?_)
    refine G_iload_n (pc := 2) dX9_noneThere_2 rfl ?_
    refine G_aload_n (pc := 3) dX9_noneThere_3 rfl ?_
    refine G_getI (pc := 4) dX9_noneThere_4 fk_X9_86 rfl rfl rfl ?_
    try simp (disch := decide) only [su_ne, su_at, su_same, sv_ne, sv_at]
    refine G_icmp_ge (pc := 7) (tgt := 23) dX9_noneThere_7 rfl (fun h_7 => ?_) (fun h_7 => ?_)
    · have hrn : r = t 2184 0 := by omega
      subst hrn
      exact G_return (pc := 23) dX9_noneThere_23 ⟨rfl, rfl⟩
    · refine G_aload_n (pc := 10) dX9_noneThere_10 rfl ?_
      refine G_getP (pc := 11) dX9_noneThere_11 fk_X9_53 rfl rfl rfl ?_
      refine G_iload_n (pc := 14) dX9_noneThere_14 rfl ?_
      refine G_iconst (pc := 15) dX9_noneThere_15 (by decide) ?_
      refine G_bastore (pc := 16) dX9_noneThere_16 rfl rfl (by omega) (by first | exact Or.inl rfl | exact Or.inr rfl | omega) ?_
      refine G_iinc (pc := 17) dX9_noneThere_17 rfl rfl (by omega) ?_
      refine G_goto (pc := 20) (tgt := 2) dX9_noneThere_20 rfl ?_
      rw [su_sv, sv_at, sv_sv, glue_succ h0 (fun _ => 0)]
      exact ih (by omega) (by omega)
  refine G_iconst (pc := 0) dX9_noneThere_0 (by decide) ?_
  refine G_istore_n (pc := 1) dX9_noneThere_1 (Nat.le_of_ble_eq_true rfl) rfl ?_
  have h := loop 0 (by omega) (by omega)
  rw [glue_0, sv_id] at h
  exact h
def loadN (t : Sto) (r : Int) : Sto := sv (sv (sv (sv t 46 (glue r (t 39) (t 46))) 47 (glue r (t 40) (t 47))) 48 (glue r (t 41) (t 48))) 49 (glue r (t 42) (t 49))
theorem loadN_at (t : Sto) (r : Int) : loadN t r 46 = glue r (t 39) (t 46) ∧ loadN t r 47 = glue r (t 40) (t 47) ∧ loadN t r 48 = glue r (t 41) (t 48) ∧ loadN t r 49 = glue r (t 42) (t 49) := by
  unfold loadN
  simp (disch := decide) only [sv_at, sv_ne]
  exact ⟨trivial, trivial, trivial, trivial⟩
theorem loadN_ne (t : Sto) (r : Int) {w : Nat} (h : w ≠ 46 ∧ w ≠ 47 ∧ w ≠ 48 ∧ w ≠ 49) : loadN t r w = t w := by
  unfold loadN
  rw [sv_ne h.2.2.2, sv_ne h.2.2.1, sv_ne h.2.1, sv_ne h.1]
theorem loadN_step (t : Sto) {r : Int} (h : 0 ≤ r) : su (su (su (su (loadN t r) 46 r (t 39 r)) 47 r (t 40 r)) 48 r (t 41 r)) 49 r (t 42 r) = loadN t (r + 1) := by
  funext w
  unfold loadN
  simp only [su_sv]
  by_cases h16 : w = 49
  · subst h16; simp (disch := decide) only [sv_at, sv_ne]; exact glue_succ h _ _
  by_cases h15 : w = 48
  · subst h15; simp (disch := decide) only [sv_at, sv_ne]; exact glue_succ h _ _
  by_cases h14 : w = 47
  · subst h14; simp (disch := decide) only [sv_at, sv_ne]; exact glue_succ h _ _
  by_cases h13 : w = 46
  · subst h13; simp (disch := decide) only [sv_at, sv_ne]; exact glue_succ h _ _
  rw [sv_ne h16, sv_ne h15, sv_ne h14, sv_ne h13, sv_ne h16, sv_ne h15, sv_ne h14, sv_ne h13, sv_ne h16, sv_ne h15, sv_ne h14, sv_ne h13]
theorem loadN_0 (t : Sto) : loadN t 0 = t := by
  unfold loadN
  simp only [glue_0]
  funext w
  unfold sv
  split
  · next h => rw [h]
  · split
    · next h => rw [h]
    · split
      · next h => rw [h]
      · split
        · next h => rw [h]
        · rfl
def loadM (t : Sto) : Sto := loadN t (t 2184 0)
theorem c_X9_load (t : Sto) (hn : 0 ≤ t 2184 0 ∧ t 2184 0 ≤ 24) (hp : ∀ r, t 39 r = 0 ∨ t 39 r = 1) : CT yX9_load cX9_load 2 none 0 [mP 31] t (fun a t' => a = none ∧ t' = loadM t) := by
  refine CT_of rfl rfl (Nat.le_of_ble_eq_true rfl) (fun E ht has => ?_)
  have loop : ∀ r, r ≤ t 2184 0 → 0 ≤ r → G E cX9_load RX9 none 0 2 [some (mP 31), some (mI r)] [] (loadN t r) (fun a t' => a = none ∧ t' = loadM t) := by
    refine up_ind (fun r hr ih h0 => ?_)
    have e1 := loadN_ne t r (w := 2184) (by decide)
    have e2 := loadN_ne t r (w := 39) (by decide)
    have e3 := loadN_ne t r (w := 40) (by decide)
    have e4 := loadN_ne t r (w := 41) (by decide)
    have e5 := loadN_ne t r (w := 42) (by decide)
    refine G_iload_n (pc := 2) dX9_load_2 rfl ?_
    refine G_aload_n (pc := 3) dX9_load_3 rfl ?_
    refine G_getI (pc := 4) dX9_load_4 fk_X9_86 rfl rfl rfl ?_
    rw [e1]
    refine G_icmp_ge (pc := 7) (tgt := 64) dX9_load_7 rfl (fun h_7 => ?_) (fun h_7 => ?_)
    · have hrn : r = t 2184 0 := by omega
      subst hrn
      exact G_return (pc := 64) dX9_load_64 ⟨rfl, rfl⟩
    · refine G_aload_n (pc := 10) dX9_load_10 rfl ?_
      refine G_getP (pc := 11) dX9_load_11 fk_X9_53 rfl rfl rfl ?_
      refine G_iload_n (pc := 14) dX9_load_14 rfl ?_
      refine G_aload_n (pc := 15) dX9_load_15 rfl ?_
      refine G_getP (pc := 16) dX9_load_16 fk_X9_32 rfl rfl rfl ?_
      refine G_iload_n (pc := 19) dX9_load_19 rfl ?_
      refine G_baload (pc := 20) dX9_load_20 rfl rfl (by omega) ?_
      rw [e2]
      refine G_bastore (pc := 21) dX9_load_21 rfl rfl (by omega) (by exact hp r) ?_
      refine G_aload_n (pc := 22) dX9_load_22 rfl ?_
      refine G_getP (pc := 23) dX9_load_23 fk_X9_56 rfl rfl rfl ?_
      refine G_iload_n (pc := 26) dX9_load_26 rfl ?_
      refine G_aload_n (pc := 27) dX9_load_27 rfl ?_
      refine G_getP (pc := 28) dX9_load_28 fk_X9_35 rfl rfl rfl ?_
      refine G_iload_n (pc := 31) dX9_load_31 rfl ?_
      refine G_iaload (pc := 32) dX9_load_32 rfl rfl (by omega) ?_
      try simp (disch := decide) only [su_ne, su_at, su_same, sv_ne, sv_at]
      rw [e3]
      refine G_iastore (pc := 33) dX9_load_33 rfl rfl (by omega) ?_
      refine G_aload_n (pc := 34) dX9_load_34 rfl ?_
      refine G_getP (pc := 35) dX9_load_35 fk_X9_59 rfl rfl rfl ?_
      refine G_iload_n (pc := 38) dX9_load_38 rfl ?_
      refine G_aload_n (pc := 39) dX9_load_39 rfl ?_
      refine G_getP (pc := 40) dX9_load_40 fk_X9_38 rfl rfl rfl ?_
      refine G_iload_n (pc := 43) dX9_load_43 rfl ?_
      refine G_iaload (pc := 44) dX9_load_44 rfl rfl (by omega) ?_
      try simp (disch := decide) only [su_ne, su_at, su_same, sv_ne, sv_at]
      rw [e4]
      refine G_iastore (pc := 45) dX9_load_45 rfl rfl (by omega) ?_
      refine G_aload_n (pc := 46) dX9_load_46 rfl ?_
      refine G_getP (pc := 47) dX9_load_47 fk_X9_62 rfl rfl rfl ?_
      refine G_iload_n (pc := 50) dX9_load_50 rfl ?_
      refine G_aload_n (pc := 51) dX9_load_51 rfl ?_
      refine G_getP (pc := 52) dX9_load_52 fk_X9_41 rfl rfl rfl ?_
      refine G_iload_n (pc := 55) dX9_load_55 rfl ?_
      refine G_iaload (pc := 56) dX9_load_56 rfl rfl (by omega) ?_
      try simp (disch := decide) only [su_ne, su_at, su_same, sv_ne, sv_at]
      rw [e5]
      refine G_iastore (pc := 57) dX9_load_57 rfl rfl (by omega) ?_
      refine G_iinc (pc := 58) dX9_load_58 rfl rfl (by omega) ?_
      refine G_goto (pc := 61) (tgt := 2) dX9_load_61 rfl ?_
      rw [loadN_step t h0]
      exact ih (by omega) (by omega)
  refine G_iconst (pc := 0) dX9_load_0 (by decide) ?_
  refine G_istore_n (pc := 1) dX9_load_1 (Nat.le_of_ble_eq_true rfl) rfl ?_
  have h := loop 0 (by omega) (by omega)
  rw [loadN_0] at h
  exact h
def keepM (t : Sto) (r : Int) : Sto := su (su (su (su t 39 r 1) 40 r (t 47 r)) 41 r (t 48 r)) 42 r (t 49 r)
theorem c_X9_keep (t : Sto) (r : Int) (hr : 0 ≤ r ∧ r < 24) : CT yX9_keep cX9_keep 2 none 0 [mP 31, mI r] t (fun a t' => a = none ∧ t' = keepM t r) := by
  refine CT_of rfl rfl (Nat.le_of_ble_eq_true rfl) (fun E ht has => ?_)
  refine G_aload_n (pc := 0) dX9_keep_0 rfl ?_
  refine G_getP (pc := 1) dX9_keep_1 fk_X9_32 rfl rfl rfl ?_
  refine G_iload_n (pc := 4) dX9_keep_4 rfl ?_
  refine G_iconst (pc := 5) dX9_keep_5 (by decide) ?_
  refine G_bastore (pc := 6) dX9_keep_6 rfl rfl (by omega) (by first | exact Or.inl rfl | exact Or.inr rfl | omega) ?_
  refine G_aload_n (pc := 7) dX9_keep_7 rfl ?_
  refine G_getP (pc := 8) dX9_keep_8 fk_X9_35 rfl rfl rfl ?_
  refine G_iload_n (pc := 11) dX9_keep_11 rfl ?_
  refine G_aload_n (pc := 12) dX9_keep_12 rfl ?_
  refine G_getP (pc := 13) dX9_keep_13 fk_X9_56 rfl rfl rfl ?_
  refine G_iload_n (pc := 16) dX9_keep_16 rfl ?_
  refine G_iaload (pc := 17) dX9_keep_17 rfl rfl (by omega) ?_
  try simp (disch := decide) only [su_ne, su_at, su_same, sv_ne, sv_at]
  refine G_iastore (pc := 18) dX9_keep_18 rfl rfl (by omega) ?_
  refine G_aload_n (pc := 19) dX9_keep_19 rfl ?_
  refine G_getP (pc := 20) dX9_keep_20 fk_X9_38 rfl rfl rfl ?_
  refine G_iload_n (pc := 23) dX9_keep_23 rfl ?_
  refine G_aload_n (pc := 24) dX9_keep_24 rfl ?_
  refine G_getP (pc := 25) dX9_keep_25 fk_X9_59 rfl rfl rfl ?_
  refine G_iload_n (pc := 28) dX9_keep_28 rfl ?_
  refine G_iaload (pc := 29) dX9_keep_29 rfl rfl (by omega) ?_
  try simp (disch := decide) only [su_ne, su_at, su_same, sv_ne, sv_at]
  refine G_iastore (pc := 30) dX9_keep_30 rfl rfl (by omega) ?_
  refine G_aload_n (pc := 31) dX9_keep_31 rfl ?_
  refine G_getP (pc := 32) dX9_keep_32 fk_X9_41 rfl rfl rfl ?_
  refine G_iload_n (pc := 35) dX9_keep_35 rfl ?_
  refine G_aload_n (pc := 36) dX9_keep_36 rfl ?_
  refine G_getP (pc := 37) dX9_keep_37 fk_X9_62 rfl rfl rfl ?_
  refine G_iload_n (pc := 40) dX9_keep_40 rfl ?_
  refine G_iaload (pc := 41) dX9_keep_41 rfl rfl (by omega) ?_
  try simp (disch := decide) only [su_ne, su_at, su_same, sv_ne, sv_at]
  refine G_iastore (pc := 42) dX9_keep_42 rfl rfl (by omega) ?_
  exact G_return (pc := 43) dX9_keep_43 ⟨rfl, rfl⟩
theorem c_X9_leastOf_b0 (t : Sto) (hn : 0 ≤ t 2184 0 ∧ t 2184 0 ≤ 24) : CT yX9_leastOf cX9_leastOf 6 (some .int) 0 [mP 31, mI 0] t (fun a t' => a = some (mI (lowS (t 2184 0) (t 39) (t 41))) ∧ t' = t) := by
  refine CT_of rfl rfl (Nat.le_of_ble_eq_true rfl) (fun E ht has => ?_)
  have loop : ∀ r, r ≤ t 2184 0 → ∀ (q : Int × Int) (o5 : Option MV), 0 ≤ r → (q.1 = 0 ∨ q.1 = 1) → (itr (lowStep (t 39) (t 41)) r (t 2184 0) q).2 = lowS (t 2184 0) (t 39) (t 41) → G E cX9_leastOf RX9 (some .int) 0 7 [some (mP 31), some (mI 0), some (mI q.2), some (mI q.1), some (mI r), o5] [] t (fun a t' => a = some (mI (lowS (t 2184 0) (t 39) (t 41))) ∧ t' = t) := by
    refine up_ind (fun r hr ih q o5 h0 hq hX => ?_)
    refine G_iload (pc := 7) dX9_leastOf_7 rfl ?_
    refine G_aload_n (pc := 9) dX9_leastOf_9 rfl ?_
    refine G_getI (pc := 10) dX9_leastOf_10 fk_X9_86 rfl rfl rfl ?_
    refine G_icmp_ge (pc := 13) (tgt := 74) dX9_leastOf_13 rfl (fun h_13 => ?_) (fun h_13 => ?_)
    · refine G_iload_n (pc := 74) dX9_leastOf_74 rfl ?_
      exact G_ireturn (pc := 75) dX9_leastOf_75 (qeq (by rw [itr_ge (by omega)] at hX; exact hX))
    · refine G_iload_n (pc := 16) dX9_leastOf_16 rfl ?_
      refine G_if_eq (pc := 17) (tgt := 30) dX9_leastOf_17 rfl (fun h_17 => ?_) (fun h_17 => ?_)
      · try simp only [bq0, ne_eq, Classical.not_not] at h_17
        refine G_aload_n (pc := 30) dX9_leastOf_30 rfl ?_
        refine G_getP (pc := 31) dX9_leastOf_31 fk_X9_38 rfl rfl rfl ?_
        refine G_iload (pc := 34) dX9_leastOf_34 rfl ?_
        refine G_iaload (pc := 36) dX9_leastOf_36 rfl rfl (by omega) ?_
        refine G_istore (pc := 37) dX9_leastOf_37 (Nat.le_of_ble_eq_true rfl) rfl ?_
        refine G_aload_n (pc := 39) dX9_leastOf_39 rfl ?_
        refine G_getP (pc := 40) dX9_leastOf_40 fk_X9_32 rfl rfl rfl ?_
        refine G_iload (pc := 43) dX9_leastOf_43 rfl ?_
        refine G_baload (pc := 45) dX9_leastOf_45 rfl rfl (by omega) ?_
        refine G_if_eq (pc := 46) (tgt := 68) dX9_leastOf_46 rfl (fun h_46 => ?_) (fun h_46 => ?_)
        · try simp only [bq0, ne_eq, Classical.not_not] at h_46
          refine G_iinc (pc := 68) dX9_leastOf_68 rfl rfl (by omega) ?_
          refine G_goto (pc := 71) (tgt := 7) dX9_leastOf_71 rfl ?_
          rw [itr_lt (by omega)] at hX
          first | (have e : lowStep (t 39) (t 41) r q = (1, v_65) := (by (rw [hv_65]; unfold lowStep; rw [if_pos h_46])); rw [e] at hX; exact ih (by omega) (1, v_65) _ (by omega) (Or.inr rfl) hX) | (have e : lowStep (t 39) (t 41) r q = q := (by (unfold lowStep; rw [if_neg (by omega)])); rw [e] at hX; exact ih (by omega) q _ (by omega) hq hX)
        · try simp only [bq0, ne_eq, Classical.not_not] at h_46
          refine G_join (pc := 49) (P := fun v => v = (if q.1 = 0 ∨ t 41 r < q.2 then t 41 r else q.2)) 65 (fun v_65 hv_65 => ?_) (fun j_65 => ?_)
          · refine G_istore_n (pc := 65) dX9_leastOf_65 (Nat.le_of_ble_eq_true rfl) rfl ?_
            refine G_iconst (pc := 66) dX9_leastOf_66 (by decide) ?_
            refine G_istore_n (pc := 67) dX9_leastOf_67 (Nat.le_of_ble_eq_true rfl) rfl ?_
            refine G_iinc (pc := 68) dX9_leastOf_68 rfl rfl (by omega) ?_
            refine G_goto (pc := 71) (tgt := 7) dX9_leastOf_71 rfl ?_
            rw [itr_lt (by omega)] at hX
            first | (have e : lowStep (t 39) (t 41) r q = (1, v_65) := (by (rw [hv_65]; unfold lowStep; rw [if_pos h_46])); rw [e] at hX; exact ih (by omega) (1, v_65) _ (by omega) (Or.inr rfl) hX) | (have e : lowStep (t 39) (t 41) r q = q := (by (unfold lowStep; rw [if_neg (by omega)])); rw [e] at hX; exact ih (by omega) q _ (by omega) hq hX)
          · refine G_iload_n (pc := 49) dX9_leastOf_49 rfl ?_
            refine G_if_eq (pc := 50) (tgt := 59) dX9_leastOf_50 rfl (fun h_50 => ?_) (fun h_50 => ?_)
            · try simp only [bq0, ne_eq, Classical.not_not] at h_50
              refine G_iload (pc := 59) dX9_leastOf_59 rfl ?_
              refine G_goto (pc := 61) (tgt := 65) dX9_leastOf_61 rfl ?_
              exact j_65 _ (by grind)
            · try simp only [bq0, ne_eq, Classical.not_not] at h_50
              refine G_iload (pc := 53) dX9_leastOf_53 rfl ?_
              refine G_iload_n (pc := 55) dX9_leastOf_55 rfl ?_
              refine G_icmp_ge (pc := 56) (tgt := 64) dX9_leastOf_56 rfl (fun h_56 => ?_) (fun h_56 => ?_)
              · refine G_iload_n (pc := 64) dX9_leastOf_64 rfl ?_
                exact j_65 _ (by grind)
              · refine G_iload (pc := 59) dX9_leastOf_59 rfl ?_
                refine G_goto (pc := 61) (tgt := 65) dX9_leastOf_61 rfl ?_
                exact j_65 _ (by grind)
      · try simp only [bq0, ne_eq, Classical.not_not] at h_17
        exact absurd h_17 (by decide)
  refine G_iconst (pc := 0) dX9_leastOf_0 (by decide) ?_
  refine G_istore_n (pc := 1) dX9_leastOf_1 (Nat.le_of_ble_eq_true rfl) rfl ?_
  refine G_iconst (pc := 2) dX9_leastOf_2 (by decide) ?_
  refine G_istore_n (pc := 3) dX9_leastOf_3 (Nat.le_of_ble_eq_true rfl) rfl ?_
  refine G_iconst (pc := 4) dX9_leastOf_4 (by decide) ?_
  refine G_istore (pc := 5) dX9_leastOf_5 (Nat.le_of_ble_eq_true rfl) rfl ?_
  exact loop 0 (by omega) (0, 0) _ (by omega) (Or.inl rfl) rfl
theorem c_X9_leastOf_b1 (t : Sto) (hn : 0 ≤ t 2184 0 ∧ t 2184 0 ≤ 24) : CT yX9_leastOf cX9_leastOf 6 (some .int) 0 [mP 31, mI 1] t (fun a t' => a = some (mI (lowS (t 2184 0) (t 39) (t 40))) ∧ t' = t) := by
  refine CT_of rfl rfl (Nat.le_of_ble_eq_true rfl) (fun E ht has => ?_)
  have loop : ∀ r, r ≤ t 2184 0 → ∀ (q : Int × Int) (o5 : Option MV), 0 ≤ r → (q.1 = 0 ∨ q.1 = 1) → (itr (lowStep (t 39) (t 40)) r (t 2184 0) q).2 = lowS (t 2184 0) (t 39) (t 40) → G E cX9_leastOf RX9 (some .int) 0 7 [some (mP 31), some (mI 1), some (mI q.2), some (mI q.1), some (mI r), o5] [] t (fun a t' => a = some (mI (lowS (t 2184 0) (t 39) (t 40))) ∧ t' = t) := by
    refine up_ind (fun r hr ih q o5 h0 hq hX => ?_)
    refine G_iload (pc := 7) dX9_leastOf_7 rfl ?_
    refine G_aload_n (pc := 9) dX9_leastOf_9 rfl ?_
    refine G_getI (pc := 10) dX9_leastOf_10 fk_X9_86 rfl rfl rfl ?_
    refine G_icmp_ge (pc := 13) (tgt := 74) dX9_leastOf_13 rfl (fun h_13 => ?_) (fun h_13 => ?_)
    · refine G_iload_n (pc := 74) dX9_leastOf_74 rfl ?_
      exact G_ireturn (pc := 75) dX9_leastOf_75 (qeq (by rw [itr_ge (by omega)] at hX; exact hX))
    · refine G_iload_n (pc := 16) dX9_leastOf_16 rfl ?_
      refine G_if_eq (pc := 17) (tgt := 30) dX9_leastOf_17 rfl (fun h_17 => ?_) (fun h_17 => ?_)
      · try simp only [bq0, ne_eq, Classical.not_not] at h_17
        exact absurd h_17 (by decide)
      · try simp only [bq0, ne_eq, Classical.not_not] at h_17
        refine G_aload_n (pc := 20) dX9_leastOf_20 rfl ?_
        refine G_getP (pc := 21) dX9_leastOf_21 fk_X9_35 rfl rfl rfl ?_
        refine G_iload (pc := 24) dX9_leastOf_24 rfl ?_
        refine G_iaload (pc := 26) dX9_leastOf_26 rfl rfl (by omega) ?_
        refine G_goto (pc := 27) (tgt := 37) dX9_leastOf_27 rfl ?_
        refine G_istore (pc := 37) dX9_leastOf_37 (Nat.le_of_ble_eq_true rfl) rfl ?_
        refine G_aload_n (pc := 39) dX9_leastOf_39 rfl ?_
        refine G_getP (pc := 40) dX9_leastOf_40 fk_X9_32 rfl rfl rfl ?_
        refine G_iload (pc := 43) dX9_leastOf_43 rfl ?_
        refine G_baload (pc := 45) dX9_leastOf_45 rfl rfl (by omega) ?_
        refine G_if_eq (pc := 46) (tgt := 68) dX9_leastOf_46 rfl (fun h_46 => ?_) (fun h_46 => ?_)
        · try simp only [bq0, ne_eq, Classical.not_not] at h_46
          refine G_iinc (pc := 68) dX9_leastOf_68 rfl rfl (by omega) ?_
          refine G_goto (pc := 71) (tgt := 7) dX9_leastOf_71 rfl ?_
          rw [itr_lt (by omega)] at hX
          first | (have e : lowStep (t 39) (t 40) r q = (1, v_65) := (by (rw [hv_65]; unfold lowStep; rw [if_pos h_46])); rw [e] at hX; exact ih (by omega) (1, v_65) _ (by omega) (Or.inr rfl) hX) | (have e : lowStep (t 39) (t 40) r q = q := (by (unfold lowStep; rw [if_neg (by omega)])); rw [e] at hX; exact ih (by omega) q _ (by omega) hq hX)
        · try simp only [bq0, ne_eq, Classical.not_not] at h_46
          refine G_join (pc := 49) (P := fun v => v = (if q.1 = 0 ∨ t 40 r < q.2 then t 40 r else q.2)) 65 (fun v_65 hv_65 => ?_) (fun j_65 => ?_)
          · refine G_istore_n (pc := 65) dX9_leastOf_65 (Nat.le_of_ble_eq_true rfl) rfl ?_
            refine G_iconst (pc := 66) dX9_leastOf_66 (by decide) ?_
            refine G_istore_n (pc := 67) dX9_leastOf_67 (Nat.le_of_ble_eq_true rfl) rfl ?_
            refine G_iinc (pc := 68) dX9_leastOf_68 rfl rfl (by omega) ?_
            refine G_goto (pc := 71) (tgt := 7) dX9_leastOf_71 rfl ?_
            rw [itr_lt (by omega)] at hX
            first | (have e : lowStep (t 39) (t 40) r q = (1, v_65) := (by (rw [hv_65]; unfold lowStep; rw [if_pos h_46])); rw [e] at hX; exact ih (by omega) (1, v_65) _ (by omega) (Or.inr rfl) hX) | (have e : lowStep (t 39) (t 40) r q = q := (by (unfold lowStep; rw [if_neg (by omega)])); rw [e] at hX; exact ih (by omega) q _ (by omega) hq hX)
          · refine G_iload_n (pc := 49) dX9_leastOf_49 rfl ?_
            refine G_if_eq (pc := 50) (tgt := 59) dX9_leastOf_50 rfl (fun h_50 => ?_) (fun h_50 => ?_)
            · try simp only [bq0, ne_eq, Classical.not_not] at h_50
              refine G_iload (pc := 59) dX9_leastOf_59 rfl ?_
              refine G_goto (pc := 61) (tgt := 65) dX9_leastOf_61 rfl ?_
              exact j_65 _ (by grind)
            · try simp only [bq0, ne_eq, Classical.not_not] at h_50
              refine G_iload (pc := 53) dX9_leastOf_53 rfl ?_
              refine G_iload_n (pc := 55) dX9_leastOf_55 rfl ?_
              refine G_icmp_ge (pc := 56) (tgt := 64) dX9_leastOf_56 rfl (fun h_56 => ?_) (fun h_56 => ?_)
              · refine G_iload_n (pc := 64) dX9_leastOf_64 rfl ?_
                exact j_65 _ (by grind)
              · refine G_iload (pc := 59) dX9_leastOf_59 rfl ?_
                refine G_goto (pc := 61) (tgt := 65) dX9_leastOf_61 rfl ?_
                exact j_65 _ (by grind)
  refine G_iconst (pc := 0) dX9_leastOf_0 (by decide) ?_
  refine G_istore_n (pc := 1) dX9_leastOf_1 (Nat.le_of_ble_eq_true rfl) rfl ?_
  refine G_iconst (pc := 2) dX9_leastOf_2 (by decide) ?_
  refine G_istore_n (pc := 3) dX9_leastOf_3 (Nat.le_of_ble_eq_true rfl) rfl ?_
  refine G_iconst (pc := 4) dX9_leastOf_4 (by decide) ?_
  refine G_istore (pc := 5) dX9_leastOf_5 (Nat.le_of_ble_eq_true rfl) rfl ?_
  exact loop 0 (by omega) (0, 0) _ (by omega) (Or.inl rfl) rfl
theorem c_X9_eastmost (t : Sto) (hn : 0 ≤ t 2184 0 ∧ t 2184 0 ≤ 24) (hB : BD (t 47)) : CT yX9_eastmost cX9_eastmost 4 (some .int) 0 [mP 31] t (fun a t' => a = some (mI (if (itr (higStep (t 46) (t 47)) 0 (t 2184 0) (0, 0)).1 = 0 then 0 else higS (t 2184 0) (t 46) (t 47) + 2)) ∧ t' = t) := by
  refine CT_of rfl rfl (Nat.le_of_ble_eq_true rfl) (fun E ht has => ?_)
  have hh := hig_r (n := t 2184 0) (B := 1000000) (ps := t 46) (f := t 47) hn.1 (by omega) hB
  have loop : ∀ r, r ≤ t 2184 0 → ∀ (q : Int × Int) (m : Int), 0 ≤ r → (q.1 = 0 ∨ (q.1 = 1 ∧ m = q.2)) → itr (higStep (t 46) (t 47)) r (t 2184 0) q = itr (higStep (t 46) (t 47)) 0 (t 2184 0) (0, 0) → G E cX9_eastmost RX9 (some .int) 0 7 [some (mP 31), some (mI m), some (mI q.1), some (mI r)] [] t (fun a t' => a = some (mI (if (itr (higStep (t 46) (t 47)) 0 (t 2184 0) (0, 0)).1 = 0 then 0 else higS (t 2184 0) (t 46) (t 47) + 2)) ∧ t' = t) := by
    refine up_ind (fun r hr ih q m h0 hq hX => ?_)
    refine G_iload_n (pc := 7) dX9_eastmost_7 rfl ?_
    refine G_aload_n (pc := 8) dX9_eastmost_8 rfl ?_
    refine G_getI (pc := 9) dX9_eastmost_9 fk_X9_86 rfl rfl rfl ?_
    refine G_icmp_ge (pc := 12) (tgt := 57) dX9_eastmost_12 rfl (fun h_12 => ?_) (fun h_12 => ?_)
    · rw [itr_ge (by omega)] at hX
      have hm : q.1 ≠ 0 → m = higS (t 2184 0) (t 46) (t 47) := by
        intro q0
        unfold higS
        rw [← hX]
        rcases hq with q1 | q1
        · exact absurd q1 q0
        · exact q1.2
      refine G_iload_n (pc := 57) dX9_eastmost_57 rfl ?_
      refine G_if_eq (pc := 58) (tgt := 67) dX9_eastmost_58 rfl (fun h_58 => ?_) (fun h_58 => ?_)
      · try simp only [bq0, ne_eq, Classical.not_not] at h_58
        refine G_iconst (pc := 67) dX9_eastmost_67 (by decide) ?_
        exact G_ireturn (pc := 68) dX9_eastmost_68 (qeq (by rw [← hX]; grind))
      · try simp only [bq0, ne_eq, Classical.not_not] at h_58
        have hm2 := hm h_58
        refine G_iload_n (pc := 61) dX9_eastmost_61 rfl ?_
        refine G_iconst (pc := 62) dX9_eastmost_62 (by decide) ?_
        refine G_iadd (pc := 63) dX9_eastmost_63 (by omega) ?_
        refine G_goto (pc := 64) (tgt := 68) dX9_eastmost_64 rfl ?_
        exact G_ireturn (pc := 68) dX9_eastmost_68 (qeq (by rw [← hX]; grind))
    · refine G_aload_n (pc := 15) dX9_eastmost_15 rfl ?_
      refine G_getP (pc := 16) dX9_eastmost_16 fk_X9_53 rfl rfl rfl ?_
      refine G_iload_n (pc := 19) dX9_eastmost_19 rfl ?_
      refine G_baload (pc := 20) dX9_eastmost_20 rfl rfl (by omega) ?_
      refine G_if_eq (pc := 21) (tgt := 51) dX9_eastmost_21 rfl (fun h_21 => ?_) (fun h_21 => ?_)
      · try simp only [bq0, ne_eq, Classical.not_not] at h_21
        refine G_iinc (pc := 51) dX9_eastmost_51 rfl rfl (by omega) ?_
        refine G_goto (pc := 54) (tgt := 7) dX9_eastmost_54 rfl ?_
        rw [itr_lt (by omega)] at hX
        first | (have e : higStep (t 46) (t 47) r q = (1, v_48) := (by (rw [hv_48]; unfold higStep; rw [if_pos h_21])); rw [e] at hX; exact ih (by omega) (1, v_48) _ (by omega) (Or.inr ⟨rfl, rfl⟩) hX) | (have e : higStep (t 46) (t 47) r q = q := (by (unfold higStep; rw [if_neg (by omega)])); rw [e] at hX; exact ih (by omega) q _ (by omega) hq hX)
      · try simp only [bq0, ne_eq, Classical.not_not] at h_21
        refine G_join (pc := 24) (P := fun v => v = (if q.1 = 0 ∨ q.2 < t 47 r then t 47 r else q.2)) 48 (fun v_48 hv_48 => ?_) (fun j_48 => ?_)
        · refine G_istore_n (pc := 48) dX9_eastmost_48 (Nat.le_of_ble_eq_true rfl) rfl ?_
          refine G_iconst (pc := 49) dX9_eastmost_49 (by decide) ?_
          refine G_istore_n (pc := 50) dX9_eastmost_50 (Nat.le_of_ble_eq_true rfl) rfl ?_
          refine G_iinc (pc := 51) dX9_eastmost_51 rfl rfl (by omega) ?_
          refine G_goto (pc := 54) (tgt := 7) dX9_eastmost_54 rfl ?_
          rw [itr_lt (by omega)] at hX
          first | (have e : higStep (t 46) (t 47) r q = (1, v_48) := (by (rw [hv_48]; unfold higStep; rw [if_pos h_21])); rw [e] at hX; exact ih (by omega) (1, v_48) _ (by omega) (Or.inr ⟨rfl, rfl⟩) hX) | (have e : higStep (t 46) (t 47) r q = q := (by (unfold higStep; rw [if_neg (by omega)])); rw [e] at hX; exact ih (by omega) q _ (by omega) hq hX)
        · refine G_iload_n (pc := 24) dX9_eastmost_24 rfl ?_
          refine G_if_eq (pc := 25) (tgt := 38) dX9_eastmost_25 rfl (fun h_25 => ?_) (fun h_25 => ?_)
          · try simp only [bq0, ne_eq, Classical.not_not] at h_25
            refine G_aload_n (pc := 38) dX9_eastmost_38 rfl ?_
            refine G_getP (pc := 39) dX9_eastmost_39 fk_X9_56 rfl rfl rfl ?_
            refine G_iload_n (pc := 42) dX9_eastmost_42 rfl ?_
            refine G_iaload (pc := 43) dX9_eastmost_43 rfl rfl (by omega) ?_
            refine G_goto (pc := 44) (tgt := 48) dX9_eastmost_44 rfl ?_
            exact j_48 _ (by rcases hq with q1 | q1 <;> grind)
          · try simp only [bq0, ne_eq, Classical.not_not] at h_25
            refine G_aload_n (pc := 28) dX9_eastmost_28 rfl ?_
            refine G_getP (pc := 29) dX9_eastmost_29 fk_X9_56 rfl rfl rfl ?_
            refine G_iload_n (pc := 32) dX9_eastmost_32 rfl ?_
            refine G_iaload (pc := 33) dX9_eastmost_33 rfl rfl (by omega) ?_
            refine G_iload_n (pc := 34) dX9_eastmost_34 rfl ?_
            refine G_icmp_le (pc := 35) (tgt := 47) dX9_eastmost_35 rfl (fun h_35 => ?_) (fun h_35 => ?_)
            · refine G_iload_n (pc := 47) dX9_eastmost_47 rfl ?_
              exact j_48 _ (by rcases hq with q1 | q1 <;> grind)
            · refine G_aload_n (pc := 38) dX9_eastmost_38 rfl ?_
              refine G_getP (pc := 39) dX9_eastmost_39 fk_X9_56 rfl rfl rfl ?_
              refine G_iload_n (pc := 42) dX9_eastmost_42 rfl ?_
              refine G_iaload (pc := 43) dX9_eastmost_43 rfl rfl (by omega) ?_
              refine G_goto (pc := 44) (tgt := 48) dX9_eastmost_44 rfl ?_
              exact j_48 _ (by rcases hq with q1 | q1 <;> grind)
  refine G_bipush (pc := 0) (x := (-2)) dX9_eastmost_0 rfl (by decide) ?_
  refine G_istore_n (pc := 2) dX9_eastmost_2 (Nat.le_of_ble_eq_true rfl) rfl ?_
  refine G_iconst (pc := 3) dX9_eastmost_3 (by decide) ?_
  refine G_istore_n (pc := 4) dX9_eastmost_4 (Nat.le_of_ble_eq_true rfl) rfl ?_
  refine G_iconst (pc := 5) dX9_eastmost_5 (by decide) ?_
  refine G_istore_n (pc := 6) dX9_eastmost_6 (Nat.le_of_ble_eq_true rfl) rfl ?_
  exact loop 0 (by omega) (0, 0) (-2) (by omega) (Or.inl rfl) rfl
