/-! NOTING THE BEST: the reference -/
noncomputable def ktM (t : Sto) (i : Int) : Sto := sv (sv (sv t 53 (onR i (t 50) (t 47) (t 53))) 54 (onR i (t 50) (t 48) (t 54))) 55 (onR i (t 50) (t 49) (t 55))
theorem ktM_ne (t : Sto) (i : Int) {w : Nat} (h : w ≠ 53 ∧ w ≠ 54 ∧ w ≠ 55) : ktM t i w = t w := by
  unfold ktM
  rw [sv_ne h.2.2, sv_ne h.2.1, sv_ne h.1]
theorem ktM_at (t : Sto) (i : Int) : ktM t i 53 = onR i (t 50) (t 47) (t 53) ∧ ktM t i 54 = onR i (t 50) (t 48) (t 54) ∧ ktM t i 55 = onR i (t 50) (t 49) (t 55) := by
  unfold ktM
  refine ⟨?_, ?_, ?_⟩
  · rw [sv_ne (by decide), sv_ne (by decide), sv_at]
  · rw [sv_ne (by decide), sv_at]
  · rw [sv_at]
theorem ktM_0 (t : Sto) : ktM t 0 = t := by
  unfold ktM
  rw [onR_0 (Int.le_refl _), onR_0 (Int.le_refl _), onR_0 (Int.le_refl _)]
  have h : ∀ (v : Nat) (u : Sto), u = t → sv u v (t v) = t := fun v u e => by rw [e, sv_id]
  exact h 55 _ (h 54 _ (h 53 _ rfl))
theorem ktM_put (t : Sto) {i : Int} (h : 0 ≤ i) : su (su (su (ktM t i) 53 (t 50 i) (t 47 (t 50 i))) 54 (t 50 i) (t 48 (t 50 i))) 55 (t 50 i) (t 49 (t 50 i)) = ktM t (i + 1) := by
  funext w
  obtain ⟨a1, a2, a3⟩ := ktM_at t i
  obtain ⟨b1, b2, b3⟩ := ktM_at t (i + 1)
  have s1 := onR_step h (t 50) (t 47) (t 53)
  have s2 := onR_step h (t 50) (t 48) (t 54)
  have s3 := onR_step h (t 50) (t 49) (t 55)
  by_cases h3 : w = 55
  · subst h3; rw [su_row, sv_at, su_ne (by decide), su_ne (by decide), a3, b3, s3]
  · rw [su_ne h3]
    by_cases h2 : w = 54
    · subst h2; rw [su_row, sv_at, su_ne (by decide), a2, b2, s2]
    · rw [su_ne h2]
      by_cases h1 : w = 53
      · subst h1; rw [su_row, sv_at, a1, b1, s1]
      · rw [su_ne h1, ktM_ne t i ⟨h1, h2, h3⟩, ktM_ne t (i + 1) ⟨h1, h2, h3⟩]
noncomputable def coM (t : Sto) : Int := costS (t 2184 0) (t 2188 0) (t 35) (t 36) (t 37) (t 46) (t 47) (t 48) (t 49)
theorem c_X9_noteBest (t : Sto) (hS : SM t) (hc : 0 ≤ t 2210 0 ∧ t 2210 0 ≤ 24) (ho : ∀ i, 0 ≤ i → i < t 2210 0 → 0 ≤ t 50 i ∧ t 50 i < 24) (hX : BD (t 47)) (hY : BD (t 48)) (hL : BD (t 49)) : CT yX9_noteBest cX9_noteBest 4 none 5 [mP 31] t (fun a t' => a = none ∧ t' = (if t 2217 0 < 0 ∨ coM t < t 2217 0 then ktM (su t 2217 0 (coM t)) (t 2210 0) else t)) := by
  refine CT_of rfl rfl (Nat.le_of_ble_eq_true rfl) (fun E ht has => ?_)
  have loop : ∀ u : Sto, u 2210 0 = t 2210 0 → u 50 = t 50 → (t 2217 0 < 0 ∨ coM t < t 2217 0) → u = su t 2217 0 (coM t) → ∀ i, i ≤ t 2210 0 → ∀ (y1 : Int) (o3 : Option MV), 0 ≤ i → G E cX9_noteBest RX9 none 5 27 [some (mP 31), some (mI y1), some (mI i), o3] [] (ktM u i) (fun a t' => a = none ∧ t' = (if t 2217 0 < 0 ∨ coM t < t 2217 0 then ktM (su t 2217 0 (coM t)) (t 2210 0) else t)) := by
    intro u u1 u2 hcond hu
    refine up_ind (fun i hi ih y1 o3 h0 => ?_)
    have p1 := ktM_ne u i (w := 2210) (by decide)
    have p2 := ktM_ne u i (w := 50) (by decide)
    have p3 := ktM_ne u i (w := 47) (by decide)
    have p4 := ktM_ne u i (w := 48) (by decide)
    have p5 := ktM_ne u i (w := 49) (by decide)
    have kp : su (su (su (ktM u i) 53 (t 50 i) (u 47 (t 50 i))) 54 (t 50 i) (u 48 (t 50 i))) 55 (t 50 i) (u 49 (t 50 i)) = ktM u (i + 1) := by rw [← u2]; exact ktM_put u h0
    refine G_iload_n (pc := 27) dX9_noteBest_27 rfl ?_
    refine G_aload_n (pc := 28) dX9_noteBest_28 rfl ?_
    refine G_getI (pc := 29) dX9_noteBest_29 fk_X9_175 rfl rfl rfl ?_
    rw [p1, u1]
    refine G_icmp_ge (pc := 32) (tgt := 84) dX9_noteBest_32 rfl (fun h_32 => ?_) (fun h_32 => ?_)
    · exact G_return (pc := 84) dX9_noteBest_84 ⟨rfl, by rw [if_pos hcond, ← hu, show i = t 2210 0 by omega]⟩
    · have hr := ho i h0 (by omega)
      refine G_aload_n (pc := 35) dX9_noteBest_35 rfl ?_
      refine G_getP (pc := 36) dX9_noteBest_36 fk_X9_65 rfl rfl rfl ?_
      refine G_iload_n (pc := 39) dX9_noteBest_39 rfl ?_
      refine G_iaload (pc := 40) dX9_noteBest_40 rfl rfl (by omega) ?_
      rw [p2, u2]
      refine G_istore_n (pc := 41) dX9_noteBest_41 (Nat.le_of_ble_eq_true rfl) rfl ?_
      refine G_aload_n (pc := 42) dX9_noteBest_42 rfl ?_
      refine G_getP (pc := 43) dX9_noteBest_43 fk_X9_74 rfl rfl rfl ?_
      refine G_iload_n (pc := 46) dX9_noteBest_46 rfl ?_
      refine G_aload_n (pc := 47) dX9_noteBest_47 rfl ?_
      refine G_getP (pc := 48) dX9_noteBest_48 fk_X9_56 rfl rfl rfl ?_
      refine G_iload_n (pc := 51) dX9_noteBest_51 rfl ?_
      refine G_iaload (pc := 52) dX9_noteBest_52 rfl rfl (by omega) ?_
      rw [p3]
      refine G_iastore (pc := 53) dX9_noteBest_53 rfl rfl (by omega) ?_
      refine G_aload_n (pc := 54) dX9_noteBest_54 rfl ?_
      refine G_getP (pc := 55) dX9_noteBest_55 fk_X9_77 rfl rfl rfl ?_
      refine G_iload_n (pc := 58) dX9_noteBest_58 rfl ?_
      refine G_aload_n (pc := 59) dX9_noteBest_59 rfl ?_
      refine G_getP (pc := 60) dX9_noteBest_60 fk_X9_59 rfl rfl rfl ?_
      refine G_iload_n (pc := 63) dX9_noteBest_63 rfl ?_
      refine G_iaload (pc := 64) dX9_noteBest_64 rfl rfl (by omega) ?_
      try simp (disch := decide) only [su_ne, su_at, su_same, sv_ne, sv_at]
      rw [p4]
      refine G_iastore (pc := 65) dX9_noteBest_65 rfl rfl (by omega) ?_
      refine G_aload_n (pc := 66) dX9_noteBest_66 rfl ?_
      refine G_getP (pc := 67) dX9_noteBest_67 fk_X9_80 rfl rfl rfl ?_
      refine G_iload_n (pc := 70) dX9_noteBest_70 rfl ?_
      refine G_aload_n (pc := 71) dX9_noteBest_71 rfl ?_
      refine G_getP (pc := 72) dX9_noteBest_72 fk_X9_62 rfl rfl rfl ?_
      refine G_iload_n (pc := 75) dX9_noteBest_75 rfl ?_
      refine G_iaload (pc := 76) dX9_noteBest_76 rfl rfl (by omega) ?_
      try simp (disch := decide) only [su_ne, su_at, su_same, sv_ne, sv_at]
      rw [p5]
      refine G_iastore (pc := 77) dX9_noteBest_77 rfl rfl (by omega) ?_
      rw [kp]
      refine G_iinc (pc := 78) dX9_noteBest_78 rfl rfl (by omega) ?_
      refine G_goto (pc := 81) (tgt := 27) dX9_noteBest_81 rfl ?_
      exact ih (by omega) _ _ (by omega)
  have eC9 : costS (t 2184 0) (t 2188 0) (t 35) (t 36) (t 37) (t 46) (t 47) (t 48) (t 49) = coM t := rfl
  refine G_aload_n (pc := 0) dX9_noteBest_0 rfl ?_
  refine G_cV1 (pc := 1) (c_X9_costNow _ (by exact hS) (by omega) (by omega) (by omega)) dX9_noteBest_1 ml_X9_181 rfl rfl rfl (by decide) (Nat.le_of_ble_eq_true rfl) ?_
  rw [eC9]
  refine G_istore_n (pc := 4) dX9_noteBest_4 (Nat.le_of_ble_eq_true rfl) rfl ?_
  refine G_aload_n (pc := 5) dX9_noteBest_5 rfl ?_
  refine G_getI (pc := 6) dX9_noteBest_6 fk_X9_185 rfl rfl rfl ?_
  refine G_if_lt (pc := 9) (tgt := 20) dX9_noteBest_9 rfl (fun h_9 => ?_) (fun h_9 => ?_)
  · refine G_aload_n (pc := 20) dX9_noteBest_20 rfl ?_
    refine G_iload_n (pc := 21) dX9_noteBest_21 rfl ?_
    refine G_put (pc := 22) dX9_noteBest_22 fk_X9_185 fw_X9_33 rfl rfl rfl (fun h => absurd h (by decide)) ?_
    refine G_iconst (pc := 25) dX9_noteBest_25 (by decide) ?_
    refine G_istore_n (pc := 26) dX9_noteBest_26 (Nat.le_of_ble_eq_true rfl) rfl ?_
    have h := loop (su t 2217 0 (coM t)) (by rw [su_ne (by decide)]) (by rw [su_ne (by decide)]) (by omega) rfl 0 (by omega) (coM t) none (by omega)
    rw [ktM_0] at h
    exact h
  · refine G_iload_n (pc := 12) dX9_noteBest_12 rfl ?_
    refine G_aload_n (pc := 13) dX9_noteBest_13 rfl ?_
    refine G_getI (pc := 14) dX9_noteBest_14 fk_X9_185 rfl rfl rfl ?_
    refine G_icmp_ge (pc := 17) (tgt := 84) dX9_noteBest_17 rfl (fun h_17 => ?_) (fun h_17 => ?_)
    · exact G_return (pc := 84) dX9_noteBest_84 ⟨rfl, by rw [if_neg (by omega)]⟩
    · refine G_aload_n (pc := 20) dX9_noteBest_20 rfl ?_
      refine G_iload_n (pc := 21) dX9_noteBest_21 rfl ?_
      refine G_put (pc := 22) dX9_noteBest_22 fk_X9_185 fw_X9_33 rfl rfl rfl (fun h => absurd h (by decide)) ?_
      refine G_iconst (pc := 25) dX9_noteBest_25 (by decide) ?_
      refine G_istore_n (pc := 26) dX9_noteBest_26 (Nat.le_of_ble_eq_true rfl) rfl ?_
      have h := loop (su t 2217 0 (coM t)) (by rw [su_ne (by decide)]) (by rw [su_ne (by decide)]) (by omega) rfl 0 (by omega) (coM t) none (by omega)
      rw [ktM_0] at h
      exact h
