/-! KEEPING a trial: the class -/
noncomputable def onR (c : Int) (o f g : Int → Int) : Int → Int := fun r => @ite _ (∃ i, 0 ≤ i ∧ i < c ∧ o i = r) (Classical.propDecidable _) (f r) (g r)
theorem onR_0 {c : Int} (h : c ≤ 0) (o f g : Int → Int) : onR c o f g = g := by
  funext r
  unfold onR
  rw [if_neg (by rintro ⟨i, i0, i1, _⟩; omega)]
theorem onR_step {c : Int} (h : 0 ≤ c) (o f g : Int → Int) : onR (c + 1) o f g = fu (onR c o f g) (o c) (f (o c)) := by
  funext r
  by_cases e : r = o c
  · rw [e, fu_at]
    unfold onR
    rw [if_pos ⟨c, h, by omega, rfl⟩]
  · rw [fu_ne e]
    unfold onR
    by_cases q : ∃ i, 0 ≤ i ∧ i < c ∧ o i = r
    · obtain ⟨i, i0, i1, i2⟩ := q
      rw [if_pos ⟨i, i0, by omega, i2⟩, if_pos ⟨i, i0, i1, i2⟩]
    · rw [if_neg q, if_neg]
      rintro ⟨i, i0, i1, i2⟩
      rcases (show i < c ∨ i = c by omega) with z | z
      · exact q ⟨i, i0, z, i2⟩
      · subst z; exact e i2.symm
theorem onR_in {c : Int} {o f g : Int → Int} {i : Int} (h0 : 0 ≤ i) (h1 : i < c) : onR c o f g (o i) = f (o i) := by
  unfold onR
  rw [if_pos ⟨i, h0, h1, rfl⟩]
theorem onR_same {c : Int} {o g : Int → Int} {x : Int} (h : ∀ i, 0 ≤ i → i < c → g (o i) = x) : onR c o (fun _ => x) g = g := by
  funext r
  unfold onR
  by_cases q : ∃ i, 0 ≤ i ∧ i < c ∧ o i = r
  · rw [if_pos q]
    obtain ⟨i, i0, i1, i2⟩ := q
    rw [← i2, h i i0 i1]
  · rw [if_neg q]
noncomputable def ktS (t : Sto) (i : Int) : Sto := sv (sv (sv (sv t 18 (onR i (t 26) (t 22) (t 18))) 19 (onR i (t 26) (t 23) (t 19))) 20 (onR i (t 26) (t 24) (t 20))) 21 (onR i (t 26) (fun _ => 1) (t 21))
theorem ktS_ne (t : Sto) (i : Int) {w : Nat} (h : w ≠ 18 ∧ w ≠ 19 ∧ w ≠ 20 ∧ w ≠ 21) : ktS t i w = t w := by
  unfold ktS
  rw [sv_ne h.2.2.2, sv_ne h.2.2.1, sv_ne h.2.1, sv_ne h.1]
theorem ktS_at (t : Sto) (i : Int) : ktS t i 18 = onR i (t 26) (t 22) (t 18) ∧ ktS t i 19 = onR i (t 26) (t 23) (t 19) ∧ ktS t i 20 = onR i (t 26) (t 24) (t 20) ∧ ktS t i 21 = onR i (t 26) (fun _ => 1) (t 21) := by
  unfold ktS
  refine ⟨?_, ?_, ?_, ?_⟩
  · rw [sv_ne (by decide), sv_ne (by decide), sv_ne (by decide), sv_at]
  · rw [sv_ne (by decide), sv_ne (by decide), sv_at]
  · rw [sv_ne (by decide), sv_at]
  · rw [sv_at]
theorem ktS_0 (t : Sto) : ktS t 0 = t := by
  unfold ktS
  rw [onR_0 (Int.le_refl _), onR_0 (Int.le_refl _), onR_0 (Int.le_refl _), onR_0 (Int.le_refl _)]
  have h : ∀ (v : Nat) (u : Sto), u = t → sv u v (t v) = t := fun v u e => by rw [e, sv_id]
  exact h 21 _ (h 20 _ (h 19 _ (h 18 _ rfl)))
theorem su_row (t : Sto) (v : Nat) (i x : Int) : su t v i x = sv t v (fu (t v) i x) := by
  funext w j
  unfold su sv fu
  by_cases h : w = v
  · subst h; simp
  · simp [h]
theorem ktS_put (t : Sto) {i : Int} (h : 0 ≤ i) : putC_3 (ktS t i) (t 26 i) (t 22 (t 26 i)) (t 23 (t 26 i)) (t 24 (t 26 i)) = ktS t (i + 1) := by
  funext w
  unfold putC_3
  obtain ⟨a1, a2, a3, a4⟩ := ktS_at t i
  obtain ⟨b1, b2, b3, b4⟩ := ktS_at t (i + 1)
  have s1 := onR_step h (t 26) (t 22) (t 18)
  have s2 := onR_step h (t 26) (t 23) (t 19)
  have s3 := onR_step h (t 26) (t 24) (t 20)
  have s4 := onR_step h (t 26) (fun _ => 1) (t 21)
  by_cases h4 : w = 21
  · subst h4; rw [su_row, sv_at, su_ne (by decide), su_ne (by decide), su_ne (by decide), a4, b4, s4]
  · rw [su_ne h4]
    by_cases h3 : w = 20
    · subst h3; rw [su_row, sv_at, su_ne (by decide), su_ne (by decide), a3, b3, s3]
    · rw [su_ne h3]
      by_cases h2 : w = 19
      · subst h2; rw [su_row, sv_at, su_ne (by decide), a2, b2, s2]
      · rw [su_ne h2]
        by_cases h1 : w = 18
        · subst h1; rw [su_row, sv_at, a1, b1, s1]
        · rw [su_ne h1, ktS_ne t i ⟨h1, h2, h3, h4⟩, ktS_ne t (i + 1) ⟨h1, h2, h3, h4⟩]
theorem c_X3_keepTrial (t : Sto) (hc : 0 ≤ t 527 0 ∧ t 527 0 ≤ 24) (ho : ∀ i, 0 ≤ i → i < t 527 0 → 0 ≤ t 26 i ∧ t 26 i < 24) : CT yX3_keepTrial cX3_keepTrial 3 none 1 [mP 5] t (fun a t' => a = none ∧ t' = ktS t (t 527 0)) := by
  refine CT_of rfl rfl (Nat.le_of_ble_eq_true rfl) (fun E ht has => ?_)
  have loop : ∀ i, i ≤ t 527 0 → ∀ o2 : Option MV, 0 ≤ i → G E cX3_keepTrial RX3 none 1 2 [some (mP 5), some (mI i), o2] [] (ktS t i) (fun a t' => a = none ∧ t' = ktS t (t 527 0)) := by
    refine up_ind (fun i hi ih o2 h0 => ?_)
    have p1 := ktS_ne t i (w := 527) (by decide)
    have p2 := ktS_ne t i (w := 26) (by decide)
    have p3 := ktS_ne t i (w := 22) (by decide)
    have p4 := ktS_ne t i (w := 23) (by decide)
    have p5 := ktS_ne t i (w := 24) (by decide)
    refine G_iload_n (pc := 2) dX3_keepTrial_2 rfl ?_
    refine G_aload_n (pc := 3) dX3_keepTrial_3 rfl ?_
    refine G_getI (pc := 4) dX3_keepTrial_4 fk_X3_103 rfl rfl rfl ?_
    rw [p1]
    refine G_icmp_ge (pc := 7) (tgt := 58) dX3_keepTrial_7 rfl (fun h_7 => ?_) (fun h_7 => ?_)
    · exact G_return (pc := 58) dX3_keepTrial_58 ⟨rfl, by rw [show i = t 527 0 by omega]⟩
    · have hr := ho i h0 (by omega)
      refine G_aload_n (pc := 10) dX3_keepTrial_10 rfl ?_
      refine G_getP (pc := 11) dX3_keepTrial_11 fk_X3_18 rfl rfl rfl ?_
      refine G_iload_n (pc := 14) dX3_keepTrial_14 rfl ?_
      refine G_iaload (pc := 15) dX3_keepTrial_15 rfl rfl (by omega) ?_
      rw [p2]
      refine G_istore_n (pc := 16) dX3_keepTrial_16 (Nat.le_of_ble_eq_true rfl) rfl ?_
      refine G_aload_n (pc := 17) dX3_keepTrial_17 rfl ?_
      refine G_getP (pc := 18) dX3_keepTrial_18 fk_X3_34 rfl rfl rfl ?_
      refine G_iload_n (pc := 21) dX3_keepTrial_21 rfl ?_
      refine G_aload_n (pc := 22) dX3_keepTrial_22 rfl ?_
      refine G_getP (pc := 23) dX3_keepTrial_23 fk_X3_43 rfl rfl rfl ?_
      refine G_getP (pc := 26) dX3_keepTrial_26 fk_X3_114 rfl rfl rfl ?_
      refine G_iload_n (pc := 29) dX3_keepTrial_29 rfl ?_
      refine G_iaload (pc := 30) dX3_keepTrial_30 rfl rfl (by omega) ?_
      rw [p3]
      refine G_aload_n (pc := 31) dX3_keepTrial_31 rfl ?_
      refine G_getP (pc := 32) dX3_keepTrial_32 fk_X3_43 rfl rfl rfl ?_
      refine G_getP (pc := 35) dX3_keepTrial_35 fk_X3_176 rfl rfl rfl ?_
      refine G_iload_n (pc := 38) dX3_keepTrial_38 rfl ?_
      refine G_iaload (pc := 39) dX3_keepTrial_39 rfl rfl (by omega) ?_
      rw [p4]
      refine G_aload_n (pc := 40) dX3_keepTrial_40 rfl ?_
      refine G_getP (pc := 41) dX3_keepTrial_41 fk_X3_43 rfl rfl rfl ?_
      refine G_getP (pc := 44) dX3_keepTrial_44 fk_X3_178 rfl rfl rfl ?_
      refine G_iload_n (pc := 47) dX3_keepTrial_47 rfl ?_
      refine G_iaload (pc := 48) dX3_keepTrial_48 rfl rfl (by omega) ?_
      rw [p5]
      refine G_cV0 (pc := 49) (c_X2_put_3 _ _ _ _ _ (by omega)) dX3_keepTrial_49 ml_X3_121 rfl rfl rfl (by decide) (Nat.le_of_ble_eq_true rfl) ?_
      rw [ktS_put t h0]
      refine G_iinc (pc := 52) dX3_keepTrial_52 rfl rfl (by omega) ?_
      refine G_goto (pc := 55) (tgt := 2) dX3_keepTrial_55 rfl ?_
      exact ih (by omega) _ (by omega)
  refine G_iconst (pc := 0) dX3_keepTrial_0 (by decide) ?_
  refine G_istore_n (pc := 1) dX3_keepTrial_1 (Nat.le_of_ble_eq_true rfl) rfl ?_
  have h := loop 0 (by omega) none (by omega)
  rw [ktS_0] at h
  exact h
theorem c_X3_weighTrial (t : Sto) (hS : SC t) (hc : 0 ≤ t 527 0 ∧ t 527 0 ≤ 24) (ho : ∀ i, 0 ≤ i → i < t 527 0 → 0 ≤ t 26 i ∧ t 26 i < 24) (hX : BD (t 22)) (hY : BD (t 23)) (hL : BD (t 24)) : CT yX3_weighTrial cX3_weighTrial 2 none 3 [mP 5] t (fun a t' => a = none ∧ t' = (if costS (t 267 0) (t 272 0) (t 13) (t 14) (t 15) (t 25) (t 22) (t 23) (t 24) < t 534 0 then ktS (su t 534 0 (costS (t 267 0) (t 272 0) (t 13) (t 14) (t 15) (t 25) (t 22) (t 23) (t 24))) (t 527 0) else t)) := by
  refine CT_of rfl rfl (Nat.le_of_ble_eq_true rfl) (fun E ht has => ?_)
  generalize hC : costS (t 267 0) (t 272 0) (t 13) (t 14) (t 15) (t 25) (t 22) (t 23) (t 24) = C
  refine G_aload_n (pc := 0) dX3_weighTrial_0 rfl ?_
  refine G_getP (pc := 1) dX3_weighTrial_1 fk_X3_43 rfl rfl rfl ?_
  refine G_aload_n (pc := 4) dX3_weighTrial_4 rfl ?_
  refine G_getI (pc := 5) dX3_weighTrial_5 fk_X3_128 rfl rfl rfl ?_
  refine G_cVg1 (pc := 8) (c_X2_costBelow_4 _ _ (by exact hS) (by omega) (by omega) (by omega)) dX3_weighTrial_8 ml_X3_173 rfl rfl rfl (by decide) (Nat.le_of_ble_eq_true rfl) (fun r_8 t_8 hq_8 => ?_)
  rw [hC] at hq_8
  obtain ⟨hx, rfl⟩ := hq_8
  refine G_istore_n (pc := 11) dX3_weighTrial_11 (Nat.le_of_ble_eq_true rfl) rfl ?_
  refine G_iload_n (pc := 12) dX3_weighTrial_12 rfl ?_
  refine G_aload_n (pc := 13) dX3_weighTrial_13 rfl ?_
  refine G_getI (pc := 14) dX3_weighTrial_14 fk_X3_128 rfl rfl rfl ?_
  refine G_icmp_ge (pc := 17) (tgt := 29) dX3_weighTrial_17 rfl (fun h_17 => ?_) (fun h_17 => ?_)
  · exact G_return (pc := 29) dX3_weighTrial_29 (by first | exact ⟨rfl, by rw [if_pos (by omega), su_ne (by decide)]⟩ | exact ⟨rfl, by rw [if_neg (by omega)]⟩)
  · have e : r_8 = C := by omega
    subst e
    refine G_aload_n (pc := 20) dX3_weighTrial_20 rfl ?_
    refine G_iload_n (pc := 21) dX3_weighTrial_21 rfl ?_
    refine G_put (pc := 22) dX3_weighTrial_22 fk_X3_128 fw_X3_14 rfl rfl rfl (fun h => absurd h (by decide)) ?_
    refine G_aload_n (pc := 25) dX3_weighTrial_25 rfl ?_
    refine G_cV0 (pc := 26) (c_X3_keepTrial _ (by rw [su_ne (by decide)]; exact hc) (by rw [su_ne (by decide), su_ne (by decide)]; exact ho)) dX3_weighTrial_26 ml_X3_125 rfl rfl rfl (by decide) (Nat.le_of_ble_eq_true rfl) ?_
    exact G_return (pc := 29) dX3_weighTrial_29 (by first | exact ⟨rfl, by rw [if_pos (by omega), su_ne (by decide)]⟩ | exact ⟨rfl, by rw [if_neg (by omega)]⟩)
