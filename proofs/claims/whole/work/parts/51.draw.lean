/-! DRAW: the class -/
theorem c_X8_draw (t : Sto) (lim : Int) (hS : SC t) (hN : BN 1000 (t 22) ∧ BN 1000 (t 23) ∧ BN 1000 (t 24)) (hM : BN 60000 (t 18) ∧ BN 60000 (t 19) ∧ BN 60000 (t 20)) : CT yX8_draw cX8_draw 2 (some .int) 31 [mP 0, mI lim] t (fun a t' => ∃ x, a = some (mI x) ∧ ((¬ (1 ≤ lim ∧ lim ≤ 20000) ∧ x = -1 ∧ t' = t) ∨ ((1 ≤ lim ∧ lim ≤ 20000) ∧ DAq (eB t lim) t t' ∧ x = bentS (t' 267 0) (t' 272 0) (t' 13) (t' 14) (t' 15) (t' 21) (t' 18) (t' 19) (t' 20)))) := by
  refine CT_of rfl rfl (Nat.le_of_ble_eq_true rfl) (fun E ht has => ?_)
  refine G_iload_n (pc := 0) dX8_draw_0 rfl ?_
  refine G_iconst (pc := 1) dX8_draw_1 (by decide) ?_
  refine G_icmp_lt (pc := 2) (tgt := 12) dX8_draw_2 rfl (fun h_2 => ?_) (fun h_2 => ?_)
  · refine G_iconst (pc := 12) dX8_draw_12 (by decide) ?_
    exact G_ireturn (pc := 13) dX8_draw_13 ⟨-1, rfl, Or.inl ⟨by omega, rfl, rfl⟩⟩
  · refine G_iload_n (pc := 5) dX8_draw_5 rfl ?_
    refine G_sipush (pc := 6) (x := 20000) dX8_draw_6 rfl (by decide) ?_
    refine G_icmp_le (pc := 9) (tgt := 14) dX8_draw_9 rfl (fun h_9 => ?_) (fun h_9 => ?_)
    · refine G_aload_n (pc := 14) dX8_draw_14 rfl ?_
      refine G_getP (pc := 15) dX8_draw_15 fk_X8_37 rfl rfl rfl ?_
      refine G_iload_n (pc := 18) dX8_draw_18 rfl ?_
      refine G_cVg0 (pc := 19) (c_X3_drawAll _ _ (by exact hS) (by omega) (by exact hN) (by exact hM)) dX8_draw_19 ml_X8_140 rfl rfl rfl (by decide) (Nat.le_of_ble_eq_true rfl) (fun t_19 hq_19 => ?_)
      have hk := hq_19.2.2.2.2.2.2.2
      have hN9 := hq_19.2.2.2.2.1
      have hS9 : SC t_19 := by
        unfold SC
        rw [hk 267 (by unfold keptA keptD; decide) (by decide) (by decide) (by decide) (by decide) (by decide), hk 272 (by unfold keptA keptD; decide) (by decide) (by decide) (by decide) (by decide) (by decide), hk 13 (by unfold keptA keptD; decide) (by decide) (by decide) (by decide) (by decide) (by decide), hk 14 (by unfold keptA keptD; decide) (by decide) (by decide) (by decide) (by decide) (by decide), hk 15 (by unfold keptA keptD; decide) (by decide) (by decide) (by decide) (by decide) (by decide), hk 16 (by unfold keptA keptD; decide) (by decide) (by decide) (by decide) (by decide) (by decide)]
        exact hS
      refine G_aload_n (pc := 22) dX8_draw_22 rfl ?_
      refine G_getP (pc := 23) dX8_draw_23 fk_X8_28 rfl rfl rfl ?_
      refine G_cV1 (pc := 26) (c_X2_bentLinks_3 _ (by exact hS9) (by exact BN_BD hN9.1 (by decide)) (by exact BN_BD hN9.2.1 (by decide)) (by exact BN_BD hN9.2.2 (by decide))) dX8_draw_26 ml_X8_143 rfl rfl rfl (by decide) (Nat.le_of_ble_eq_true rfl) ?_
      exact G_ireturn (pc := 29) dX8_draw_29 ⟨_, rfl, Or.inr ⟨by omega, hq_19, rfl⟩⟩
    · refine G_iconst (pc := 12) dX8_draw_12 (by decide) ?_
      exact G_ireturn (pc := 13) dX8_draw_13 ⟨-1, rfl, Or.inl ⟨by omega, rfl, rfl⟩⟩
