/-! DRAWING A PART: the class, walked -/
def s1F (t : Sto) (r : Int) : Sto := su (su (putC_4 (sv t 25 (glue (t 267 0) (fun _ => 0) (t 25))) r 0 0 0) 26 0 r) 527 0 1
theorem s1_ok {e : SE} {t : Sto} {r : Int} (hB : BASE e t) (r0 : 0 ≤ r) (r1 : r < e.n) : SPI_4 e 0 1000 (s1F t r) ∧ zS_4 (s1F t r) = (putF (glue (t 267 0) (fun _ => 0) (t 25), t 22, t 23, t 24) r 0 0 0, fu (t 26) 0 r, 1) ∧ (∀ w, keptS_4 w → w ≠ 26 → w ≠ 527 → s1F t r w = t w) := by
  obtain ⟨⟨b1, b2, b3, b4, b5, b6⟩, hT, hS, hlim, hl, hN⟩ := hB
  have hn24 := hS.1
  have kw : ∀ w, w ≠ 22 → w ≠ 23 → w ≠ 24 → w ≠ 25 → w ≠ 26 → w ≠ 527 → s1F t r w = t w := by
    intro w h1 h2 h3 h4 h5 h6
    unfold s1F putC_4
    rw [su_ne h6, su_ne h5, su_ne h4, su_ne h3, su_ne h2, su_ne h1, sv_ne h4]
  have q25 : s1F t r 25 = fu (glue (t 267 0) (fun _ => 0) (t 25)) r 1 := by
    unfold s1F putC_4
    rw [su_ne (by decide), su_ne (by decide), su_row, sv_at, su_ne (by decide), su_ne (by decide), su_ne (by decide), sv_at]
  have q24 : s1F t r 24 = fu (t 24) r 0 := by
    unfold s1F putC_4
    rw [su_ne (by decide), su_ne (by decide), su_ne (by decide), su_row, sv_at, su_ne (by decide), su_ne (by decide), sv_ne (by decide)]
  have q23 : s1F t r 23 = fu (t 23) r 0 := by
    unfold s1F putC_4
    rw [su_ne (by decide), su_ne (by decide), su_ne (by decide), su_ne (by decide), su_row, sv_at, su_ne (by decide), sv_ne (by decide)]
  have q22 : s1F t r 22 = fu (t 22) r 0 := by
    unfold s1F putC_4
    rw [su_ne (by decide), su_ne (by decide), su_ne (by decide), su_ne (by decide), su_ne (by decide), su_row, sv_at, sv_ne (by decide)]
  have q26 : s1F t r 26 = fu (t 26) 0 r := by
    unfold s1F putC_4
    rw [su_ne (by decide), su_row, sv_at, su_ne (by decide), su_ne (by decide), su_ne (by decide), su_ne (by decide), sv_ne (by decide)]
  have q527 : s1F t r 527 0 = 1 := by
    unfold s1F
    rw [su_at]
  have hp : pF_4 (s1F t r) = putF (glue (t 267 0) (fun _ => 0) (t 25), t 22, t 23, t 24) r 0 0 0 := by
    unfold pF_4
    rw [q25, q24, q23, q22]
    rfl
  refine ⟨⟨?_, ?_, hS, ⟨?_, ?_, ?_⟩, ?_, ?_, by omega⟩, ?_, fun w hw h5 h6 => kw w hw.1 hw.2.1 hw.2.2.1 hw.2.2.2.1 h5 h6⟩
  · rw [kw 267 (by decide) (by decide) (by decide) (by decide) (by decide) (by decide), kw 272 (by decide) (by decide) (by decide) (by decide) (by decide) (by decide), kw 13 (by decide) (by decide) (by decide) (by decide) (by decide) (by decide), kw 14 (by decide) (by decide) (by decide) (by decide) (by decide) (by decide), kw 15 (by decide) (by decide) (by decide) (by decide) (by decide) (by decide), kw 16 (by decide) (by decide) (by decide) (by decide) (by decide) (by decide)]
    exact ⟨b1, b2, b3, b4, b5, b6⟩
  · unfold TIC
    rw [kw 267 (by decide) (by decide) (by decide) (by decide) (by decide) (by decide), kw 272 (by decide) (by decide) (by decide) (by decide) (by decide) (by decide), kw 13 (by decide) (by decide) (by decide) (by decide) (by decide) (by decide), kw 15 (by decide) (by decide) (by decide) (by decide) (by decide) (by decide), kw 28 (by decide) (by decide) (by decide) (by decide) (by decide) (by decide), kw 29 (by decide) (by decide) (by decide) (by decide) (by decide) (by decide)]
    exact hT
  · rw [q22]; exact BN_fu hN.1 (by omega)
  · rw [q23]; exact BN_fu hN.2.1 (by omega)
  · rw [q24]; exact BN_fu hN.2.2 (by omega)
  · intro q h0 h1 h2
    have hcr := cntP_r hS.1.1 (s1F t r 25)
    rw [hp] at h2 ⊢
    by_cases y : q = r
    · subst y
      obtain ⟨a1, a2, a3, a4⟩ := putF_at (glue (t 267 0) (fun _ => 0) (t 25), t 22, t 23, t 24) q 0 0 0
      rw [a2, a3, a4]
      omega
    · obtain ⟨a1, a2, a3, a4⟩ := putF_ne (glue (t 267 0) (fun _ => 0) (t 25), t 22, t 23, t 24) y 0 0 0
      rw [a1] at h2
      exact absurd (show glue (t 267 0) (fun _ => 0) (t 25) q = 0 from glue0 h0 (by omega)) h2
  · rw [q527]; omega
  · unfold zS_4
    rw [hp, q26, q527]
theorem c_X3_drawPartOf (t : Sto) (r : Int) (e : SE) (hB : BASE e t) (hr : 0 ≤ r ∧ r < e.n) : CT yX3_drawPartOf cX3_drawPartOf 2 none 29 [mP 5, mI r] t (fun a t' => a = none ∧ (DPq e r t t' ∧ ACb (eR e r) (fP e r).xs (fP e r).ys (fP e r).ls (aR e r))) := by
  refine CT_of rfl rfl (Nat.le_of_ble_eq_true rfl) (fun E ht has => ?_)
  obtain ⟨⟨b1, b2, b3, b4, b5, b6⟩, hT, hS, hlim, hl, hN⟩ := id hB
  have hn24 := hS.1
  obtain ⟨z1, z2, z3⟩ := s1_ok hB hr.1 hr.2
  refine G_aload_n (pc := 0) dX3_drawPartOf_0 rfl ?_
  refine G_getP (pc := 1) dX3_drawPartOf_1 fk_X3_43 rfl rfl rfl ?_
  refine G_cV0 (pc := 4) (c_X2_clear_4 _ (by omega)) dX3_drawPartOf_4 ml_X3_74 rfl rfl rfl (by decide) (Nat.le_of_ble_eq_true rfl) ?_
  refine G_aload_n (pc := 7) dX3_drawPartOf_7 rfl ?_
  refine G_getP (pc := 8) dX3_drawPartOf_8 fk_X3_43 rfl rfl rfl ?_
  refine G_iload_n (pc := 11) dX3_drawPartOf_11 rfl ?_
  refine G_iconst (pc := 12) dX3_drawPartOf_12 (by decide) ?_
  refine G_iconst (pc := 13) dX3_drawPartOf_13 (by decide) ?_
  refine G_iconst (pc := 14) dX3_drawPartOf_14 (by decide) ?_
  refine G_cV0 (pc := 15) (c_X2_put_4 _ _ _ _ _ (by omega)) dX3_drawPartOf_15 ml_X3_121 rfl rfl rfl (by decide) (Nat.le_of_ble_eq_true rfl) ?_
  refine G_aload_n (pc := 18) dX3_drawPartOf_18 rfl ?_
  refine G_getP (pc := 19) dX3_drawPartOf_19 fk_X3_18 rfl rfl rfl ?_
  refine G_iconst (pc := 22) dX3_drawPartOf_22 (by decide) ?_
  refine G_iload_n (pc := 23) dX3_drawPartOf_23 rfl ?_
  refine G_iastore (pc := 24) dX3_drawPartOf_24 rfl rfl (by omega) ?_
  refine G_aload_n (pc := 25) dX3_drawPartOf_25 rfl ?_
  refine G_iconst (pc := 26) dX3_drawPartOf_26 (by decide) ?_
  refine G_put (pc := 27) dX3_drawPartOf_27 fk_X3_103 fw_X3_7 rfl rfl rfl (fun h => absurd h (by decide)) ?_
  refine G_aload_n (pc := 30) dX3_drawPartOf_30 rfl ?_
  refine G_aload_n (pc := 31) dX3_drawPartOf_31 rfl ?_
  refine G_getP (pc := 32) dX3_drawPartOf_32 fk_X3_43 rfl rfl rfl ?_
  change G E cX3_drawPartOf RX3 none 29 35 _ _ (s1F t r) _
  refine G_cVg0 (pc := 35) (c_X3_spread_4 _ (e) (0) (1000) (z1)) dX3_drawPartOf_35 ml_X3_106 rfl rfl rfl (by decide) (Nat.le_of_ble_eq_true rfl) (fun t_35 hq_35 => ?_)
  obtain ⟨y1, y2, y3⟩ := hq_35
  rw [z2] at y2
  have y4 : ∀ w, keptS_4 w → w ≠ 26 → w ≠ 527 → t_35 w = t w := fun w h9 h5 h6 => (y3 w h9).trans (z3 w h9 h5 h6)
  obtain ⟨m1, m2, m3, m4, m5⟩ := dp_mid hB hr.1 hr.2 y1 y2 y4
  have hTI := dp_TI hB hr.1 hr.2 y1 y2 y4
  have hcnt : 1 ≤ t_35 527 0 ∧ t_35 527 0 ≤ e.n := m3.cnt
  have hord : ∀ i, 0 ≤ i → i < t_35 527 0 → 0 ≤ t_35 26 i ∧ t_35 26 i < e.n := m3.ord
  have h267 := y1.1.1
  refine G_aload_n (pc := 38) dX3_drawPartOf_38 rfl ?_
  refine G_cV0 (pc := 39) (c_X3_keepTrial _ (by omega) (by intro i i0 i1; have := hord i i0 i1; omega)) dX3_drawPartOf_39 ml_X3_125 rfl rfl rfl (by decide) (Nat.le_of_ble_eq_true rfl) ?_
  refine G_aload_n (pc := 42) dX3_drawPartOf_42 rfl ?_
  refine G_getP (pc := 43) dX3_drawPartOf_43 fk_X3_43 rfl rfl rfl ?_
  refine G_cV0 (pc := 46) (c_X2_clear_4 _ (by rw [ktS_ne _ _ (by decide)]; omega)) dX3_drawPartOf_46 ml_X3_74 rfl rfl rfl (by decide) (Nat.le_of_ble_eq_true rfl) ?_
  refine G_aload_n (pc := 49) dX3_drawPartOf_49 rfl ?_
  refine G_iconst (pc := 50) dX3_drawPartOf_50 (by decide) ?_
  refine G_put (pc := 51) dX3_drawPartOf_51 fk_X3_96 fw_X3_12 rfl rfl rfl (fun h => absurd h (by decide)) ?_
  refine G_aload_n (pc := 54) dX3_drawPartOf_54 rfl ?_
  refine G_iconst (pc := 55) dX3_drawPartOf_55 (by decide) ?_
  refine G_put (pc := 56) dX3_drawPartOf_56 fk_X3_92 fw_X3_13 rfl rfl rfl (fun _ => by omega) ?_
  refine G_aload_n (pc := 59) dX3_drawPartOf_59 rfl ?_
  refine G_sipush (pc := 60) (x := 3600) dX3_drawPartOf_60 rfl (by decide) ?_
  refine G_put (pc := 63) dX3_drawPartOf_63 fk_X3_128 fw_X3_14 rfl rfl rfl (fun h => absurd h (by decide)) ?_
  refine G_aload_n (pc := 66) dX3_drawPartOf_66 rfl ?_
  refine G_getP (pc := 67) dX3_drawPartOf_67 fk_X3_51 rfl rfl rfl ?_
  refine G_cV0 (pc := 70) (c_X0_lookAtOrigin _) dX3_drawPartOf_70 ml_X3_131 rfl rfl rfl (by decide) (Nat.le_of_ble_eq_true rfl) ?_
  change G E cX3_drawPartOf RX3 none 29 73 _ _ (s3F t_35) _
  refine G_aload_n (pc := 73) dX3_drawPartOf_73 rfl ?_
  refine G_iconst (pc := 74) dX3_drawPartOf_74 (by decide) ?_
  refine G_cVg0 (pc := 75) (c_X3_tryHere (24) _ _ (hTI) (by show 0 ≤ 0 ∧ 0 < t_35 527 0; omega) (by show t_35 527 0 - 0 ≤ (24 : Nat); omega) (by exact (s3_at t_35).2.2.1) (by obtain ⟨a1, a2, a3, a4, a5, a6, a7⟩ := s3_at t_35; rw [a5, a6, a7]; omega)) dX3_drawPartOf_75 ml_X3_134 rfl rfl rfl (by decide) (Nat.le_of_ble_eq_true rfl) (fun t_75 hq_75 => ?_)
  exact G_return (pc := 78) dX3_drawPartOf_78 ⟨rfl, dp_end hB hr.1 hr.2 y1 y2 y4 hq_75.1 hq_75.2⟩
