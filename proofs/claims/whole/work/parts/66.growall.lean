/-! GROWING: the class, walked -/
def GAq (e : SE) (t u : Sto) : Prop := pF_3 u = GR e (pF_3 t) ∧ u 529 0 = 0 ∧ (BN 60000 (u 18) ∧ BN 60000 (u 19) ∧ BN 60000 (u 20)) ∧ BP e.n (52000 + 30 * cntP e.n (u 21)) (pF_3 u) ∧ (∀ w, keptS_3 w → w ≠ 28 → w ≠ 29 → w ≠ 529 → u w = t w)
theorem ga_put {e : SE} {s : Sto} {r x : Int} (hI : SPI_3 e 52000 60000 s) (hr : 0 ≤ r ∧ r < e.n) (h0 : s 21 r = 0) (hx : x = eaE e (pF_3 s)) : ∀ u, u = putC_3 s r x 0 0 → SPI_3 e 52000 60000 u ∧ pF_3 u = putF (pF_3 s) r x 0 0 ∧ (∀ w, keptS_3 w → u w = s w) := by
  intro u hu
  obtain ⟨⟨h1, h2, h3, h4, h5, h6⟩, hT, hS, hN, hB, hc, hm⟩ := hI
  have kw : ∀ w, w ≠ 18 → w ≠ 19 → w ≠ 20 → w ≠ 21 → u w = s w := fun w a1 a2 a3 a4 => by
    rw [hu]; unfold putC_3
    rw [su_ne a4, su_ne a3, su_ne a2, su_ne a1]
  have q21 : u 21 = fu (s 21) r 1 := by
    rw [hu]; unfold putC_3
    rw [su_row, sv_at, su_ne (by decide), su_ne (by decide), su_ne (by decide)]
  have q20 : u 20 = fu (s 20) r 0 := by
    rw [hu]; unfold putC_3
    rw [su_ne (by decide), su_row, sv_at, su_ne (by decide), su_ne (by decide)]
  have q19 : u 19 = fu (s 19) r 0 := by
    rw [hu]; unfold putC_3
    rw [su_ne (by decide), su_ne (by decide), su_row, sv_at, su_ne (by decide)]
  have q18 : u 18 = fu (s 18) r x := by
    rw [hu]; unfold putC_3
    rw [su_ne (by decide), su_ne (by decide), su_ne (by decide), su_row, sv_at]
  have hp : pF_3 u = putF (pF_3 s) r x 0 0 := by
    unfold pF_3
    rw [q18, q19, q20, q21]
    rfl
  have hcp : cntP e.n (fu (s 21) r 1) = cntP e.n (s 21) + 1 := cntP_put hr.1 hr.2 h0
  have hcr := cntP_r hS.1.1 (s 21)
  have hcr1 := cntP_r hS.1.1 (fu (s 21) r 1)
  have hn24 := hS.1.2.1
  have hig := hig_p (n := e.n) (B := 52000 + 30 * cntP e.n (s 21)) (ps := (pF_3 s).ps) (f := (pF_3 s).xs) hS.1.1 (by omega) (fun j j0 j1 j2 => (hB j j0 j1 j2).1)
  have hxb : -(52000 + 30 * cntP e.n (s 21) + 2) ≤ x ∧ x ≤ 52000 + 30 * cntP e.n (s 21) + 2 := by
    rw [hx]; unfold eaE
    split <;> omega
  refine ⟨⟨?_, ?_, hS, ⟨?_, ?_, ?_⟩, ?_, ?_, hm⟩, hp, fun w hw => kw w hw.1 hw.2.1 hw.2.2.1 hw.2.2.2.1⟩
  · rw [kw 267 (by decide) (by decide) (by decide) (by decide), kw 272 (by decide) (by decide) (by decide) (by decide), kw 13 (by decide) (by decide) (by decide) (by decide), kw 14 (by decide) (by decide) (by decide) (by decide), kw 15 (by decide) (by decide) (by decide) (by decide), kw 16 (by decide) (by decide) (by decide) (by decide)]
    exact ⟨h1, h2, h3, h4, h5, h6⟩
  · unfold TIC
    rw [kw 267 (by decide) (by decide) (by decide) (by decide), kw 272 (by decide) (by decide) (by decide) (by decide), kw 13 (by decide) (by decide) (by decide) (by decide), kw 15 (by decide) (by decide) (by decide) (by decide), kw 28 (by decide) (by decide) (by decide) (by decide), kw 29 (by decide) (by decide) (by decide) (by decide)]
    exact hT
  · rw [q18]; exact BN_fu hN.1 (by omega)
  · rw [q19]; exact BN_fu hN.2.1 (by omega)
  · rw [q20]; exact BN_fu hN.2.2 (by omega)
  · rw [q21, hcp, hp]
    exact BP_put (BP_up hB (by omega)) (by omega) (by omega) (by omega)
  · rw [kw 527 (by decide) (by decide) (by decide) (by decide)]; exact hc
theorem c_X3_growAll (t : Sto) (hS : SC t) (hN : BN 60000 (t 18) ∧ BN 60000 (t 19) ∧ BN 60000 (t 20)) (hB : BP (t 267 0) (52000 + 30 * cntP (t 267 0) (t 21)) (pF_3 t)) : CT yX3_growAll cX3_growAll 3 none 5 [mP 5] t (fun a t' => a = none ∧ GAq (eB t 0) t t') := by
  refine CT_of rfl rfl (Nat.le_of_ble_eq_true rfl) (fun E ht has => ?_)
  have hSE : SOE (eB t 0) := hS
  have hb := hS.1
  have loop : ∀ (F L : Int → Int), ∀ r, r ≤ t 267 0 → ∀ (s : Sto) (o2 : Option MV), 0 ≤ r → SPI_3 (eB t 0) 52000 60000 s → GR (eB t 0) (pF_3 s) = GR (eB t 0) (pF_3 t) → nxE (eB t 0) (pF_3 s) < 0 → (∀ q, 0 ≤ q → q < r → s 21 q ≠ 0) → s 529 0 = 0 → (∀ w, keptS_3 w → w ≠ 28 → w ≠ 29 → w ≠ 529 → s w = t w) → G E cX3_growAll RX3 none 5 31 [some (mP 5), some (mI r), o2] [] s (fun a t' => a = none ∧ GAq (eB t 0) t t') := by
    intro F L
    refine up_ind (fun r hr ih s o2 r0 hI hG hnx hpl h529 hw => ?_)
    obtain ⟨⟨h1, h2, h3, h4, h5, h6⟩, hT, hS', hNs, hBs, hc, hm⟩ := id hI
    have s267 : s 267 0 = t 267 0 := h1
    have hn24 : 0 ≤ s 267 0 ∧ s 267 0 ≤ 24 := by omega
    have hhb := hig_r (n := s 267 0) (B := 60000) (ps := s 21) (f := s 18) hn24.1 (by omega) hNs.1
    have fin : r = t 267 0 → GAq (eB t 0) t s := by
      intro hre
      have hun : unE (eB t 0) (pF_3 s) < 0 := by
        unfold unE
        rw [fst_lo (Int.le_refl _)]
        intro q q0 q1
        exact hpl q q0 (by have : q < t 267 0 := q1; omega)
      refine ⟨?_, h529, hNs, hBs, hw⟩
      rw [← hG, GR_end hSE hun]
    have go : r < t 267 0 → s 21 r = 0 → ∀ x, x = eaE (eB t 0) (pF_3 s) → ∀ (v : Sto), (SPI_3 (eB t 0) 52000 60000 v ∧ zS_3 v = sprF (eB t 0) 24 (zS_3 (putC_3 s r x 0 0)) ∧ ∀ w, keptS_3 w → v w = putC_3 s r x 0 0 w) → ∀ o2 : Option MV, G E cX3_growAll RX3 none 5 31 [some (mP 5), some (mI (r + 1)), o2] [] v (fun a t' => a = none ∧ GAq (eB t 0) t t') := by
      intro hlt h21 x hx v hv o2
      obtain ⟨p1, p2, p3⟩ := ga_put hI ⟨r0, hlt⟩ h21 hx _ rfl
      obtain ⟨v1, v2, v3⟩ := hv
      have hun : unE (eB t 0) (pF_3 s) = r := by
        unfold unE
        have e1 : (fun q => (pF_3 s).ps q = 0) = fun q => s 21 q = 0 := rfl
        rw [e1]
        rcases fst_spec (fun q => s 21 q = 0) 0 (eB t 0).n with ⟨a1, a2⟩ | ⟨a1, a2, a3, a4⟩
        · exact absurd h21 (a2 r r0 hlt)
        · rcases Int.lt_trichotomy (fst (fun q => s 21 q = 0) 0 (eB t 0).n) r with y | y | y
          · exact absurd a3 (hpl _ a1 y)
          · exact y
          · exact absurd h21 (a4 r r0 y)
      have e1 : gr1 (eB t 0) (pF_3 s) = pF_3 (putC_3 s r x 0 0) := by
        rw [p2]; unfold gr1
        rw [if_pos hnx, hun, hx]
      have e2 : pF_3 v = (sprF (eB t 0) 24 (zS_3 (putC_3 s r x 0 0))).1 := by rw [← v2]; rfl
      have e3 : (zS_3 (putC_3 s r x 0 0)).1 = pF_3 (putC_3 s r x 0 0) := rfl
      refine ih hlt v o2 (by omega) v1 ?_ ?_ ?_ ?_ ?_
      · rw [e2, GR_spr hSE, e3, ← e1, ← GR_go hSE (by rw [hun]; omega), hG]
      · rw [e2]
        refine spr_sat hSE 24 _ ?_
        have := cntP_r hSE.1.1 (zS_3 (putC_3 s r x 0 0)).1.ps
        have h9 : (eB t 0).n = t 267 0 := rfl
        rw [h9] at this ⊢
        omega
      · intro q q0 q1
        have e4 : v 21 q = (sprF (eB t 0) 24 (zS_3 (putC_3 s r x 0 0))).1.ps q := by rw [← e2]; rfl
        rw [e4]
        refine spr_ps 24 _ q ?_
        rw [e3, p2]
        by_cases y : q = r
        · rw [y, (putF_at _ _ _ _ _).1]; decide
        · rw [(putF_ne _ y _ _ _).1]; exact hpl q q0 (by omega)
      · rw [v3 529 (by unfold keptS_3; decide), p3 529 (by unfold keptS_3; decide)]; exact h529
      · intro w a1 a2 a3 a4
        rw [v3 w a1, p3 w a1]
        exact hw w a1 a2 a3 a4
    refine G_iload_n (pc := 31) dX3_growAll_31 rfl ?_
    refine G_aload_n (pc := 32) dX3_growAll_32 rfl ?_
    refine G_getP (pc := 33) dX3_growAll_33 fk_X3_26 rfl rfl rfl ?_
    refine G_getI (pc := 36) dX3_growAll_36 fk_X3_77 rfl rfl rfl ?_
    rw [s267]
    refine G_icmp_ge (pc := 39) (tgt := 110) dX3_growAll_39 rfl (fun h_39 => ?_) (fun h_39 => ?_)
    · exact G_return (pc := 110) dX3_growAll_110 ⟨rfl, fin (by omega)⟩
    · refine G_aload_n (pc := 42) dX3_growAll_42 rfl ?_
      refine G_getP (pc := 43) dX3_growAll_43 fk_X3_34 rfl rfl rfl ?_
      refine G_getP (pc := 46) dX3_growAll_46 fk_X3_82 rfl rfl rfl ?_
      refine G_iload_n (pc := 49) dX3_growAll_49 rfl ?_
      refine G_baload (pc := 50) dX3_growAll_50 rfl rfl (by omega) ?_
      refine G_if_ne (pc := 51) (tgt := 104) dX3_growAll_51 rfl (fun h_51 => ?_) (fun h_51 => ?_)
      · try simp only [bq0, ne_eq, Classical.not_not] at h_51
        refine G_iinc (pc := 104) dX3_growAll_104 rfl rfl (by omega) ?_
        refine G_goto (pc := 107) (tgt := 31) dX3_growAll_107 rfl ?_
        first | exact go (by omega) h_51 v_84 hv_84 t_101 hq_101 _ | exact ih (by omega) s _ (by omega) hI hG hnx (fun q q0 q1 => by rcases (show q < r ∨ q = r by omega) with y | y; (exact hpl q q0 y); (rw [y]; exact h_51)) h529 hw
      · try simp only [bq0, ne_eq, Classical.not_not] at h_51
        refine G_join (pc := 54) (P := fun v => v = eaE (eB t 0) (pF_3 s)) 84 (fun v_84 hv_84 => ?_) (fun j_84 => ?_)
        · refine G_istore_n (pc := 84) dX3_growAll_84 (Nat.le_of_ble_eq_true rfl) rfl ?_
          refine G_aload_n (pc := 85) dX3_growAll_85 rfl ?_
          refine G_getP (pc := 86) dX3_growAll_86 fk_X3_34 rfl rfl rfl ?_
          refine G_iload_n (pc := 89) dX3_growAll_89 rfl ?_
          refine G_iload_n (pc := 90) dX3_growAll_90 rfl ?_
          refine G_iconst (pc := 91) dX3_growAll_91 (by decide) ?_
          refine G_iconst (pc := 92) dX3_growAll_92 (by decide) ?_
          refine G_cV0 (pc := 93) (c_X2_put_3 _ _ _ _ _ (by omega)) dX3_growAll_93 ml_X3_121 rfl rfl rfl (by decide) (Nat.le_of_ble_eq_true rfl) ?_
          refine G_aload_n (pc := 96) dX3_growAll_96 rfl ?_
          refine G_aload_n (pc := 97) dX3_growAll_97 rfl ?_
          refine G_getP (pc := 98) dX3_growAll_98 fk_X3_34 rfl rfl rfl ?_
          refine G_cVg0 (pc := 101) (c_X3_spread_3 _ (eB t 0) (52000) (60000) ((ga_put hI ⟨r0, by show r < t 267 0; omega⟩ h_51 hv_84 _ rfl).1)) dX3_growAll_101 ml_X3_106 rfl rfl rfl (by decide) (Nat.le_of_ble_eq_true rfl) (fun t_101 hq_101 => ?_)
          refine G_iinc (pc := 104) dX3_growAll_104 rfl rfl (by omega) ?_
          refine G_goto (pc := 107) (tgt := 31) dX3_growAll_107 rfl ?_
          first | exact go (by omega) h_51 v_84 hv_84 t_101 hq_101 _ | exact ih (by omega) s _ (by omega) hI hG hnx (fun q q0 q1 => by rcases (show q < r ∨ q = r by omega) with y | y; (exact hpl q q0 y); (rw [y]; exact h_51)) h529 hw
        · refine G_aload_n (pc := 54) dX3_growAll_54 rfl ?_
          refine G_getP (pc := 55) dX3_growAll_55 fk_X3_34 rfl rfl rfl ?_
          refine G_cV1 (pc := 58) (c_X2_count_3 _ (by exact hn24)) dX3_growAll_58 ml_X3_110 rfl rfl rfl (by decide) (Nat.le_of_ble_eq_true rfl) ?_
          refine G_if_ne (pc := 61) (tgt := 68) dX3_growAll_61 rfl (fun h_61 => ?_) (fun h_61 => ?_)
          · try simp only [bq0, ne_eq, Classical.not_not] at h_61
            refine G_aload_n (pc := 68) dX3_growAll_68 rfl ?_
            refine G_getP (pc := 69) dX3_growAll_69 fk_X3_34 rfl rfl rfl ?_
            refine G_aload_n (pc := 72) dX3_growAll_72 rfl ?_
            refine G_getP (pc := 73) dX3_growAll_73 fk_X3_34 rfl rfl rfl ?_
            refine G_getP (pc := 76) dX3_growAll_76 fk_X3_114 rfl rfl rfl ?_
            refine G_cV1 (pc := 79) (c_X2_highest_3_18 _ (by exact hn24)) dX3_growAll_79 ml_X3_117 rfl rfl rfl (by decide) (Nat.le_of_ble_eq_true rfl) ?_
            refine G_iconst (pc := 82) dX3_growAll_82 (by decide) ?_
            refine G_iadd (pc := 83) dX3_growAll_83 (by omega) ?_
            exact j_84 _ (by unfold eaE; first | (rw [if_pos (by rw [s267] at h_61; exact h_61)]) | (rw [if_neg (by rw [s267] at h_61; exact h_61), s267]; rfl))
          · try simp only [bq0, ne_eq, Classical.not_not] at h_61
            refine G_iconst (pc := 64) dX3_growAll_64 (by decide) ?_
            refine G_goto (pc := 65) (tgt := 84) dX3_growAll_65 rfl ?_
            exact j_84 _ (by unfold eaE; first | (rw [if_pos (by rw [s267] at h_61; exact h_61)]) | (rw [if_neg (by rw [s267] at h_61; exact h_61), s267]; rfl))
  refine G_aload_n (pc := 0) dX3_growAll_0 rfl ?_
  refine G_getP (pc := 1) dX3_growAll_1 fk_X3_12 rfl rfl rfl ?_
  refine G_aload_n (pc := 4) dX3_growAll_4 rfl ?_
  refine G_getP (pc := 5) dX3_growAll_5 fk_X3_26 rfl rfl rfl ?_
  refine G_cVg0 (pc := 8) (c_X6_gather_1 _ (by exact hS)) dX3_growAll_8 ml_X3_59 rfl rfl rfl (by decide) (Nat.le_of_ble_eq_true rfl) (fun t_8 hq_8 => ?_)
  obtain ⟨F, L, rfl, hTI⟩ := hq_8
  refine G_aload_n (pc := 11) dX3_growAll_11 rfl ?_
  refine G_iconst (pc := 12) dX3_growAll_12 (by decide) ?_
  refine G_put (pc := 13) dX3_growAll_13 fk_X3_55 fw_X3_9 rfl rfl rfl (fun h => absurd h (by decide)) ?_
  refine G_aload_n (pc := 16) dX3_growAll_16 rfl ?_
  refine G_iconst (pc := 17) dX3_growAll_17 (by decide) ?_
  refine G_put (pc := 18) dX3_growAll_18 fk_X3_103 fw_X3_7 rfl rfl rfl (fun h => absurd h (by decide)) ?_
  refine G_aload_n (pc := 21) dX3_growAll_21 rfl ?_
  refine G_aload_n (pc := 22) dX3_growAll_22 rfl ?_
  refine G_getP (pc := 23) dX3_growAll_23 fk_X3_34 rfl rfl rfl ?_
  generalize hT0 : (su _ 527 0 0 : Sto) = T0
  have k0 : ∀ w, w ≠ 28 → w ≠ 29 → w ≠ 529 → w ≠ 527 → T0 w = t w := fun w h1 h2 h3 h4 => by rw [← hT0, su_ne h4, su_ne h3, sv_ne h2, sv_ne h1]
  have q28 : T0 28 = F := by rw [← hT0]; simp (disch := decide) only [su_ne, sv_ne, sv_at]
  have q29 : T0 29 = L := by rw [← hT0]; simp (disch := decide) only [su_ne, sv_ne, sv_at]
  have q529 : T0 529 0 = 0 := by rw [← hT0]; simp (disch := decide) only [su_ne, sv_ne, sv_at, su_at]
  have q527 : T0 527 0 = 0 := by rw [← hT0]; simp (disch := decide) only [su_ne, sv_ne, sv_at, su_at]
  have hp0 : pF_3 T0 = pF_3 t := by unfold pF_3; rw [k0 18 (by decide) (by decide) (by decide) (by decide), k0 19 (by decide) (by decide) (by decide) (by decide), k0 20 (by decide) (by decide) (by decide) (by decide), k0 21 (by decide) (by decide) (by decide) (by decide)]
  have hI0 : SPI_3 (eB t 0) 52000 60000 T0 := by
    refine ⟨?_, ?_, hSE, ?_, ?_, by omega, by omega⟩
    · rw [k0 267 (by decide) (by decide) (by decide) (by decide), k0 272 (by decide) (by decide) (by decide) (by decide), k0 13 (by decide) (by decide) (by decide) (by decide), k0 14 (by decide) (by decide) (by decide) (by decide), k0 15 (by decide) (by decide) (by decide) (by decide), k0 16 (by decide) (by decide) (by decide) (by decide)]
      exact ⟨rfl, rfl, rfl, rfl, rfl, rfl⟩
    · unfold TIC
      rw [k0 267 (by decide) (by decide) (by decide) (by decide), k0 272 (by decide) (by decide) (by decide) (by decide), k0 13 (by decide) (by decide) (by decide) (by decide), k0 15 (by decide) (by decide) (by decide) (by decide), q28, q29]
      exact hTI
    · rw [k0 18 (by decide) (by decide) (by decide) (by decide), k0 19 (by decide) (by decide) (by decide) (by decide), k0 20 (by decide) (by decide) (by decide) (by decide)]
      exact hN
    · rw [hp0, k0 21 (by decide) (by decide) (by decide) (by decide)]
      exact hB
  refine G_cVg0 (pc := 26) (c_X3_spread_3 _ (eB t 0) (52000) (60000) (hI0)) dX3_growAll_26 ml_X3_106 rfl rfl rfl (by decide) (Nat.le_of_ble_eq_true rfl) (fun t_26 hq_26 => ?_)
  obtain ⟨v1, v2, v3⟩ := hq_26
  refine G_iconst (pc := 29) dX3_growAll_29 (by decide) ?_
  refine G_istore_n (pc := 30) dX3_growAll_30 (Nat.le_of_ble_eq_true rfl) rfl ?_
  have e2 : pF_3 t_26 = (sprF (eB t 0) 24 (zS_3 T0)).1 := by rw [← v2]; rfl
  have e3 : (zS_3 T0).1 = pF_3 t := hp0
  refine loop F L 0 (by omega) t_26 _ (by omega) v1 ?_ ?_ (fun q q0 q1 => by omega) ?_ ?_
  · rw [e2, GR_spr hSE, e3]
  · rw [e2]
    refine spr_sat hSE 24 _ ?_
    have := cntP_r hSE.1.1 (zS_3 T0).1.ps
    have h9 : (eB t 0).n = t 267 0 := rfl
    rw [h9] at this ⊢
    omega
  · rw [v3 529 (by unfold keptS_3; decide)]; exact q529
  · intro w a1 a2 a3 a4
    rw [v3 w a1]
    exact k0 w a2 a3 a4 a1.2.2.2.2.2.1
theorem c_X8_grow (t : Sto) (hS : SC t) (hN : BN 60000 (t 18) ∧ BN 60000 (t 19) ∧ BN 60000 (t 20)) (hB : BP (t 267 0) (52000 + 30 * cntP (t 267 0) (t 21)) (pF_3 t)) : CT yX8_grow cX8_grow 1 (some .int) 6 [mP 0] t (fun a t' => ∃ x, a = some (mI x) ∧ (GAq (eB t 0) t t' ∧ x = bentS (t' 267 0) (t' 272 0) (t' 13) (t' 14) (t' 15) (t' 21) (t' 18) (t' 19) (t' 20))) := by
  refine CT_of rfl rfl (Nat.le_of_ble_eq_true rfl) (fun E ht has => ?_)
  refine G_aload_n (pc := 0) dX8_grow_0 rfl ?_
  refine G_getP (pc := 1) dX8_grow_1 fk_X8_37 rfl rfl rfl ?_
  refine G_cVg0 (pc := 4) (c_X3_growAll _ (by exact hS) (by exact hN) (by exact hB)) dX8_grow_4 ml_X8_147 rfl rfl rfl (by decide) (Nat.le_of_ble_eq_true rfl) (fun t_4 hq_4 => ?_)
  have hk := hq_4.2.2.2.2
  have hN9 := hq_4.2.2.1
  have hS9 : SC t_4 := by
    unfold SC
    rw [hk 267 (by unfold keptS_3; decide) (by decide) (by decide) (by decide), hk 272 (by unfold keptS_3; decide) (by decide) (by decide) (by decide), hk 13 (by unfold keptS_3; decide) (by decide) (by decide) (by decide), hk 14 (by unfold keptS_3; decide) (by decide) (by decide) (by decide), hk 15 (by unfold keptS_3; decide) (by decide) (by decide) (by decide), hk 16 (by unfold keptS_3; decide) (by decide) (by decide) (by decide)]
    exact hS
  refine G_aload_n (pc := 7) dX8_grow_7 rfl ?_
  refine G_getP (pc := 8) dX8_grow_8 fk_X8_28 rfl rfl rfl ?_
  refine G_cV1 (pc := 11) (c_X2_bentLinks_3 _ (by exact hS9) (by exact BN_BD hN9.1 (by decide)) (by exact BN_BD hN9.2.1 (by decide)) (by exact BN_BD hN9.2.2 (by decide))) dX8_grow_11 ml_X8_143 rfl rfl rfl (by decide) (Nat.le_of_ble_eq_true rfl) ?_
  exact G_ireturn (pc := 14) dX8_grow_14 ⟨_, rfl, hq_4, rfl⟩
