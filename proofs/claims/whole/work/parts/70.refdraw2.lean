/-! DRAWING: the reference, walked -/
def DMq (e : SE) (t u : Sto) : Prop := (∃ ea, DSM u ea = itr (dS1 e) 0 e.n (t 40, t 41, t 42, t 43, 0, 0)) ∧ u 39 = glue e.n (fun _ => 1) (t 39) ∧ u 2198 0 = cntS e.n e.k e.fr e.to ∧ BNM u ∧ (∀ w, keptX w → w ≠ 44 → w ≠ 45 → w ≠ 2198 → w ≠ 2201 → u w = t w)
set_option maxHeartbeats 1000000 in
theorem c_X9_draw (t : Sto) (lim : Int) (e : SE) (hM : EM e t) (hS : SOE e) (hel : e.lim = lim) (hp : ∀ r, t 39 r = 0 ∨ t 39 r = 1) (hQ : BN 60000 (t 40) ∧ BN 60000 (t 41) ∧ BN 60000 (t 42)) (hN : BNM t) : CT yX9_draw cX9_draw 4 (some .int) 7 [mP 31, mI lim] t (fun a t' => ∃ x, a = some (mI x) ∧ ((¬ (1 ≤ lim ∧ lim ≤ 20000) ∧ x = -1 ∧ t' = t) ∨ ((1 ≤ lim ∧ lim ≤ 20000) ∧ DMq e t t' ∧ x = beE e (pQ t')))) := by
  subst hel
  refine CT_of rfl rfl (Nat.le_of_ble_eq_true rfl) (fun E ht has => ?_)
  have hn24 := hS.1
  have hcs := pcS_bound (lsE e) e.n e.n hS.1.1
  have hcs' : 0 ≤ cntS e.n e.k e.fr e.to ∧ cntS e.n e.k e.fr e.to ≤ e.n := hcs
  clear hcs
  have loop : (1 ≤ e.lim ∧ e.lim ≤ 20000) → ∀ (T : Sto), T 2201 0 = cntS e.n e.k e.fr e.to → T 2198 0 = cntS e.n e.k e.fr e.to → T 39 = t 39 → (∀ w, keptX w → w ≠ 44 → w ≠ 45 → w ≠ 2198 → w ≠ 2201 → T w = t w) → ∀ p, p ≤ cntS e.n e.k e.fr e.to → ∀ (s : Sto) (east : Int), 0 ≤ p → DMI e T p east s → itr (fun i => dS e (rho (lsE e) e.n i)) p (cntS e.n e.k e.fr e.to) (DSM s east) = itr (fun i => dS e (rho (lsE e) e.n i)) 0 (cntS e.n e.k e.fr e.to) (t 40, t 41, t 42, t 43, 0, 0) → G E cX9_draw RX9 (some .int) 7 34 [some (mP 31), some (mI e.lim), some (mI east), some (mI p)] [] s (fun a t' => ∃ x, a = some (mI x) ∧ ((¬ (1 ≤ e.lim ∧ e.lim ≤ 20000) ∧ x = -1 ∧ t' = t) ∨ ((1 ≤ e.lim ∧ e.lim ≤ 20000) ∧ DMq e t t' ∧ x = beE e (pQ t')))) := by
    intro hl T T1 T2 T3 T4
    refine up_ind (fun p hpc ih s east p0 hI hX => ?_)
    obtain ⟨hMs, hpn, he, hst, h39, hBs, hNs, hw⟩ := id hI
    have s2201 : s 2201 0 = cntS e.n e.k e.fr e.to := by rw [hw 2201 (by unfold keptX keptY keptT keptF keptM; decide)]; exact T1
    have hp39 : ∀ r, s 39 r = 0 ∨ s 39 r = 1 := fun r => by
      rw [h39 r]
      split
      · exact Or.inr rfl
      · rw [T3]; exact hp r
    have fin : p = cntS e.n e.k e.fr e.to → DMq e t (loadM s) := by
      intro hpe
      have kl : ∀ w, w ≠ 46 → w ≠ 47 → w ≠ 48 → w ≠ 49 → loadM s w = s w := fun w a1 a2 a3 a4 => loadN_ne s _ ⟨a1, a2, a3, a4⟩
      rw [itr_ge (by omega)] at hX
      refine ⟨⟨east, ?_⟩, ?_, ?_, load_BNM hBs hNs, fun w h9 a1 a2 a3 a4 => ?_⟩
      · rw [ds_mu hS, ← hX]
        unfold DSM
        rw [kl 40 (by decide) (by decide) (by decide) (by decide), kl 41 (by decide) (by decide) (by decide) (by decide), kl 42 (by decide) (by decide) (by decide) (by decide), kl 43 (by decide) (by decide) (by decide) (by decide), kl 2197 (by decide) (by decide) (by decide) (by decide)]
      · rw [kl 39 (by decide) (by decide) (by decide) (by decide)]
        funext q
        rw [h39 q, T3]
        by_cases y : 0 ≤ q ∧ q < e.n
        · rw [glue_at y, if_pos]
          refine ⟨y, ?_⟩
          rw [hpe, parS_at hS y.1 y.2]
          have b1 := least_all hS y.1 y.2
          have b2 : lsE e (lsE e q) = lsE e q := least_root hS y.1 y.2
          exact (rho_root (A := lsE e) hS.1.1 b1.1.1.1 b1.1.1.2 b2).1.2
        · rw [glue_out y, if_neg (fun z => y z.1)]
      · rw [kl 2198 (by decide) (by decide) (by decide) (by decide), hw 2198 (by unfold keptX keptY keptT keptF keptM; decide)]; exact T2
      · rw [kl w h9.1.1.1.1.1 h9.1.1.1.1.2.1 h9.1.1.1.1.2.2.1 h9.1.1.1.1.2.2.2.1, hw w h9]
        exact T4 w h9 a1 a2 a3 a4
    obtain ⟨r, hr⟩ : ∃ r, r = rho (lsE e) e.n p := ⟨_, rfl⟩
    have mv : p < cntS e.n e.k e.fr e.to → ∀ v : Sto, v 2210 0 = (oz e r).2.2 → (∀ j, 0 ≤ j → j < (oz e r).2.2 → v 50 j = (oz e r).2.1 j) → BSq e r v → v 43 = fu (s 43) p (if (aR e r).stp = 0 then 1 else 0) → v 2197 0 = s 2197 0 + (aR e r).made → (0 ≤ (aR e r).made ∧ (aR e r).made ≤ e.lim) → BNM v → (∀ w, keptY w → v w = s w) → G E cX9_draw RX9 (some .int) 7 69 [some (mP 31), some (mI e.lim), some (mI east), some (mI p)] [] v (fun a t' => ∃ x, a = some (mI x) ∧ ((¬ (1 ≤ e.lim ∧ e.lim ≤ 20000) ∧ x = -1 ∧ t' = t) ∨ ((1 ≤ e.lim ∧ e.lim ≤ 20000) ∧ DMq e t t' ∧ x = beE e (pQ t')))) := by
      intro plt v d1 d2 hbs h43 h2197 hmd hNv hk
      obtain ⟨y1, y2⟩ := dm_move hS hl hI p0 plt hr d1 d2 hbs h43 h2197 hmd hNv hk rfl rfl rfl
      obtain ⟨a1, a2, a3⟩ := rho_ok (A := lsE e) hS.1.1 p0 plt
      rw [← hr] at a1 a2 a3
      have hE := eR_ok hS a1.1 a1.2
      have hb := aR_bb hS a1.1 a1.2
      have hcn : 1 ≤ (oz e r).2.2 ∧ (oz e r).2.2 ≤ e.n := hE.cnt
      have hor : ∀ j, 0 ≤ j → j < (oz e r).2.2 → 0 ≤ (oz e r).2.1 j ∧ (oz e r).2.1 j < e.n := hE.ord
      have hio : ∀ j, 0 ≤ j → j < (oz e r).2.2 → inO (eR e r) ((oz e r).2.1 j) := fun j j0 j1 => ⟨j, j0, j1, rfl⟩
      refine G_aload_n (pc := 69) dX9_draw_69 rfl ?_
      refine G_iload_n (pc := 70) dX9_draw_70 rfl ?_
      refine G_cV1 (pc := 71) (c_X9_movePart _ _ (by omega) (by intro j j0 j1; have := hor j j0 (by omega); rw [d2 j j0 (by omega)]; omega) (by intro j j0 j1; have h8 := hio j j0 (by omega); have h9 := hb.2.1 _ h8; rw [d2 j j0 (by omega), (hbs _ h8).1, (hbs _ h8).2.1]; exact ⟨h9.1, h9.2.1⟩) (by omega)) dX9_draw_71 ml_X9_212 rfl rfl rfl (by decide) (Nat.le_of_ble_eq_true rfl) ?_
      refine G_istore_n (pc := 74) dX9_draw_74 (Nat.le_of_ble_eq_true rfl) rfl ?_
      refine G_iinc (pc := 75) dX9_draw_75 rfl rfl (by omega) ?_
      refine G_goto (pc := 78) (tgt := 34) dX9_draw_78 rfl ?_
      refine ih plt _ _ (by omega) y1 ?_
      rw [y2, ← hX, itr_lt (l := p) plt, hr]
    refine G_iload_n (pc := 34) dX9_draw_34 rfl ?_
    refine G_aload_n (pc := 35) dX9_draw_35 rfl ?_
    refine G_getI (pc := 36) dX9_draw_36 fk_X9_126 rfl rfl rfl ?_
    rw [s2201]
    refine G_icmp_ge (pc := 39) (tgt := 81) dX9_draw_39 rfl (fun h_39 => ?_) (fun h_39 => ?_)
    · have hdm := fin (by omega)
      have hMl : EM e (loadM s) := EM_kept hMs (fun w h9 => loadN_ne s _ ⟨h9.1, h9.2.1, h9.2.2.1, h9.2.2.2.1⟩)
      have hBl := load_BNM hBs hNs
      obtain ⟨lg, lq⟩ := load_AG (e := e) (t := s) hMs.1
      have hbe : bentS (loadM s 2184 0) (loadM s 2188 0) (loadM s 35) (loadM s 36) (loadM s 37) (loadM s 46) (loadM s 47) (loadM s 48) (loadM s 49) = beE e (pQ (loadM s)) := by
        obtain ⟨h1, h2, h3, h4, h5, h6⟩ := hMl
        rw [h1, h2, h3, h4, h5, lq, AG_be hS lg]
        rfl
      refine G_aload_n (pc := 81) dX9_draw_81 rfl ?_
      refine G_cV0 (pc := 82) (c_X9_load _ (by rw [hMs.1]; omega) (by exact hp39)) dX9_draw_82 ml_X9_215 rfl rfl rfl (by decide) (Nat.le_of_ble_eq_true rfl) ?_
      refine G_aload_n (pc := 85) dX9_draw_85 rfl ?_
      refine G_cV1 (pc := 86) (c_X9_bentNow _ (by exact EM_SM hS hMl) (by exact BN_BD hBl.1 (by decide)) (by exact BN_BD hBl.2.1 (by decide)) (by exact BN_BD hBl.2.2 (by decide))) dX9_draw_86 ml_X9_218 rfl rfl rfl (by decide) (Nat.le_of_ble_eq_true rfl) ?_
      exact G_ireturn (pc := 89) dX9_draw_89 ⟨_, rfl, Or.inr ⟨hl, hdm, hbe⟩⟩
    · have plt : p < cntS e.n e.k e.fr e.to := by omega
      obtain ⟨a1, a2, a3⟩ := rho_ok (A := lsE e) hS.1.1 p0 plt
      rw [← hr] at a1 a2 a3
      refine G_aload_n (pc := 42) dX9_draw_42 rfl ?_
      refine G_iload_n (pc := 43) dX9_draw_43 rfl ?_
      refine G_cVg0 (pc := 44) (c_X9_findOrder _ _ (e) (by exact hMs) (by exact hS) (by exact ⟨p0, plt⟩) (by exact hpn)) dX9_draw_44 ml_X9_203 rfl rfl rfl (by decide) (Nat.le_of_ble_eq_true rfl) (fun t_44 hq_44 => ?_)
      obtain ⟨f1, f2, f3⟩ := fo_env hq_44
      obtain ⟨m1, m2, m3, m4⟩ := id hq_44
      rw [← hr] at f2 f3 m1 m2
      have hM1 : EM (eO e (t_44 50) (t_44 2210 0)) t_44 := by
        unfold EM
        rw [m4 2184 (by unfold keptO; decide), m4 2188 (by unfold keptO; decide), m4 35 (by unfold keptO; decide), m4 36 (by unfold keptO; decide), m4 37 (by unfold keptO; decide), m4 38 (by unfold keptO; decide)]
        exact hMs
      have hN1 : BNM t_44 := by
        unfold BNM
        rw [m4 47 (by unfold keptO; decide), m4 48 (by unfold keptO; decide), m4 49 (by unfold keptO; decide)]
        exact hNs
      have s1s : t_44 2197 0 = s 2197 0 := by rw [m4 2197 (by unfold keptO; decide)]
      refine G_aload_n (pc := 47) dX9_draw_47 rfl ?_
      refine G_getP (pc := 48) dX9_draw_48 fk_X9_44 rfl rfl rfl ?_
      refine G_iload_n (pc := 51) dX9_draw_51 rfl ?_
      refine G_aload_n (pc := 52) dX9_draw_52 rfl ?_
      refine G_iload_n (pc := 53) dX9_draw_53 rfl ?_
      refine G_cVg1 (pc := 54) (c_X9_tryPart _ (eO e (t_44 50) (t_44 2210 0)) ((fP e r).xs) ((fP e r).ys) ((fP e r).ls) (hM1) (f1) (⟨rfl, rfl⟩) (hN1) (hl) (by omega)) dX9_draw_54 ml_X9_206 rfl rfl rfl (by decide) (Nat.le_of_ble_eq_true rfl) (fun r_54 t_54 hq_54 => ?_)
      rw [f3] at hq_54
      obtain ⟨g1, g2, g3, g4, g5, g6, g7, g8⟩ := hq_54
      have kx : ∀ w, keptY w → t_54 w = s w := fun w h9 => by rw [g8 w h9.1 h9.2.2.2.2.2, m4 w ⟨h9.2.2.1, h9.2.2.2.1, h9.2.2.2.2.1⟩]
      have k43 : t_54 43 = s 43 := by rw [g8 43 (by unfold keptT keptF keptM; decide) (by decide), m4 43 (by unfold keptO; decide)]
      have k50 : t_54 50 = t_44 50 := g8 50 (by unfold keptT keptF keptM; decide) (by decide)
      have k2210 : t_54 2210 = t_44 2210 := g8 2210 (by unfold keptT keptF keptM; decide) (by decide)
      obtain ⟨v, hv⟩ : ∃ v, v = su t_54 43 p r_54 := ⟨_, rfl⟩
      have v43 : v 43 = fu (s 43) p (if (aR e r).stp = 0 then 1 else 0) := by rw [hv, su_row, sv_at, k43, g1]
      have vw : ∀ w, w ≠ 43 → v w = t_54 w := fun w h9 => by rw [hv, su_ne h9]
      have v50 : v 50 = t_44 50 := by rw [vw 50 (by decide), k50]
      have v2210 : v 2210 = t_44 2210 := by rw [vw 2210 (by decide), k2210]
      have vN : BNM v := by
        unfold BNM
        rw [vw 47 (by decide), vw 48 (by decide), vw 49 (by decide)]
        exact g6
      have v2197 : v 2197 0 = s 2197 0 + (aR e r).made := by rw [vw 2197 (by decide), g2, s1s]
      have vk : ∀ w, keptY w → v w = s w := fun w h9 => by rw [vw w h9.2.1]; exact kx w h9
      have vM : EM (eO e (t_44 50) (t_44 2210 0)) v := by
        unfold EM
        rw [vk 2184 (by unfold keptY keptT keptF keptM; decide), vk 2188 (by unfold keptY keptT keptF keptM; decide), vk 35 (by unfold keptY keptT keptF keptM; decide), vk 36 (by unfold keptY keptT keptF keptM; decide), vk 37 (by unfold keptY keptT keptF keptM; decide), vk 38 (by unfold keptY keptT keptF keptM; decide)]
        exact hMs
      have hxr : r_54 = 0 ∨ r_54 = 1 := by rw [g1]; split; (exact Or.inr rfl); (exact Or.inl rfl)
      have go1 : 0 ≤ t_54 2217 0 → BSq e r v := by
        intro h0 q hq
        obtain ⟨x1, x2, x3⟩ := g5 (by omega) q ((f2 q).mp hq)
        rw [vw 53 (by decide), vw 54 (by decide), vw 55 (by decide)]
        exact ⟨x1.symm, x2.symm, x3.symm⟩
      have go2 : ¬ 0 ≤ t_54 2217 0 → ∀ u, BFq (eO e (t_44 50) (t_44 2210 0)) v u → BSq e r u ∧ u 2210 0 = (oz e r).2.2 ∧ (∀ j, 0 ≤ j → j < (oz e r).2.2 → u 50 j = (oz e r).2.1 j) ∧ u 43 = fu (s 43) p (if (aR e r).stp = 0 then 1 else 0) ∧ u 2197 0 = s 2197 0 + (aR e r).made ∧ BNM u ∧ (∀ w, keptY w → u w = s w) := by
        intro h0 u hu
        obtain ⟨b1, b2, b3, b4⟩ := hu
        rw [fo_bf hS a1.1 a1.2 m1 m2] at b2
        obtain ⟨n1, n2, n3⟩ := aR_none hS a1.1 a1.2 (by rw [g3]; omega)
        refine ⟨fun q hq => ?_, ?_, ?_, ?_, ?_, b3, fun w h9 => ?_⟩
        · rw [n1, n2, n3]; exact b2 q ((f2 q).mp hq)
        · rw [b4 2210 (by unfold keptF keptM; decide), v2210]; exact m1
        · rw [b4 50 (by unfold keptF keptM; decide), v50]; exact m2
        · rw [b4 43 (by unfold keptF keptM; decide)]; exact v43
        · rw [b4 2197 (by unfold keptF keptM; decide)]; exact v2197
        · rw [b4 w h9.1.1]; exact vk w h9
      refine G_bastore (pc := 57) dX9_draw_57 rfl rfl (by omega) (by exact hxr) ?_
      rw [← hv]
      refine G_aload_n (pc := 58) dX9_draw_58 rfl ?_
      refine G_getI (pc := 59) dX9_draw_59 fk_X9_185 rfl rfl rfl ?_
      try simp (disch := decide) only [su_ne, su_at, su_same, sv_ne, sv_at]
      rw [vw 2217 (by decide)]
      refine G_if_ge (pc := 62) (tgt := 69) dX9_draw_62 rfl (fun h_62 => ?_) (fun h_62 => ?_)
      · first
        | (obtain ⟨z1, z2, z3, z4, z5, z6, z7⟩ := go2 h_62 t_66 hq_66; exact mv plt t_66 z2 z3 z1 z4 z5 g7 z6 z7)
        | exact mv plt v (by rw [v2210]; exact m1) (by rw [v50]; exact m2) (go1 h_62) v43 v2197 g7 vN vk
      · refine G_aload_n (pc := 65) dX9_draw_65 rfl ?_
        refine G_cVg0 (pc := 66) (c_X9_byFirst _ (eO e (t_44 50) (t_44 2210 0)) (vM) (f1) (⟨v50, congrFun v2210 0⟩) (vN) (by rw [vw 2217 (by decide)]; omega)) dX9_draw_66 ml_X9_209 rfl rfl rfl (by decide) (Nat.le_of_ble_eq_true rfl) (fun t_66 hq_66 => ?_)
        first
        | (obtain ⟨z1, z2, z3, z4, z5, z6, z7⟩ := go2 h_62 t_66 hq_66; exact mv plt t_66 z2 z3 z1 z4 z5 g7 z6 z7)
        | exact mv plt v (by rw [v2210]; exact m1) (by rw [v50]; exact m2) (go1 h_62) v43 v2197 g7 vN vk
  refine G_iload_n (pc := 0) dX9_draw_0 rfl ?_
  refine G_iconst (pc := 1) dX9_draw_1 (by decide) ?_
  refine G_sipush (pc := 2) (x := 20000) dX9_draw_2 rfl (by decide) ?_
  refine G_cS1 (pc := 5) (c_X9_in _ _ _ _) dX9_draw_5 ml_X9_90 rfl (by decide) (Nat.le_of_ble_eq_true rfl) ?_
  refine G_if_ne (pc := 8) (tgt := 13) dX9_draw_8 rfl (fun h_8 => ?_) (fun h_8 => ?_)
  · try simp only [bq0, ne_eq, Classical.not_not] at h_8
    refine G_aload_n (pc := 13) dX9_draw_13 rfl ?_
    refine G_cV0 (pc := 14) (c_X9_findParts _ (by exact EM_SM hS hM)) dX9_draw_14 ml_X9_129 rfl rfl rfl (by decide) (Nat.le_of_ble_eq_true rfl) ?_
    refine G_aload_n (pc := 17) dX9_draw_17 rfl ?_
    refine G_iconst (pc := 18) dX9_draw_18 (by decide) ?_
    refine G_put (pc := 19) dX9_draw_19 fk_X9_197 fw_X9_13 rfl rfl rfl (fun h => absurd h (by decide)) ?_
    refine G_aload_n (pc := 22) dX9_draw_22 rfl ?_
    refine G_aload_n (pc := 23) dX9_draw_23 rfl ?_
    refine G_getI (pc := 24) dX9_draw_24 fk_X9_126 rfl rfl rfl ?_
    try simp (disch := decide) only [su_ne, su_at, su_same, sv_ne, sv_at]
    refine G_put (pc := 27) dX9_draw_27 fk_X9_200 fw_X9_14 rfl rfl rfl (fun h => absurd h (by decide)) ?_
    refine G_iconst (pc := 30) dX9_draw_30 (by decide) ?_
    refine G_istore_n (pc := 31) dX9_draw_31 (Nat.le_of_ble_eq_true rfl) rfl ?_
    refine G_iconst (pc := 32) dX9_draw_32 (by decide) ?_
    refine G_istore_n (pc := 33) dX9_draw_33 (Nat.le_of_ble_eq_true rfl) rfl ?_
    generalize hT0 : (su _ 2198 0 _ : Sto) = T0
    have k0 : ∀ w, w ≠ 44 → w ≠ 45 → w ≠ 2201 → w ≠ 2197 → w ≠ 2198 → T0 w = t w := fun w h1 h2 h3 h4 h5 => by rw [← hT0, su_ne h5, su_ne h4, fpM_ne t ⟨h1, h2, h3⟩]
    obtain ⟨x1, x2, x3, x4, x5, x6⟩ := id hM
    have q45 : T0 45 = glue (t 2184 0) (parS (t 2184 0) (t 2188 0) (t 35) (t 37)) (t 45) := by rw [← hT0, su_ne (by decide), su_ne (by decide), fpM_45]
    have q2201 : T0 2201 0 = cntS e.n e.k e.fr e.to := by rw [← hT0, su_ne (by decide), su_ne (by decide), fpM_2201, x1, x2, x3, x5]
    have q2198 : T0 2198 0 = cntS e.n e.k e.fr e.to := by rw [← hT0, su_at]; first | rw [fpM_2201, x1, x2, x3, x5] | rw [su_ne (by decide), fpM_2201, x1, x2, x3, x5]
    have q2197 : T0 2197 0 = 0 := by rw [← hT0, su_ne (by decide), su_at]
    refine loop h_8 T0 q2201 q2198 (k0 39 (by decide) (by decide) (by decide) (by decide) (by decide)) (fun w h9 a1 a2 a3 a4 => k0 w a1 a2 a4 h9.1.2.2.2.2.2 a3) 0 (by omega) T0 0 (by omega) ?_ ?_
    · refine ⟨?_, fun q q0 q1 => ?_, by omega, by omega, fun q => ?_, ?_, ?_, fun _ _ => rfl⟩
      · unfold EM
        rw [k0 2184 (by decide) (by decide) (by decide) (by decide) (by decide), k0 2188 (by decide) (by decide) (by decide) (by decide) (by decide), k0 35 (by decide) (by decide) (by decide) (by decide) (by decide), k0 36 (by decide) (by decide) (by decide) (by decide) (by decide), k0 37 (by decide) (by decide) (by decide) (by decide) (by decide), k0 38 (by decide) (by decide) (by decide) (by decide) (by decide)]
        exact hM
      · rw [q45, x1, x2, x3, x5, glue_at ⟨q0, q1⟩]
      · rw [if_neg]
        rintro ⟨z1, z2⟩
        rw [parS_at hS z1.1 z1.2] at z2
        have b1 := least_all hS z1.1 z1.2
        have b2 := (pcS_bound (lsE e) e.n (lsE e q) b1.1.1.1).1
        omega
      · rw [k0 40 (by decide) (by decide) (by decide) (by decide) (by decide), k0 41 (by decide) (by decide) (by decide) (by decide) (by decide), k0 42 (by decide) (by decide) (by decide) (by decide) (by decide)]
        exact hQ
      · unfold BNM
        rw [k0 47 (by decide) (by decide) (by decide) (by decide) (by decide), k0 48 (by decide) (by decide) (by decide) (by decide) (by decide), k0 49 (by decide) (by decide) (by decide) (by decide) (by decide)]
        exact hN
    · unfold DSM
      rw [k0 40 (by decide) (by decide) (by decide) (by decide) (by decide), k0 41 (by decide) (by decide) (by decide) (by decide) (by decide), k0 42 (by decide) (by decide) (by decide) (by decide) (by decide), k0 43 (by decide) (by decide) (by decide) (by decide) (by decide), q2197]
  · try simp only [bq0, ne_eq, Classical.not_not] at h_8
    refine G_iconst (pc := 11) dX9_draw_11 (by decide) ?_
    exact G_ireturn (pc := 12) dX9_draw_12 ⟨-1, rfl, Or.inl ⟨h_8, rfl, rfl⟩⟩
