/-! DRAWING ALL PARTS: the class, walked -/
theorem parS_at {e : SE} (hS : SOE e) {r : Int} (r0 : 0 ≤ r) (r1 : r < e.n) : parS e.n e.k e.fr e.to r = (pcS (lsE e) (lsE e r)).1 := by
  have hL : LbP e.n (lsE e) := LP_least hS.1.1 hS.1.2.2.1 (fun l l0 l1 => ⟨(hS.2 l l0 l1).1, (hS.2 l l0 l1).2.1⟩)
  have := pc_val (n := e.n) hL (fun j j0 j1 => least_root hS j0 j1) e.n.toNat (by have := hS.1.1; omega) r r0 (by omega)
  rw [show ((e.n.toNat : Nat) : Int) = e.n by have := hS.1.1; omega] at this
  exact this
theorem lsE_b {e : SE} (hS : SOE e) {q : Int} (q0 : 0 ≤ q) (q1 : q < e.n) : 0 ≤ lsE e q ∧ lsE e q ≤ q := LP_least hS.1.1 hS.1.2.2.1 (fun l l0 l1 => ⟨(hS.2 l l0 l1).1, (hS.2 l l0 l1).2.1⟩) q q0 q1
def DAq (e : SE) (t u : Sto) : Prop := (∃ ea, DSC u ea = itr (dS1 e) 0 e.n (t 18, t 19, t 20, t 27, 0, 0)) ∧ u 21 = glue e.n (fun _ => 1) (t 21) ∧ u 529 0 = cntS e.n e.k e.fr e.to ∧ (BN 1000 (u 22) ∧ BN 1000 (u 23) ∧ BN 1000 (u 24)) ∧ (BN 60000 (u 18) ∧ BN 60000 (u 19) ∧ BN 60000 (u 20)) ∧ (∀ q, 0 ≤ q → q < e.n → (-52000 ≤ u 18 q ∧ u 18 q ≤ 52000) ∧ (-52000 ≤ u 19 q ∧ u 19 q ≤ 52000) ∧ (-52000 ≤ u 20 q ∧ u 20 q ≤ 52000)) ∧ (0 ≤ u 530 0 ∧ u 530 0 ≤ 480000) ∧ (∀ w, keptA w → w ≠ 17 → w ≠ 28 → w ≠ 29 → w ≠ 529 → w ≠ 531 → u w = t w)
theorem c_X3_drawAll (t : Sto) (lim : Int) (hS : SC t) (hl : 1 ≤ lim ∧ lim ≤ 20000) (hN : BN 1000 (t 22) ∧ BN 1000 (t 23) ∧ BN 1000 (t 24)) (hM : BN 60000 (t 18) ∧ BN 60000 (t 19) ∧ BN 60000 (t 20)) : CT yX3_drawAll cX3_drawAll 4 none 30 [mP 5, mI lim] t (fun a t' => a = none ∧ DAq (eB t lim) t t') := by
  refine CT_of rfl rfl (Nat.le_of_ble_eq_true rfl) (fun E ht has => ?_)
  have hSE : SOE (eB t lim) := hS
  have hb := hS.1
  have loop : ∀ (T : Sto), T 529 0 = cntS (t 267 0) (t 272 0) (t 13) (t 15) → (∀ q, 0 ≤ q → q < t 267 0 → T 17 q = parS (t 267 0) (t 272 0) (t 13) (t 15) q) → (∀ q, ¬ (0 ≤ q ∧ q < t 267 0) → T 21 q = t 21 q) → (∀ w, keptA w → w ≠ 17 → w ≠ 28 → w ≠ 29 → w ≠ 529 → w ≠ 531 → T w = t w) → ∀ r, r ≤ t 267 0 → ∀ (s : Sto) (east : Int), 0 ≤ r → DI (eB t lim) T r east s → itr (dS1 (eB t lim)) r (t 267 0) (DSC s east) = itr (dS1 (eB t lim)) 0 (t 267 0) (t 18, t 19, t 20, t 27, 0, 0) → G E cX3_drawAll RX3 none 30 47 [some (mP 5), some (mI lim), some (mI east), some (mI r)] [] s (fun a t' => a = none ∧ DAq (eB t lim) t t') := by
    intro T T1 T2 T3 T4
    refine up_ind (fun r hr ih s east r0 hI hX => ?_)
    obtain ⟨hB, he, hst, hpl, hpb, hpo, hNs, hk⟩ := id hI
    have s267 : s 267 0 = t 267 0 := hB.1.1
    have hpl' : r < t 267 0 → (s 21 r ≠ 0 ↔ lsE (eB t lim) r < r) := fun h => hpl r r0 h
    have hlb : r < t 267 0 → 0 ≤ lsE (eB t lim) r ∧ lsE (eB t lim) r ≤ r := fun h => lsE_b hSE r0 h
    have hskip : r < t 267 0 → s 21 r ≠ 0 → itr (dS1 (eB t lim)) (r + 1) (t 267 0) (DSC s east) = itr (dS1 (eB t lim)) 0 (t 267 0) (t 18, t 19, t 20, t 27, 0, 0) ∧ DI (eB t lim) T (r + 1) east s := by
      intro h1 h2
      have h3 := (hpl' h1).mp h2
      rw [itr_lt h1] at hX
      have e1 : dS1 (eB t lim) r (DSC s east) = DSC s east := by unfold dS1; rw [if_neg (by omega)]
      rw [e1] at hX
      refine ⟨hX, hB, by omega, by omega, fun q q0 q1 => ?_, hpb, hpo, hNs, hk⟩
      rw [hpl q q0 q1]
      have hz : lsE (eB t lim) q ≠ r := fun z => by
        have := least_root hSE q0 q1
        have e2 : lsE (eB t lim) (lsE (eB t lim) q) = lsE (eB t lim) q := this
        rw [z] at e2
        omega
      omega
    have s27 : keptD 27 := by unfold keptD; decide
    have hpar : r < t 267 0 → lsE (eB t lim) r = r → s 17 r = (pcS (lsE (eB t lim)) r).1 ∧ 0 ≤ s 17 r ∧ s 17 r < 24 := by
      intro h1 h2
      have e1 : s 17 = T 17 := hk 17 (by unfold keptA keptD; decide)
      have e2 := parS_at hSE r0 h1
      rw [h2] at e2
      have e3 : T 17 r = parS (t 267 0) (t 272 0) (t 13) (t 15) r := T2 r r0 h1
      have e4 : parS (t 267 0) (t 272 0) (t 13) (t 15) r = (pcS (lsE (eB t lim)) r).1 := e2
      have e5 := pcS_bound (lsE (eB t lim)) (t 267 0) r r0
      rw [e1, e3, e4]
      exact ⟨rfl, by omega, by omega⟩
    have hend : r = t 267 0 → DAq (eB t lim) t s := by
      intro hre
      rw [itr_ge (by omega)] at hX
      refine ⟨⟨east, hX⟩, ?_, ?_, hB.2.2.2.2.2, hNs, ?_, by omega, ?_⟩
      · funext q
        by_cases y : 0 ≤ q ∧ q < t 267 0
        · have h9 : s 21 q ≠ 0 := (hpl q y.1 y.2).mpr (by have := lsE_b hSE y.1 y.2; omega)
          have : glue (eB t lim).n (fun _ => (1 : Int)) (t 21) q = 1 := glue_at y
          rw [this]
          exact (hpb q y.1 y.2 h9).1
        · have : glue (eB t lim).n (fun _ => (1 : Int)) (t 21) q = t 21 q := glue_out y
          rw [this, hpo q y, T3 q y]
      · rw [hk 529 (by unfold keptA keptD; decide)]; exact T1
      · intro q q0 q1
        have h9 : s 21 q ≠ 0 := (hpl q q0 q1).mpr (by have := lsE_b hSE q0 q1; have : q < t 267 0 := q1; omega)
        exact (hpb q q0 q1 h9).2
      · intro w h1 h2 h3 h4 h5 h6
        rw [hk w h1]
        exact T4 w h1 h2 h3 h4 h5 h6
    have hroot : r < t 267 0 → s 21 r = 0 → lsE (eB t lim) r = r := fun h1 h2 => by
      have := hlb h1
      have h3 : ¬ lsE (eB t lim) r < r := fun z => (hpl' h1).mpr z h2
      omega
    have go : r < t 267 0 → s 21 r = 0 → ∀ u, (DPq (eB t lim) r s u ∧ ACb (eR (eB t lim) r) (fP (eB t lim) r).xs (fP (eB t lim) r).ys (fP (eB t lim) r).ls (aR (eB t lim) r)) → G E cX3_drawAll RX3 none 30 75 [some (mP 5), some (mI lim), some (mI east), some (mI r)] [] u (fun a t' => a = none ∧ DAq (eB t lim) t t') := by
      intro hlt h21 u hu
      have hrr := hroot hlt h21
      have hp9 := hpar hlt hrr
      obtain ⟨⟨d1, d2⟩, ⟨d3, d4⟩, ⟨d5, d6, d7, d8⟩, d9, ⟨d10, d11⟩, d12⟩ := id hu.1
      have hE := eR_ok hSE r0 hlt
      have hcn : 1 ≤ (oz (eB t lim) r).2.2 ∧ (oz (eB t lim) r).2.2 ≤ t 267 0 := hE.cnt
      have hor : ∀ i, 0 ≤ i → i < (oz (eB t lim) r).2.2 → 0 ≤ (oz (eB t lim) r).2.1 i ∧ (oz (eB t lim) r).2.1 i < t 267 0 := hE.ord
      have hij : ∀ i j, 0 ≤ i → i < (oz (eB t lim) r).2.2 → 0 ≤ j → j < (oz (eB t lim) r).2.2 → (oz (eB t lim) r).2.1 i = (oz (eB t lim) r).2.1 j → i = j := hE.inj
      have hio : ∀ i, 0 ≤ i → i < (oz (eB t lim) r).2.2 → inO (eR (eB t lim) r) ((oz (eB t lim) r).2.1 i) := fun i i0 i1 => ⟨i, i0, i1, rfl⟩
      have u17 : u 17 = s 17 := d12 17 (by unfold keptD; decide)
      have u530 : u 530 = s 530 := d12 530 (by unfold keptD; decide)
      have hlim : (eB t lim).lim = lim := rfl
      rw [hlim] at d10
      have hfv : ∀ i, 0 ≤ i → i < (oz (eB t lim) r).2.2 → (-1000 ≤ u 18 (u 26 i) ∧ u 18 (u 26 i) ≤ 1000) ∧ (-1000 ≤ u 19 (u 26 i) ∧ u 19 (u 26 i) ≤ 1000) := fun i i0 i1 => by
        have := hu.2.2.1 _ (hio i i0 i1)
        rw [d2 i i0 i1, d5, d6, onO_in (hio i i0 i1), onO_in (hio i i0 i1)]
        exact ⟨this.1, this.2.1⟩
      have hb1 := mnO_b (c := u 527 0) (B := 1000) (o := u 26) (f := u 18) (by omega) (fun i i0 i1 => (hfv i i0 (by omega)).1) (l := 1) (by omega) (by omega) (hfv 0 (by omega) (by omega)).1
      have hb2 := mxO_b (c := u 527 0) (B := 1000) (o := u 26) (f := u 18) (by omega) (fun i i0 i1 => (hfv i i0 (by omega)).1) (l := 1) (by omega) (by omega) (hfv 0 (by omega) (by omega)).1
      have hm1 : -1000 ≤ mnO (u 527 0) (u 26) (u 18) ∧ mnO (u 527 0) (u 26) (u 18) ≤ 1000 := hb1
      have hm2 : -1000 ≤ mxO (u 527 0) (u 26) (u 18) ∧ mxO (u 527 0) (u 26) (u 18) ≤ 1000 := hb2
      have key := fun vl (hvl : vl = if u 533 0 = 0 then 1 else 0) => da_step hI r0 hlt hrr hu.1 hu.2 (pn := u 17 r) (vl := vl) (by rw [u17]; exact hp9.1) hvl rfl rfl rfl rfl
      refine G_aload_n (pc := 75) dX3_drawAll_75 rfl ?_
      refine G_getP (pc := 76) dX3_drawAll_76 fk_X3_22 rfl rfl rfl ?_
      refine G_aload_n (pc := 79) dX3_drawAll_79 rfl ?_
      refine G_getP (pc := 80) dX3_drawAll_80 fk_X3_30 rfl rfl rfl ?_
      refine G_getP (pc := 83) dX3_drawAll_83 fk_X3_89 rfl rfl rfl ?_
      refine G_iload_n (pc := 86) dX3_drawAll_86 rfl ?_
      refine G_iaload (pc := 87) dX3_drawAll_87 rfl rfl (by omega) ?_
      refine G_join (pc := 88) (P := fun v => v = (if u 533 0 = 0 then 1 else 0)) 100 (fun v_100 hv_100 => ?_) (fun j_100 => ?_)
      · refine G_bastore (pc := 100) dX3_drawAll_100 rfl rfl (by rw [u17]; omega) (by rw [hv_100]; split; (exact Or.inr rfl); (exact Or.inl rfl)) ?_
        refine G_aload_n (pc := 101) dX3_drawAll_101 rfl ?_
        refine G_dup (pc := 102) dX3_drawAll_102 rfl ?_
        refine G_getI (pc := 103) dX3_drawAll_103 fk_X3_71 rfl rfl rfl ?_
        try simp (disch := decide) only [su_ne, su_at, su_same, sv_ne, sv_at]
        refine G_aload_n (pc := 106) dX3_drawAll_106 rfl ?_
        refine G_getI (pc := 107) dX3_drawAll_107 fk_X3_96 rfl rfl rfl ?_
        try simp (disch := decide) only [su_ne, su_at, su_same, sv_ne, sv_at]
        refine G_iadd (pc := 110) dX3_drawAll_110 (by rw [u530]; omega) ?_
        refine G_put (pc := 111) dX3_drawAll_111 fk_X3_71 fw_X3_10 rfl rfl rfl (fun h => absurd h (by decide)) ?_
        refine G_aload_n (pc := 114) dX3_drawAll_114 rfl ?_
        refine G_iload_n (pc := 115) dX3_drawAll_115 rfl ?_
        refine G_cV1 (pc := 116) (c_X3_moveBehind _ _ (by rw [su_ne (by decide), su_ne (by decide)]; omega) (by rw [su_ne (by decide), su_ne (by decide), su_ne (by decide), su_ne (by decide)]; intro i i0 i1; have := hor i i0 (by omega); rw [d2 i i0 (by omega)]; omega) (by rw [su_ne (by decide), su_ne (by decide), su_ne (by decide), su_ne (by decide)]; intro i j i0 i1 j0 j1 hh; rw [d2 i i0 (by omega), d2 j j0 (by omega)] at hh; exact hij i j i0 (by omega) j0 (by omega) hh) (by rw [su_ne (by decide), su_ne (by decide), su_ne (by decide), su_ne (by decide), su_ne (by decide), su_ne (by decide), su_ne (by decide), su_ne (by decide)]; intro i i0 i1; exact hfv i i0 (by omega)) (by omega)) dX3_drawAll_116 ml_X3_99 rfl rfl rfl (by decide) (Nat.le_of_ble_eq_true rfl) ?_
        rw [su_ne (by decide), su_ne (by decide), su_ne (by decide), su_ne (by decide), su_ne (by decide), su_ne (by decide), su_ne (by decide), su_ne (by decide)]
        refine G_iconst (pc := 119) dX3_drawAll_119 (by decide) ?_
        refine G_iadd (pc := 120) dX3_drawAll_120 (by omega) ?_
        refine G_istore_n (pc := 121) dX3_drawAll_121 (Nat.le_of_ble_eq_true rfl) rfl ?_
        refine G_iinc (pc := 122) dX3_drawAll_122 rfl rfl (by omega) ?_
        refine G_goto (pc := 125) (tgt := 47) dX3_drawAll_125 rfl ?_
        obtain ⟨y1, y2⟩ := key v_100 hv_100
        refine ih (by omega) _ _ (by omega) y1 ?_
        rw [y2, ← hX, itr_lt (l := r) hlt]
        congr 1
        unfold dS1
        rw [if_pos hrr]
      · refine G_aload_n (pc := 88) dX3_drawAll_88 rfl ?_
        refine G_getI (pc := 89) dX3_drawAll_89 fk_X3_92 rfl rfl rfl ?_
        try simp (disch := decide) only [su_ne, su_at, su_same, sv_ne, sv_at]
        refine G_if_ne (pc := 92) (tgt := 99) dX3_drawAll_92 rfl (fun h_92 => ?_) (fun h_92 => ?_)
        · try simp only [bq0, ne_eq, Classical.not_not] at h_92
          refine G_iconst (pc := 99) dX3_drawAll_99 (by decide) ?_
          exact j_100 _ (by first | rw [if_pos h_92] | rw [if_neg h_92])
        · try simp only [bq0, ne_eq, Classical.not_not] at h_92
          refine G_iconst (pc := 95) dX3_drawAll_95 (by decide) ?_
          refine G_goto (pc := 96) (tgt := 100) dX3_drawAll_96 rfl ?_
          exact j_100 _ (by first | rw [if_pos h_92] | rw [if_neg h_92])
    refine G_iload_n (pc := 47) dX3_drawAll_47 rfl ?_
    refine G_aload_n (pc := 48) dX3_drawAll_48 rfl ?_
    refine G_getP (pc := 49) dX3_drawAll_49 fk_X3_26 rfl rfl rfl ?_
    refine G_getI (pc := 52) dX3_drawAll_52 fk_X3_77 rfl rfl rfl ?_
    rw [s267]
    refine G_icmp_ge (pc := 55) (tgt := 128) dX3_drawAll_55 rfl (fun h_55 => ?_) (fun h_55 => ?_)
    · exact G_return (pc := 128) dX3_drawAll_128 ⟨rfl, hend (by omega)⟩
    · refine G_aload_n (pc := 58) dX3_drawAll_58 rfl ?_
      refine G_getP (pc := 59) dX3_drawAll_59 fk_X3_34 rfl rfl rfl ?_
      refine G_getP (pc := 62) dX3_drawAll_62 fk_X3_82 rfl rfl rfl ?_
      refine G_iload_n (pc := 65) dX3_drawAll_65 rfl ?_
      refine G_baload (pc := 66) dX3_drawAll_66 rfl rfl (by omega) ?_
      refine G_if_ne (pc := 67) (tgt := 122) dX3_drawAll_67 rfl (fun h_67 => ?_) (fun h_67 => ?_)
      · try simp only [bq0, ne_eq, Classical.not_not] at h_67
        refine G_iinc (pc := 122) dX3_drawAll_122 rfl rfl (by omega) ?_
        refine G_goto (pc := 125) (tgt := 47) dX3_drawAll_125 rfl ?_
        obtain ⟨y1, y2⟩ := hskip (by omega) h_67
        exact ih (by omega) s east (by omega) y2 y1
      · try simp only [bq0, ne_eq, Classical.not_not] at h_67
        refine G_aload_n (pc := 70) dX3_drawAll_70 rfl ?_
        refine G_iload_n (pc := 71) dX3_drawAll_71 rfl ?_
        refine G_cVg0 (pc := 72) (c_X3_drawPartOf _ _ (eB t lim) (hB) (⟨r0, by show r < t 267 0; omega⟩)) dX3_drawAll_72 ml_X3_85 rfl rfl rfl (by decide) (Nat.le_of_ble_eq_true rfl) (fun t_72 hq_72 => ?_)
        exact go (by omega) h_67 t_72 hq_72
  refine G_aload_n (pc := 0) dX3_drawAll_0 rfl ?_
  refine G_getP (pc := 1) dX3_drawAll_1 fk_X3_12 rfl rfl rfl ?_
  refine G_aload_n (pc := 4) dX3_drawAll_4 rfl ?_
  refine G_getP (pc := 5) dX3_drawAll_5 fk_X3_26 rfl rfl rfl ?_
  refine G_cVg0 (pc := 8) (c_X6_gather_1 _ (by exact hS)) dX3_drawAll_8 ml_X3_59 rfl rfl rfl (by decide) (Nat.le_of_ble_eq_true rfl) (fun t_8 hq_8 => ?_)
  obtain ⟨F, L, rfl, hTI⟩ := hq_8
  refine G_aload_n (pc := 11) dX3_drawAll_11 rfl ?_
  refine G_aload_n (pc := 12) dX3_drawAll_12 rfl ?_
  refine G_getP (pc := 13) dX3_drawAll_13 fk_X3_30 rfl rfl rfl ?_
  refine G_aload_n (pc := 16) dX3_drawAll_16 rfl ?_
  refine G_getP (pc := 17) dX3_drawAll_17 fk_X3_26 rfl rfl rfl ?_
  refine G_cV1 (pc := 20) (c_X1_find_1 _ (by exact SC_sv rfl (SC_sv rfl hS))) dX3_drawAll_20 ml_X3_62 rfl rfl rfl (by decide) (Nat.le_of_ble_eq_true rfl) ?_
  refine G_put (pc := 23) dX3_drawAll_23 fk_X3_55 fw_X3_9 rfl rfl rfl (fun h => absurd h (by decide)) ?_
  refine G_aload_n (pc := 26) dX3_drawAll_26 rfl ?_
  refine G_iload_n (pc := 27) dX3_drawAll_27 rfl ?_
  refine G_put (pc := 28) dX3_drawAll_28 fk_X3_68 fw_X3_11 rfl rfl rfl (fun h => absurd h (by decide)) ?_
  refine G_aload_n (pc := 31) dX3_drawAll_31 rfl ?_
  refine G_iconst (pc := 32) dX3_drawAll_32 (by decide) ?_
  refine G_put (pc := 33) dX3_drawAll_33 fk_X3_71 fw_X3_10 rfl rfl rfl (fun h => absurd h (by decide)) ?_
  refine G_aload_n (pc := 36) dX3_drawAll_36 rfl ?_
  refine G_getP (pc := 37) dX3_drawAll_37 fk_X3_34 rfl rfl rfl ?_
  refine G_cV0 (pc := 40) (c_X2_clear_3 _ (by simp (disch := decide) only [su_ne, sv_ne]; omega)) dX3_drawAll_40 ml_X3_74 rfl rfl rfl (by decide) (Nat.le_of_ble_eq_true rfl) ?_
  refine G_iconst (pc := 43) dX3_drawAll_43 (by decide) ?_
  refine G_istore_n (pc := 44) dX3_drawAll_44 (Nat.le_of_ble_eq_true rfl) rfl ?_
  refine G_iconst (pc := 45) dX3_drawAll_45 (by decide) ?_
  refine G_istore_n (pc := 46) dX3_drawAll_46 (Nat.le_of_ble_eq_true rfl) rfl ?_
  generalize hT0 : (sv _ 21 _ : Sto) = T0
  have k0 : ∀ w, w ≠ 28 → w ≠ 29 → w ≠ 17 → w ≠ 529 → w ≠ 531 → w ≠ 530 → w ≠ 21 → T0 w = t w := fun w h1 h2 h3 h4 h5 h6 h7 => by rw [← hT0, sv_ne h7, su_ne h6, su_ne h5, su_ne h4, sv_ne h3, sv_ne h2, sv_ne h1]
  have q21 : T0 21 = glue (t 267 0) (fun _ => 0) (t 21) := by rw [← hT0, sv_at]; simp (disch := decide) only [su_ne, sv_ne]
  have q17 : T0 17 = glue (t 267 0) (parS (t 267 0) (t 272 0) (t 13) (t 15)) (t 17) := by rw [← hT0]; simp (disch := decide) only [su_ne, sv_ne, sv_at]
  have q28 : T0 28 = F := by rw [← hT0]; simp (disch := decide) only [su_ne, sv_ne, sv_at]
  have q29 : T0 29 = L := by rw [← hT0]; simp (disch := decide) only [su_ne, sv_ne, sv_at]
  have q529 : T0 529 0 = cntS (t 267 0) (t 272 0) (t 13) (t 15) := by rw [← hT0]; simp (disch := decide) only [su_ne, sv_ne, sv_at, su_at]
  have q530 : T0 530 0 = 0 := by rw [← hT0]; simp (disch := decide) only [su_ne, sv_ne, sv_at, su_at]
  have q531 : T0 531 0 = lim := by rw [← hT0]; simp (disch := decide) only [su_ne, sv_ne, sv_at, su_at]
  refine loop T0 q529 (fun q q0 q1 => by rw [q17, glue_at ⟨q0, q1⟩]) (fun q hq => by rw [q21, glue_out hq]) ?_ 0 (by omega) T0 0 (by omega) ?_ ?_
  · intro w h1 h2 h3 h4 h5 h6
    exact k0 w h3 h4 h2 h5 h6 h1.2.2 h1.1.2.2.2.1
  · refine ⟨⟨?_, ?_, hSE, q531, hl, ?_⟩, by omega, by omega, fun q q0 q1 => ?_, fun q q0 q1 hq => ?_, fun _ _ => rfl, ?_, fun _ _ => rfl⟩
    · rw [k0 267 (by decide) (by decide) (by decide) (by decide) (by decide) (by decide) (by decide), k0 272 (by decide) (by decide) (by decide) (by decide) (by decide) (by decide) (by decide), k0 13 (by decide) (by decide) (by decide) (by decide) (by decide) (by decide) (by decide), k0 14 (by decide) (by decide) (by decide) (by decide) (by decide) (by decide) (by decide), k0 15 (by decide) (by decide) (by decide) (by decide) (by decide) (by decide) (by decide), k0 16 (by decide) (by decide) (by decide) (by decide) (by decide) (by decide) (by decide)]
      exact ⟨rfl, rfl, rfl, rfl, rfl, rfl⟩
    · unfold TIC
      rw [k0 267 (by decide) (by decide) (by decide) (by decide) (by decide) (by decide) (by decide), k0 272 (by decide) (by decide) (by decide) (by decide) (by decide) (by decide) (by decide), k0 13 (by decide) (by decide) (by decide) (by decide) (by decide) (by decide) (by decide), k0 15 (by decide) (by decide) (by decide) (by decide) (by decide) (by decide) (by decide), q28, q29]
      exact hTI
    · rw [k0 22 (by decide) (by decide) (by decide) (by decide) (by decide) (by decide) (by decide), k0 23 (by decide) (by decide) (by decide) (by decide) (by decide) (by decide) (by decide), k0 24 (by decide) (by decide) (by decide) (by decide) (by decide) (by decide) (by decide)]
      exact hN
    · have := lsE_b hSE q0 q1
      have q1' : q < t 267 0 := q1
      rw [q21, glue_at ⟨q0, q1'⟩]
      exact ⟨fun z => absurd rfl z, fun z => by omega⟩
    · have q1' : q < t 267 0 := q1
      rw [q21, glue_at ⟨q0, q1'⟩] at hq
      exact absurd rfl hq
    · rw [k0 18 (by decide) (by decide) (by decide) (by decide) (by decide) (by decide) (by decide), k0 19 (by decide) (by decide) (by decide) (by decide) (by decide) (by decide) (by decide), k0 20 (by decide) (by decide) (by decide) (by decide) (by decide) (by decide) (by decide)]
      exact hM
  · unfold DSC
    rw [k0 18 (by decide) (by decide) (by decide) (by decide) (by decide) (by decide) (by decide), k0 19 (by decide) (by decide) (by decide) (by decide) (by decide) (by decide) (by decide), k0 20 (by decide) (by decide) (by decide) (by decide) (by decide) (by decide) (by decide), k0 27 (by decide) (by decide) (by decide) (by decide) (by decide) (by decide) (by decide), q530]
