/-! TRYING: the class's recursion, walked -/
set_option maxHeartbeats 2000000 in
theorem c_X3_tryHere {e : SE} : ∀ (f : Nat) (t : Sto) (a : Int), TI e a t → (0 ≤ a ∧ a < e.cnt) → e.cnt - a ≤ f → t 533 0 = 0 → ((-(30 * a) ≤ t 650 0 ∧ t 650 0 ≤ 30 * a) ∧ (-(30 * a) ≤ t 651 0 ∧ t 651 0 ≤ 30 * a) ∧ (-(30 * a) ≤ t 652 0 ∧ t 652 0 ≤ 30 * a)) → CT yX3_tryHere cX3_tryHere 5 none (4 + f) [mP 5, mI a] t (fun r t' => r = none ∧ (FR e t t' ∧ accC t' = tryF e f a (pC t) (t 650 0) (t 651 0) (t 652 0) (accC t))) := by
  intro f
  induction f with
  | zero => intro t a h1 h2 h3; exfalso; omega
  | succ f c_X3_tryHere =>
  intro t a hTI ha hf hst hxyz
  refine CT_of rfl rfl (Nat.le_of_ble_eq_true rfl) (fun E ht has => ?_)
  obtain ⟨g1, g2, g3, g4, g5, g6, g7, g8, g9, g10, g11⟩ := id hTI
  have hcn := g2.cnt
  have hn24 := g2.sok.1
  have elim : e.lim = t 531 0 := by rw [← g1]; rfl
  have eord : e.ord = t 26 := by rw [← g1]; rfl
  have ecnt : e.cnt = t 527 0 := by rw [← g1]; rfl
  have hoa := g2.ord a ha.1 ha.2
  have h25a : t 25 (e.ord a) = 0 := by
    by_cases z : t 25 (e.ord a) = 0
    · exact z
    · obtain ⟨i, i0, i1, i2⟩ := (g5 _ hoa.1 hoa.2).mp z
      have := g2.inj i a i0 (by omega) ha.1 ha.2 i2
      omega
  have w17 : t 532 0 < e.lim → G E cX3_tryHere RX3 none (4 + (f + 1)) 61 [some (mP 5), some (mI a), none, none, none] [] (putC_4 (su t 532 0 (t 532 0 + 1)) (e.ord a) (t 650 0) (t 651 0) (t 652 0)) (fun r t' => r = none ∧ (FR e t t' ∧ accC t' = tryF e (f + 1) a (pC t) (t 650 0) (t 651 0) (t 652 0) (accC t))) := by
    intro hlm
    obtain ⟨hT1, hp1, hc1, hw1⟩ := TI_put (x := t 650 0) (y := t 651 0) (l := t 652 0) hTI ha.1 ha.2 hlm hxyz.1 hxyz.2.1 hxyz.2.2
    have q25 : putC_4 (su t 532 0 (t 532 0 + 1)) (e.ord a) (t 650 0) (t 651 0) (t 652 0) 25 = fu (t 25) (e.ord a) 1 := congrArg (fun q : PF => q.1) hp1
    have q22 : putC_4 (su t 532 0 (t 532 0 + 1)) (e.ord a) (t 650 0) (t 651 0) (t 652 0) 22 = fu (t 22) (e.ord a) (t 650 0) := congrArg (fun q : PF => q.2.1) hp1
    have q23 : putC_4 (su t 532 0 (t 532 0 + 1)) (e.ord a) (t 650 0) (t 651 0) (t 652 0) 23 = fu (t 23) (e.ord a) (t 651 0) := congrArg (fun q : PF => q.2.2.1) hp1
    have q24 : putC_4 (su t 532 0 (t 532 0 + 1)) (e.ord a) (t 650 0) (t 651 0) (t 652 0) 24 = fu (t 24) (e.ord a) (t 652 0) := congrArg (fun q : PF => q.2.2.2) hp1
    have hlm' : ¬ e.lim ≤ (accC t).made := by show ¬ e.lim ≤ t 532 0; omega
    generalize putC_4 (su t 532 0 (t 532 0 + 1)) (e.ord a) (t 650 0) (t 651 0) (t 652 0) = u at *
    obtain ⟨k1, k2, k3, k4, k5, k6, k7, k8, k9, k10, k11⟩ := id hT1
    have hN1 : NUM e u := ⟨k8, k9, k10, k11⟩
    have hB1 : BP e.n (30 * a) (pC u) := by
      rw [hp1]
      intro r r0 r1 r2
      by_cases q : r = e.ord a
      · subst q
        obtain ⟨a1, a2, a3, a4⟩ := putF_at (pC t) (e.ord a) (t 650 0) (t 651 0) (t 652 0)
        rw [a2, a3, a4]
        exact hxyz
      · obtain ⟨a1, a2, a3, a4⟩ := putF_ne (pC t) q (t 650 0) (t 651 0) (t 652 0)
        rw [a1] at r2
        rw [a2, a3, a4]
        exact g6 r r0 r1 r2
    have hst1 : u 533 0 = 0 := by rw [hw1 533 (by decide) (by decide) (by decide) (by decide) (by decide)]; exact hst
    -- the end: the room is lifted
    have fin : ∀ (s : Sto) (o2 o3 o4 : Option MV), FR e u s → accC s = tryF e (f + 1) a (pC t) (t 650 0) (t 651 0) (t 652 0) (accC t) → G E cX3_tryHere RX3 none (4 + (f + 1)) 167 [some (mP 5), some (mI a), o2, o3, o4] [] s (fun r t' => r = none ∧ (FR e t t' ∧ accC t' = tryF e (f + 1) a (pC t) (t 650 0) (t 651 0) (t 652 0) (accC t))) := by
      intro s o2 o3 o4 hF hA
      have s26 : s 26 = e.ord := by rw [hF.2.2.1 26 (by unfold keptW; decide), hw1 26 (by decide) (by decide) (by decide) (by decide) (by decide), eord]
      have hpost : FR e t (su s 25 (e.ord a) 0) ∧ accC (su s 25 (e.ord a) 0) = tryF e (f + 1) a (pC t) (t 650 0) (t 651 0) (t 652 0) (accC t) := by
        refine ⟨⟨?_, ?_, ?_, ?_⟩, ?_⟩
        · rw [su_row, sv_at, hF.1, q25]
          funext r
          by_cases z : r = e.ord a
          · rw [z, fu_at, h25a]
          · rw [fu_ne z, fu_ne z]
        · intro r hr
          have z : r ≠ e.ord a := fun z => hr (by rw [z]; exact h25a)
          have := hF.2.1 r (by rw [q25, fu_ne z]; exact hr)
          rw [q22, q23, q24, fu_ne z, fu_ne z, fu_ne z] at this
          rw [su_ne (by decide), su_ne (by decide), su_ne (by decide)]
          exact this
        · intro w hw
          rw [su_ne hw.2.2.2.2.2.2.1, hF.2.2.1 w hw, hw1 w hw.2.2.2.1 hw.2.2.2.2.1 hw.2.2.2.2.2.1 hw.2.2.2.2.2.2.1 hw.2.2.2.2.2.2.2.1]
        · unfold NUM
          rw [su_ne (by decide), su_ne (by decide), su_ne (by decide), su_ne (by decide), su_ne (by decide), su_ne (by decide)]
          exact hF.2.2.2
        · rw [← hA]
          unfold accC
          rw [su_ne (by decide), su_ne (by decide), su_ne (by decide), su_ne (by decide), su_ne (by decide), su_ne (by decide)]
      refine G_aload_n (pc := 167) dX3_tryHere_167 rfl ?_
      refine G_getP (pc := 168) dX3_tryHere_168 fk_X3_43 rfl rfl rfl ?_
      refine G_aload_n (pc := 171) dX3_tryHere_171 rfl ?_
      refine G_getP (pc := 172) dX3_tryHere_172 fk_X3_18 rfl rfl rfl ?_
      refine G_iload_n (pc := 175) dX3_tryHere_175 rfl ?_
      refine G_iaload (pc := 176) dX3_tryHere_176 rfl rfl (by omega) ?_
      rw [s26]
      refine G_cV0 (pc := 177) (c_X2_lift_4 _ _ (by omega)) dX3_tryHere_177 ml_X3_170 rfl rfl rfl (by omega) (Nat.le_of_ble_eq_true rfl) ?_
      exact G_return (pc := 180) dX3_tryHere_180 ⟨rfl, hpost⟩
    -- from a state of the loop, the next room is tried
    have u26 : u 26 = e.ord := by rw [hw1 26 (by decide) (by decide) (by decide) (by decide) (by decide), eord]
    have u527 : u 527 0 = e.cnt := by rw [hw1 527 (by decide) (by decide) (by decide) (by decide) (by decide), ecnt]
    have hSC : ∀ s, FR e u s → SC s ∧ TIC s ∧ s 267 0 = e.n ∧ s 272 0 = e.k ∧ s 13 = e.fr ∧ s 14 = e.di ∧ s 15 = e.to ∧ s 28 = u 28 ∧ s 29 = u 29 := by
      intro s hF
      have hT := FR_TI hT1 hF
      have e1 := hT.1
      have hS : SOE (eC s) := by rw [e1]; exact g2.sok
      refine ⟨hS, hT.2.2.2.1, ?_, ?_, ?_, ?_, ?_, hF.2.2.1 28 (by unfold keptW; decide), hF.2.2.1 29 (by unfold keptW; decide)⟩
      · rw [← e1]; rfl
      · rw [← e1]; rfl
      · rw [← e1]; rfl
      · rw [← e1]; rfl
      · rw [← e1]; rfl
    have main : a + 1 < e.cnt → ∀ o3 o4 : Option MV, G E cX3_tryHere RX3 none (4 + (f + 1)) 80 [some (mP 5), some (mI a), some (mI (e.ord (a + 1))), o3, o4] [] u (fun r t' => r = none ∧ (FR e t t' ∧ accC t' = tryF e (f + 1) a (pC t) (t 650 0) (t 651 0) (t 652 0) (accC t))) := by
      intro hac o3 o4
      have hr := g2.ord (a + 1) (by omega) hac
      have hit := fun hfm => tryF_it (f := f) (x := t 650 0) (y := t 651 0) (l := t 652 0) hp1 hc1 hlm' hac hfm
      have hsp := fun hfm => tryF_sp (f := f) (x := t 650 0) (y := t 651 0) (l := t 652 0) hp1 hc1 hlm' hac hfm
      have hnb := PLC_nb g2 (by omega) hac k5
      generalize hrr : e.ord (a + 1) = r at *
      have hTI0 : TIf e.n e.k e.fr e.to (u 28) (u 29) := by
        obtain ⟨-, z2, z3, z4, z5, z6, z7, -⟩ := hSC u (FR_refl hN1)
        rw [← z3, ← z4, ← z5, ← z7]
        exact z2
      obtain ⟨u1, u2, u3⟩ := mu_ok hTI0 hr.1 hr.2
      have hTr := (hTI0 r hr.1 hr.2).1
      have hmu := itr_mu (F := stF e f a (pC u)) (μ := muT (u 28) (u 29) r) (B := 3 * (u 28 (r + 1) - u 28 r)) (K := 3 * e.k) (fun c c0 c1 => (u1 c c0 c1).1) u2 (by omega) (fun m m0 m1 hno c => by
        unfold stF
        rw [if_neg]
        rintro ⟨-, z⟩
        obtain ⟨d, d0, d1, d2⟩ := u3 m m0 m1 (by rw [hrr] at z; exact z.1.1)
        exact hno d d0 d1 d2) 0 (by omega) 0 (accC u) (by omega) (by omega) (by omega) (fun d d0 d1 => by omega) (fun d d0 d1 => (u1 d d0 d1).1.1)
      have nx : ∀ (s : Sto) (px py pl : Int), FR e u s → ∀ t', (FR e (pos3 s px py pl) t' ∧ accC t' = tryF e f (a + 1) (pC (pos3 s px py pl)) (pos3 s px py pl 650 0) (pos3 s px py pl 651 0) (pos3 s px py pl 652 0) (accC (pos3 s px py pl))) → FR e u t' ∧ accC t' = tryF e f (a + 1) (pC u) px py pl (accC s) := by
        intro s px py pl hF t' ⟨h1, h2⟩
        have hF2 : FR e u (pos3 s px py pl) := FR_trans hF (FR_pos hF.2.2.2 px py pl)
        refine ⟨FR_trans hF2 h1, ?_⟩
        obtain ⟨b1, b2, b3⟩ := pos3_at s px py pl
        rw [h2, b1, b2, b3, acc_pos]
        exact (tryF_congr g2 f (a + 1) _ _ px py pl _ (by omega) hac (FR_AG e.n hF2) k5).symm
      have hpre : ∀ (s : Sto) (px py pl : Int), FR e u s → TI e (a + 1) (pos3 s px py pl) ∧ pos3 s px py pl 533 0 = s 533 0 := by
        intro s px py pl hF
        exact ⟨FR_TI hT1 (FR_trans hF (FR_pos hF.2.2.2 px py pl)), by rw [pos3_ne s px py pl (by decide)]⟩
      have hAs : ∀ s, FR e u s → AG e.n (pC u) (pC s) := fun s hF => FR_AG e.n hF
      have ex : ∀ (s : Sto) (h : Int) (o4 : Option MV), FR e u s → (h = 0 → accC s = accC u ∧ ¬ 0 ≤ fmE e (pC u) r) → (h ≠ 0 → accC s = tryF e (f + 1) a (pC t) (t 650 0) (t 651 0) (t 652 0) (accC t)) → G E cX3_tryHere RX3 none (4 + (f + 1)) 137 [some (mP 5), some (mI a), some (mI r), some (mI h), o4] [] s (fun r t' => r = none ∧ (FR e t t' ∧ accC t' = tryF e (f + 1) a (pC t) (t 650 0) (t 651 0) (t 652 0) (accC t))) := by
        intro s h o4 hF h0 h1
        obtain ⟨z1, z2, z3, z4, z5, z6, z7, z8, z9⟩ := hSC s hF
        have hN := hF.2.2.2
        have hA := hAs s hF
        have hnbs : 0 ≤ nbE e (pC s) r := by rw [← AG_nb g2.sok hA]; exact hnb
        have hsb := sp_b g2.sok (BP_AG hB1 hA) hnbs
        have esp := AG_sp g2.sok hA (r := r) hnb
        have eX : spX (s 267 0) (s 272 0) (s 13) (s 15) (s 25) (s 22) (s 23) (s 24) r = sXE e (pC s) r := by rw [z3, z4, z5, z7]; rfl
        have eY : spY (s 267 0) (s 272 0) (s 13) (s 15) (s 25) (s 22) (s 23) (s 24) r = sYE e (pC s) r := by rw [z3, z4, z5, z7]; rfl
        have eL : spL (s 272 0) (s 13) (s 15) (s 25) (s 24) r = sLE e (pC s) r := by rw [z4, z5, z7]; rfl
        have hs0 : h = 0 → s 533 0 = 0 := fun z => by
          have := congrArg (fun c : AC => c.stp) (h0 z).1
          have e2 : s 533 0 = u 533 0 := this
          omega
        refine G_iload_n (pc := 137) dX3_tryHere_137 rfl ?_
        refine G_if_ne (pc := 138) (tgt := 160) dX3_tryHere_138 rfl (fun h_138 => ?_) (fun h_138 => ?_)
        · try simp only [bq0, ne_eq, Classical.not_not] at h_138
          refine G_goto (pc := 160) (tgt := 167) dX3_tryHere_160 rfl ?_
          first | exact fin _ _ _ _ hF (h1 h_138) | exact fin _ _ _ _ (nx s _ _ _ hF _ hq_157).1 (by rw [(nx s _ _ _ hF _ hq_157).2, hsp (h0 h_138).2, (h0 h_138).1, esp.1, esp.2.1, esp.2.2])
        · try simp only [bq0, ne_eq, Classical.not_not] at h_138
          refine G_aload_n (pc := 141) dX3_tryHere_141 rfl ?_
          refine G_getP (pc := 142) dX3_tryHere_142 fk_X3_51 rfl rfl rfl ?_
          refine G_aload_n (pc := 145) dX3_tryHere_145 rfl ?_
          refine G_getP (pc := 146) dX3_tryHere_146 fk_X3_43 rfl rfl rfl ?_
          refine G_iload_n (pc := 149) dX3_tryHere_149 rfl ?_
          refine G_cV0 (pc := 150) (c_X0_lookAtSpare_4 _ _ (by exact z1) (by exact z2) (by rw [z3]; exact hr) (by rw [z4, z5, z7]; exact hnbs) (by exact BN_BD hN.1.1 (by decide)) (by exact BN_BD hN.1.2.1 (by decide)) (by exact BN_BD hN.1.2.2 (by decide))) dX3_tryHere_150 ml_X3_164 rfl rfl rfl (by omega) (Nat.le_of_ble_eq_true rfl) ?_
          rw [eX, eY, eL]
          refine G_aload_n (pc := 153) dX3_tryHere_153 rfl ?_
          refine G_iload_n (pc := 154) dX3_tryHere_154 rfl ?_
          refine G_iconst (pc := 155) dX3_tryHere_155 (by decide) ?_
          refine G_iadd (pc := 156) dX3_tryHere_156 (by omega) ?_
          refine G_cVg0 (pc := 157) (c_X3_tryHere _ _ (by exact (hpre s _ _ _ hF).1) (by omega) (by omega) (by rw [(hpre s _ _ _ hF).2]; exact hs0 h_138) (by obtain ⟨b1, b2, b3⟩ := pos3_at s (sXE e (pC s) r) (sYE e (pC s) r) (sLE e (pC s) r); rw [b1, b2, b3]; omega)) dX3_tryHere_157 ml_X3_134 rfl rfl rfl (by omega) (Nat.le_of_ble_eq_true rfl) (fun t_157 hq_157 => ?_)
          refine G_goto (pc := 160) (tgt := 167) dX3_tryHere_160 rfl ?_
          first | exact fin _ _ _ _ hF (h1 h_138) | exact fin _ _ _ _ (nx s _ _ _ hF _ hq_157).1 (by rw [(nx s _ _ _ hF _ hq_157).2, hsp (h0 h_138).2, (h0 h_138).1, esp.1, esp.2.1, esp.2.2])
      have hfm1 : ∀ c, 0 ≤ c → c < 3 * (u 28 (r + 1) - u 28 r) → cdE e (pC u) r (muT (u 28) (u 29) r c) → 0 ≤ fmE e (pC u) r := by
        intro c c0 c1 hc
        unfold fmE
        rcases fst_spec (cdE e (pC u) r) 0 (3 * e.k) with ⟨a1, a2⟩ | ⟨a1, -⟩
        · exact absurd hc (a2 _ (u1 c c0 c1).1.1 (u1 c c0 c1).1.2)
        · exact a1
      have hfm0 : (∀ d, 0 ≤ d → d < 3 * (u 28 (r + 1) - u 28 r) → ¬ cdE e (pC u) r (muT (u 28) (u 29) r d)) → ¬ 0 ≤ fmE e (pC u) r := by
        intro hno
        unfold fmE
        rcases fst_spec (cdE e (pC u) r) 0 (3 * e.k) with ⟨a1, a2⟩ | ⟨a1, a2, a3, -⟩
        · omega
        · obtain ⟨d, d0, d1, d2⟩ := u3 _ a1 a2 a3.1.1
          exact absurd (by rw [d2]; exact a3) (hno d d0 d1)
      have loop : ∀ c, c ≤ 3 * (u 28 (r + 1) - u 28 r) → ∀ (s : Sto) (h : Int), 0 ≤ c → FR e u s → itr (fun c => stF e f a (pC u) (muT (u 28) (u 29) r c)) c (3 * (u 28 (r + 1) - u 28 r)) (accC s) = itr (fun c => stF e f a (pC u) (muT (u 28) (u 29) r c)) 0 (3 * (u 28 (r + 1) - u 28 r)) (accC u) → ((h = 0 ∧ accC s = accC u ∧ ∀ d, 0 ≤ d → d < c → ¬ cdE e (pC u) r (muT (u 28) (u 29) r d)) ∨ (h = 1 ∧ 0 ≤ fmE e (pC u) r)) → G E cX3_tryHere RX3 none (4 + (f + 1)) 85 [some (mP 5), some (mI a), some (mI r), some (mI h), some (mI c)] [] s (fun r t' => r = none ∧ (FR e t t' ∧ accC t' = tryF e (f + 1) a (pC t) (t 650 0) (t 651 0) (t 652 0) (accC t))) := by
        refine up_ind (fun c hc ih s h c0 hF hX hh => ?_)
        obtain ⟨z1, z2, z3, z4, z5, z6, z7, z8, z9⟩ := hSC s hF
        have hN := hF.2.2.2
        have hA := hAs s hF
        have hstp : (accC s).stp = s 533 0 := rfl
        have e2 : accC s = accC u → s 533 0 = u 533 0 := fun z => congrArg (fun c : AC => c.stp) z
        refine G_iload (pc := 85) dX3_tryHere_85 rfl ?_
        refine G_aload_n (pc := 87) dX3_tryHere_87 rfl ?_
        refine G_getP (pc := 88) dX3_tryHere_88 fk_X3_51 rfl rfl rfl ?_
        refine G_iload_n (pc := 91) dX3_tryHere_91 rfl ?_
        refine G_cV1 (pc := 92) (c_X0_bound _ _ (by rw [z8]; omega)) dX3_tryHere_92 ml_X3_157 rfl rfl rfl (by omega) (Nat.le_of_ble_eq_true rfl) ?_
        rw [z8]
        refine G_icmp_ge (pc := 95) (tgt := 137) dX3_tryHere_95 rfl (fun h_95 => ?_) (fun h_95 => ?_)
        · have hA9 : accC s = itr (fun c => stF e f a (pC u) (muT (u 28) (u 29) r c)) 0 (3 * (u 28 (r + 1) - u 28 r)) (accC u) := by rw [← hX, itr_ge (by omega)]
          refine ex s h _ hF ?_ ?_
          · intro hz
            rcases hh with ⟨-, y1, y2⟩ | ⟨y1, -⟩
            · first | exact absurd (by rw [e2 y1]; exact hst1) h_102 | exact ⟨y1, hfm0 (fun d d0 d1 => y2 d d0 (by omega))⟩
            · omega
          · intro hz
            rcases hh with ⟨y1, -⟩ | ⟨y1, y2⟩
            · exact absurd y1 hz
            · rw [hit y2, hmu, hA9]
        · refine G_aload_n (pc := 98) dX3_tryHere_98 rfl ?_
          refine G_getI (pc := 99) dX3_tryHere_99 fk_X3_92 rfl rfl rfl ?_
          refine G_if_ne (pc := 102) (tgt := 137) dX3_tryHere_102 rfl (fun h_102 => ?_) (fun h_102 => ?_)
          · try simp only [bq0, ne_eq, Classical.not_not] at h_102
            have hA9 : accC s = itr (fun c => stF e f a (pC u) (muT (u 28) (u 29) r c)) 0 (3 * (u 28 (r + 1) - u 28 r)) (accC u) := by rw [← hX, itr_stop (fun l => by unfold stF; rw [if_neg (fun z => h_102 z.1)]) c hc]
            refine ex s h _ hF ?_ ?_
            · intro hz
              rcases hh with ⟨-, y1, y2⟩ | ⟨y1, -⟩
              · first | exact absurd (by rw [e2 y1]; exact hst1) h_102 | exact ⟨y1, hfm0 (fun d d0 d1 => y2 d d0 (by omega))⟩
              · omega
            · intro hz
              rcases hh with ⟨y1, -⟩ | ⟨y1, y2⟩
              · exact absurd y1 hz
              · rw [hit y2, hmu, hA9]
          · try simp only [bq0, ne_eq, Classical.not_not] at h_102
            refine G_aload_n (pc := 105) dX3_tryHere_105 rfl ?_
            refine G_getP (pc := 106) dX3_tryHere_106 fk_X3_51 rfl rfl rfl ?_
            refine G_aload_n (pc := 109) dX3_tryHere_109 rfl ?_
            refine G_getP (pc := 110) dX3_tryHere_110 fk_X3_43 rfl rfl rfl ?_
            refine G_iload_n (pc := 113) dX3_tryHere_113 rfl ?_
            refine G_iload (pc := 114) dX3_tryHere_114 rfl ?_
            refine G_cVg1 (pc := 116) (c_X0_lookAtChance_4 _ _ _ (by exact z1) (by exact z2) (by rw [z3]; exact hr) (by rw [z8]; omega) (by exact BN_BD hN.1.1 (by decide)) (by exact BN_BD hN.1.2.1 (by decide)) (by exact BN_BD hN.1.2.2 (by decide))) dX3_tryHere_116 ml_X3_160 rfl rfl rfl (by omega) (Nat.le_of_ble_eq_true rfl) (fun r_116 t_116 hq_116 => ?_)
            have hm := (u1 c c0 (by omega)).1
            rw [z3, z5, z6, z7, z8, z9] at hq_116
            obtain ⟨hx01, hxi, px, py, pl, rfl, hpp⟩ := hq_116
            have hxi' : r_116 = 1 ↔ cdE e (pC u) r (muT (u 28) (u 29) r c) := hxi.trans (AG_cd g2.sok hA hm.1 hm.2).symm
            refine G_if_eq (pc := 119) (tgt := 131) dX3_tryHere_119 rfl (fun h_119 => ?_) (fun h_119 => ?_)
            · try simp only [bq0, ne_eq, Classical.not_not] at h_119
              have hno : ¬ cdE e (pC u) r (muT (u 28) (u 29) r c) := fun z => by have := hxi'.mpr z; omega
              refine G_iinc (pc := 131) dX3_tryHere_131 rfl rfl (by omega) ?_
              refine G_goto (pc := 134) (tgt := 85) dX3_tryHere_134 rfl ?_
              first | (refine ih (by omega) _ _ (by omega) (nx s _ _ _ hF _ hq_128).1 ?_ (Or.inr ⟨rfl, hfm1 c c0 (by omega) hyes⟩)) | (refine ih (by omega) _ _ (by omega) (FR_trans hF (FR_pos hN px py pl)) ?_ ?_)
              · rw [← hX, itr_lt (l := c) (by omega)]
                congr 1
                first | (rw [acc_pos]; unfold stF; rw [if_neg (fun z => hno (by rw [hrr] at z; exact z.2))]) | (rw [(nx s _ _ _ hF _ hq_128).2]; unfold stF; rw [hrr, if_pos ⟨h_102, hyes⟩, hp1'.1, hp1'.2.1, hp1'.2.2, hce.1, hce.2.1, hce.2.2])
              all_goals (rcases hh with ⟨y1, y2, y3⟩ | ⟨y1, y2⟩; (exact Or.inl ⟨y1, by rw [acc_pos]; exact y2, fun d d0 d1 => by rcases (show d < c ∨ d = c by omega) with q | q; (exact y3 d d0 q); (rw [q]; exact hno)⟩); (exact Or.inr ⟨y1, y2⟩))
            · try simp only [bq0, ne_eq, Classical.not_not] at h_119
              have hx1 : r_116 = 1 := by omega
              have hyes := hxi'.mp hx1
              have hcb := cd_b g2.sok hm.1 hm.2 (BP_AG hB1 hA) (hxi.mp hx1)
              have hce := AG_ch g2.sok hA hm.1 hm.2 hyes.1.2.1
              have hp1' : px = cXE e (pC s) r (muT (u 28) (u 29) r c) ∧ py = cYE e (pC s) r (muT (u 28) (u 29) r c) ∧ pl = cLE e (pC s) r (muT (u 28) (u 29) r c) := hpp hx1
              refine G_iconst (pc := 122) dX3_tryHere_122 (by decide) ?_
              refine G_istore_n (pc := 123) dX3_tryHere_123 (Nat.le_of_ble_eq_true rfl) rfl ?_
              refine G_aload_n (pc := 124) dX3_tryHere_124 rfl ?_
              refine G_iload_n (pc := 125) dX3_tryHere_125 rfl ?_
              refine G_iconst (pc := 126) dX3_tryHere_126 (by decide) ?_
              refine G_iadd (pc := 127) dX3_tryHere_127 (by omega) ?_
              refine G_cVg0 (pc := 128) (c_X3_tryHere _ _ (by exact (hpre s _ _ _ hF).1) (by omega) (by omega) (by rw [(hpre s _ _ _ hF).2]; exact h_102) (by obtain ⟨b1, b2, b3⟩ := pos3_at s px py pl; rw [b1, b2, b3, hp1'.1, hp1'.2.1, hp1'.2.2]; omega)) dX3_tryHere_128 ml_X3_134 rfl rfl rfl (by omega) (Nat.le_of_ble_eq_true rfl) (fun t_128 hq_128 => ?_)
              refine G_iinc (pc := 131) dX3_tryHere_131 rfl rfl (by omega) ?_
              refine G_goto (pc := 134) (tgt := 85) dX3_tryHere_134 rfl ?_
              first | (refine ih (by omega) _ _ (by omega) (nx s _ _ _ hF _ hq_128).1 ?_ (Or.inr ⟨rfl, hfm1 c c0 (by omega) hyes⟩)) | (refine ih (by omega) _ _ (by omega) (FR_trans hF (FR_pos hN px py pl)) ?_ ?_)
              · rw [← hX, itr_lt (l := c) (by omega)]
                congr 1
                first | (rw [acc_pos]; unfold stF; rw [if_neg (fun z => hno (by rw [hrr] at z; exact z.2))]) | (rw [(nx s _ _ _ hF _ hq_128).2]; unfold stF; rw [hrr, if_pos ⟨h_102, hyes⟩, hp1'.1, hp1'.2.1, hp1'.2.2, hce.1, hce.2.1, hce.2.2])
              all_goals (rcases hh with ⟨y1, y2, y3⟩ | ⟨y1, y2⟩; (exact Or.inl ⟨y1, by rw [acc_pos]; exact y2, fun d d0 d1 => by rcases (show d < c ∨ d = c by omega) with q | q; (exact y3 d d0 q); (rw [q]; exact hno)⟩); (exact Or.inr ⟨y1, y2⟩))
      refine G_iconst (pc := 80) dX3_tryHere_80 (by decide) ?_
      refine G_istore_n (pc := 81) dX3_tryHere_81 (Nat.le_of_ble_eq_true rfl) rfl ?_
      refine G_iconst (pc := 82) dX3_tryHere_82 (by decide) ?_
      refine G_istore (pc := 83) dX3_tryHere_83 (Nat.le_of_ble_eq_true rfl) rfl ?_
      exact loop 0 (by omega) u 0 (by omega) (FR_refl hN1) rfl (Or.inl ⟨rfl, rfl, fun d d0 d1 => by omega⟩)
    have hS9 := hSC u (FR_refl hN1)
    refine G_iload_n (pc := 61) dX3_tryHere_61 rfl ?_
    refine G_iconst (pc := 62) dX3_tryHere_62 (by decide) ?_
    refine G_iadd (pc := 63) dX3_tryHere_63 (by omega) ?_
    refine G_aload_n (pc := 64) dX3_tryHere_64 rfl ?_
    refine G_getI (pc := 65) dX3_tryHere_65 fk_X3_103 rfl rfl rfl ?_
    rw [u527]
    refine G_icmp_ge (pc := 68) (tgt := 163) dX3_tryHere_68 rfl (fun h_68 => ?_) (fun h_68 => ?_)
    · refine G_aload_n (pc := 163) dX3_tryHere_163 rfl ?_
      refine G_cV0 (pc := 164) (c_X3_weighTrial _ (by exact hS9.1) (by rw [u527]; omega) (by intro i i0 i1; rw [u26]; have := g2.ord i i0 (by omega); omega) (by exact BN_BD k8.1 (by decide)) (by exact BN_BD k8.2.1 (by decide)) (by exact BN_BD k8.2.2 (by decide))) dX3_tryHere_164 ml_X3_167 rfl rfl rfl (by omega) (Nat.le_of_ble_eq_true rfl) ?_
      obtain ⟨y1, y2⟩ := wgh_C k1 g2.sok k7 hN1 _ rfl
      exact fin _ _ _ _ y2 (by rw [y1, tryF_wg hp1 hc1 hlm' (by omega)])
    · refine G_aload_n (pc := 71) dX3_tryHere_71 rfl ?_
      refine G_getP (pc := 72) dX3_tryHere_72 fk_X3_18 rfl rfl rfl ?_
      refine G_iload_n (pc := 75) dX3_tryHere_75 rfl ?_
      refine G_iconst (pc := 76) dX3_tryHere_76 (by decide) ?_
      refine G_iadd (pc := 77) dX3_tryHere_77 (by omega) ?_
      refine G_iaload (pc := 78) dX3_tryHere_78 rfl rfl (by omega) ?_
      rw [u26]
      refine G_istore_n (pc := 79) dX3_tryHere_79 (Nat.le_of_ble_eq_true rfl) rfl ?_
      exact main (by omega) _ _
  refine G_aload_n (pc := 0) dX3_tryHere_0 rfl ?_
  refine G_getI (pc := 1) dX3_tryHere_1 fk_X3_96 rfl rfl rfl ?_
  refine G_aload_n (pc := 4) dX3_tryHere_4 rfl ?_
  refine G_getI (pc := 5) dX3_tryHere_5 fk_X3_68 rfl rfl rfl ?_
  refine G_icmp_lt (pc := 8) (tgt := 17) dX3_tryHere_8 rfl (fun h_8 => ?_) (fun h_8 => ?_)
  · refine G_aload_n (pc := 17) dX3_tryHere_17 rfl ?_
    refine G_dup (pc := 18) dX3_tryHere_18 rfl ?_
    refine G_getI (pc := 19) dX3_tryHere_19 fk_X3_96 rfl rfl rfl ?_
    refine G_iconst (pc := 22) dX3_tryHere_22 (by decide) ?_
    refine G_iadd (pc := 23) dX3_tryHere_23 (by omega) ?_
    refine G_put (pc := 24) dX3_tryHere_24 fk_X3_96 fw_X3_12 rfl rfl rfl (fun h => absurd h (by decide)) ?_
    refine G_aload_n (pc := 27) dX3_tryHere_27 rfl ?_
    refine G_getP (pc := 28) dX3_tryHere_28 fk_X3_43 rfl rfl rfl ?_
    refine G_aload_n (pc := 31) dX3_tryHere_31 rfl ?_
    refine G_getP (pc := 32) dX3_tryHere_32 fk_X3_18 rfl rfl rfl ?_
    refine G_iload_n (pc := 35) dX3_tryHere_35 rfl ?_
    refine G_iaload (pc := 36) dX3_tryHere_36 rfl rfl (by omega) ?_
    try simp (disch := decide) only [su_ne, su_at, su_same, sv_ne, sv_at]
    rw [← eord]
    refine G_aload_n (pc := 37) dX3_tryHere_37 rfl ?_
    refine G_getP (pc := 38) dX3_tryHere_38 fk_X3_51 rfl rfl rfl ?_
    refine G_getI (pc := 41) dX3_tryHere_41 fk_X3_145 rfl rfl rfl ?_
    try simp (disch := decide) only [su_ne, su_at, su_same, sv_ne, sv_at]
    refine G_aload_n (pc := 44) dX3_tryHere_44 rfl ?_
    refine G_getP (pc := 45) dX3_tryHere_45 fk_X3_51 rfl rfl rfl ?_
    refine G_getI (pc := 48) dX3_tryHere_48 fk_X3_147 rfl rfl rfl ?_
    try simp (disch := decide) only [su_ne, su_at, su_same, sv_ne, sv_at]
    refine G_aload_n (pc := 51) dX3_tryHere_51 rfl ?_
    refine G_getP (pc := 52) dX3_tryHere_52 fk_X3_51 rfl rfl rfl ?_
    refine G_getI (pc := 55) dX3_tryHere_55 fk_X3_150 rfl rfl rfl ?_
    try simp (disch := decide) only [su_ne, su_at, su_same, sv_ne, sv_at]
    refine G_cV0 (pc := 58) (c_X2_put_4 _ _ _ _ _ (by omega)) dX3_tryHere_58 ml_X3_121 rfl rfl rfl (by omega) (Nat.le_of_ble_eq_true rfl) ?_
    exact w17 (by omega)
  · refine G_aload_n (pc := 11) dX3_tryHere_11 rfl ?_
    refine G_iconst (pc := 12) dX3_tryHere_12 (by decide) ?_
    refine G_put (pc := 13) dX3_tryHere_13 fk_X3_92 fw_X3_13 rfl rfl rfl (fun _ => by exact Or.inr rfl) ?_
    exact G_return (pc := 16) dX3_tryHere_16 ⟨rfl, ⟨⟨su_ne (by decide), fun r _ => by rw [su_ne (by decide), su_ne (by decide), su_ne (by decide)]; exact ⟨rfl, rfl, rfl⟩, fun w hw => su_ne hw.2.2.2.2.2.2.2.2.1, ⟨by rw [su_ne (by decide), su_ne (by decide), su_ne (by decide)]; exact g8, by rw [su_ne (by decide)]; exact g9, by rw [su_ne (by decide)]; exact g10, by rw [su_at]; exact Or.inr rfl⟩⟩, by rw [tryF_lim (by show e.lim ≤ t 532 0; omega)]; unfold accC; rw [su_at, su_ne (by decide), su_ne (by decide), su_ne (by decide), su_ne (by decide), su_ne (by decide)]⟩⟩
