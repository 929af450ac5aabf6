/-! BOTH SIDES: drawing and growing -/
theorem J_draw {t : Sto} (h : JI t) (lim : Int) : PAIR yX8_draw cX8_draw 2 31 yX9_draw cX9_draw 4 7 [mI lim] t := by
  obtain ⟨⟨⟨e1, e2, e3, e4, e5, e6⟩, ⟨e7, e8, e9⟩, ⟨e10, e11, e12, e13⟩, e14, e15, e16⟩, ⟨v1, v2, v3, v4, v5, v6, v7, v8⟩, ⟨n1, n2⟩⟩ := id h
  refine ⟨_, c_X8_draw t lim (JI_SC h) n1 v7, fun r1 t1 hq => ?_⟩
  obtain ⟨x, rfl, hq⟩ := hq
  rcases hq with ⟨hr, rfl, rfl⟩ | ⟨hr, ⟨⟨ea, c1⟩, c2, c3, c4, c5, c6, c7, hk⟩, hx⟩
  · refine ⟨_, rfl, _, c_X9_draw t1 lim (eB t1 lim) ⟨e1, e2, e3, e4, e5, e6⟩ (JI_SC h) rfl (JI_pM h) (JI_QM h) n2, fun r2 t2 hq2 => ?_⟩
    obtain ⟨x, rfl, hq2⟩ := hq2
    rcases hq2 with ⟨-, rfl, rfl⟩ | ⟨hr2, -⟩
    · exact ⟨rfl, h⟩
    · exact absurd hr2 hr
  · have hM1 : EM (eB t lim) t1 := by
      unfold EM
      rw [hk 2184 (by unfold keptA keptD; decide) (by decide) (by decide) (by decide) (by decide) (by decide), hk 2188 (by unfold keptA keptD; decide) (by decide) (by decide) (by decide) (by decide) (by decide), hk 35 (by unfold keptA keptD; decide) (by decide) (by decide) (by decide) (by decide) (by decide), hk 36 (by unfold keptA keptD; decide) (by decide) (by decide) (by decide) (by decide) (by decide), hk 37 (by unfold keptA keptD; decide) (by decide) (by decide) (by decide) (by decide) (by decide), hk 38 (by unfold keptA keptD; decide) (by decide) (by decide) (by decide) (by decide) (by decide)]
      exact ⟨e1, e2, e3, e4, e5, e6⟩
    have hQ1 : BN 60000 (t1 40) ∧ BN 60000 (t1 41) ∧ BN 60000 (t1 42) := by
      rw [hk 40 (by unfold keptA keptD; decide) (by decide) (by decide) (by decide) (by decide) (by decide), hk 41 (by unfold keptA keptD; decide) (by decide) (by decide) (by decide) (by decide) (by decide), hk 42 (by unfold keptA keptD; decide) (by decide) (by decide) (by decide) (by decide) (by decide)]
      exact JI_QM h
    have hN1 : BNM t1 := by
      unfold BNM
      rw [hk 47 (by unfold keptA keptD; decide) (by decide) (by decide) (by decide) (by decide) (by decide), hk 48 (by unfold keptA keptD; decide) (by decide) (by decide) (by decide) (by decide) (by decide), hk 49 (by unfold keptA keptD; decide) (by decide) (by decide) (by decide) (by decide) (by decide)]
      exact n2
    have hp1 : ∀ r, t1 39 r = 0 ∨ t1 39 r = 1 := by
      rw [hk 39 (by unfold keptA keptD; decide) (by decide) (by decide) (by decide) (by decide) (by decide)]
      exact JI_pM h
    refine ⟨_, rfl, _, c_X9_draw t1 lim (eB t lim) hM1 (JI_SC h) rfl hp1 hQ1 hN1, fun r2 t2 hq2 => ?_⟩
    obtain ⟨x2, rfl, hq2⟩ := hq2
    rcases hq2 with ⟨hr2, -⟩ | ⟨-, ⟨⟨ea2, m1⟩, m2, m3, m4, m5⟩, hx2⟩
    · exact absurd hr hr2
    · rw [hk 40 (by unfold keptA keptD; decide) (by decide) (by decide) (by decide) (by decide) (by decide), hk 41 (by unfold keptA keptD; decide) (by decide) (by decide) (by decide) (by decide) (by decide), hk 42 (by unfold keptA keptD; decide) (by decide) (by decide) (by decide) (by decide) (by decide), hk 43 (by unfold keptA keptD; decide) (by decide) (by decide) (by decide) (by decide) (by decide), e11, e12, e13, e14] at m1
      rw [← c1] at m1
      have d40 : t2 40 = t1 18 := congrArg (fun z : DS => z.1) m1
      have d41 : t2 41 = t1 19 := congrArg (fun z : DS => z.2.1) m1
      have d42 : t2 42 = t1 20 := congrArg (fun z : DS => z.2.2.1) m1
      have d43 : t2 43 = t1 27 := congrArg (fun z : DS => z.2.2.2.1) m1
      have d2197 : t2 2197 0 = t1 530 0 := congrArg (fun z : DS => z.2.2.2.2.1) m1
      have d39 : t2 39 = t1 21 := by rw [m2, c2, hk 39 (by unfold keptA keptD; decide) (by decide) (by decide) (by decide) (by decide) (by decide), e10]
      have kx : ∀ w, keptX w → w ≠ 44 → w ≠ 45 → w ≠ 2198 → w ≠ 2201 → t2 w = t1 w := m5
      refine ⟨?_, ⟨⟨?_, ?_, ?_, ?_, ?_, ?_⟩, ⟨?_, ?_, ?_⟩, ⟨?_, ?_, ?_, ?_⟩, ?_, ?_, ?_⟩, ?_, ?_⟩
      · rw [hx2, hx]
        unfold beE pQ
        rw [d39, d40, d41, d42, hk 267 (by unfold keptA keptD; decide) (by decide) (by decide) (by decide) (by decide) (by decide), hk 272 (by unfold keptA keptD; decide) (by decide) (by decide) (by decide) (by decide) (by decide), hk 13 (by unfold keptA keptD; decide) (by decide) (by decide) (by decide) (by decide) (by decide), hk 14 (by unfold keptA keptD; decide) (by decide) (by decide) (by decide) (by decide) (by decide), hk 15 (by unfold keptA keptD; decide) (by decide) (by decide) (by decide) (by decide) (by decide)]
        rfl
      · rw [m5 2184 (by unfold keptX keptY keptT keptF keptM; decide) (by decide) (by decide) (by decide) (by decide), m5 267 (by unfold keptX keptY keptT keptF keptM; decide) (by decide) (by decide) (by decide) (by decide), hk 2184 (by unfold keptA keptD; decide) (by decide) (by decide) (by decide) (by decide) (by decide), hk 267 (by unfold keptA keptD; decide) (by decide) (by decide) (by decide) (by decide) (by decide)]; exact e1
      · rw [m5 2188 (by unfold keptX keptY keptT keptF keptM; decide) (by decide) (by decide) (by decide) (by decide), m5 272 (by unfold keptX keptY keptT keptF keptM; decide) (by decide) (by decide) (by decide) (by decide), hk 2188 (by unfold keptA keptD; decide) (by decide) (by decide) (by decide) (by decide) (by decide), hk 272 (by unfold keptA keptD; decide) (by decide) (by decide) (by decide) (by decide) (by decide)]; exact e2
      · rw [m5 35 (by unfold keptX keptY keptT keptF keptM; decide) (by decide) (by decide) (by decide) (by decide), m5 13 (by unfold keptX keptY keptT keptF keptM; decide) (by decide) (by decide) (by decide) (by decide), hk 35 (by unfold keptA keptD; decide) (by decide) (by decide) (by decide) (by decide) (by decide), hk 13 (by unfold keptA keptD; decide) (by decide) (by decide) (by decide) (by decide) (by decide)]; exact e3
      · rw [m5 36 (by unfold keptX keptY keptT keptF keptM; decide) (by decide) (by decide) (by decide) (by decide), m5 14 (by unfold keptX keptY keptT keptF keptM; decide) (by decide) (by decide) (by decide) (by decide), hk 36 (by unfold keptA keptD; decide) (by decide) (by decide) (by decide) (by decide) (by decide), hk 14 (by unfold keptA keptD; decide) (by decide) (by decide) (by decide) (by decide) (by decide)]; exact e4
      · rw [m5 37 (by unfold keptX keptY keptT keptF keptM; decide) (by decide) (by decide) (by decide) (by decide), m5 15 (by unfold keptX keptY keptT keptF keptM; decide) (by decide) (by decide) (by decide) (by decide), hk 37 (by unfold keptA keptD; decide) (by decide) (by decide) (by decide) (by decide) (by decide), hk 15 (by unfold keptA keptD; decide) (by decide) (by decide) (by decide) (by decide) (by decide)]; exact e5
      · rw [m5 38 (by unfold keptX keptY keptT keptF keptM; decide) (by decide) (by decide) (by decide) (by decide), m5 16 (by unfold keptX keptY keptT keptF keptM; decide) (by decide) (by decide) (by decide) (by decide), hk 38 (by unfold keptA keptD; decide) (by decide) (by decide) (by decide) (by decide) (by decide), hk 16 (by unfold keptA keptD; decide) (by decide) (by decide) (by decide) (by decide) (by decide)]; exact e6
      · rw [m5 32 (by unfold keptX keptY keptT keptF keptM; decide) (by decide) (by decide) (by decide) (by decide), m5 10 (by unfold keptX keptY keptT keptF keptM; decide) (by decide) (by decide) (by decide) (by decide), hk 32 (by unfold keptA keptD; decide) (by decide) (by decide) (by decide) (by decide) (by decide), hk 10 (by unfold keptA keptD; decide) (by decide) (by decide) (by decide) (by decide) (by decide)]; exact e7
      · rw [m5 33 (by unfold keptX keptY keptT keptF keptM; decide) (by decide) (by decide) (by decide) (by decide), m5 11 (by unfold keptX keptY keptT keptF keptM; decide) (by decide) (by decide) (by decide) (by decide), hk 33 (by unfold keptA keptD; decide) (by decide) (by decide) (by decide) (by decide) (by decide), hk 11 (by unfold keptA keptD; decide) (by decide) (by decide) (by decide) (by decide) (by decide)]; exact e8
      · rw [m5 34 (by unfold keptX keptY keptT keptF keptM; decide) (by decide) (by decide) (by decide) (by decide), m5 12 (by unfold keptX keptY keptT keptF keptM; decide) (by decide) (by decide) (by decide) (by decide), hk 34 (by unfold keptA keptD; decide) (by decide) (by decide) (by decide) (by decide) (by decide), hk 12 (by unfold keptA keptD; decide) (by decide) (by decide) (by decide) (by decide) (by decide)]; exact e9
      · rw [d39, m5 21 (by unfold keptX keptY keptT keptF keptM; decide) (by decide) (by decide) (by decide) (by decide)]
      · rw [d40, m5 18 (by unfold keptX keptY keptT keptF keptM; decide) (by decide) (by decide) (by decide) (by decide)]
      · rw [d41, m5 19 (by unfold keptX keptY keptT keptF keptM; decide) (by decide) (by decide) (by decide) (by decide)]
      · rw [d42, m5 20 (by unfold keptX keptY keptT keptF keptM; decide) (by decide) (by decide) (by decide) (by decide)]
      · rw [d43, m5 27 (by unfold keptX keptY keptT keptF keptM; decide) (by decide) (by decide) (by decide) (by decide)]
      · rw [m3, m5 529 (by unfold keptX keptY keptT keptF keptM; decide) (by decide) (by decide) (by decide) (by decide), c3]
      · rw [d2197, m5 530 (by unfold keptX keptY keptT keptF keptM; decide) (by decide) (by decide) (by decide) (by decide)]
      · unfold JVt
        rw [m5 267 (by unfold keptX keptY keptT keptF keptM; decide) (by decide) (by decide) (by decide) (by decide), m5 272 (by unfold keptX keptY keptT keptF keptM; decide) (by decide) (by decide) (by decide) (by decide), m5 13 (by unfold keptX keptY keptT keptF keptM; decide) (by decide) (by decide) (by decide) (by decide), m5 14 (by unfold keptX keptY keptT keptF keptM; decide) (by decide) (by decide) (by decide) (by decide), m5 15 (by unfold keptX keptY keptT keptF keptM; decide) (by decide) (by decide) (by decide) (by decide), m5 16 (by unfold keptX keptY keptT keptF keptM; decide) (by decide) (by decide) (by decide) (by decide), m5 10 (by unfold keptX keptY keptT keptF keptM; decide) (by decide) (by decide) (by decide) (by decide), m5 11 (by unfold keptX keptY keptT keptF keptM; decide) (by decide) (by decide) (by decide) (by decide), m5 12 (by unfold keptX keptY keptT keptF keptM; decide) (by decide) (by decide) (by decide) (by decide), m5 21 (by unfold keptX keptY keptT keptF keptM; decide) (by decide) (by decide) (by decide) (by decide), m5 18 (by unfold keptX keptY keptT keptF keptM; decide) (by decide) (by decide) (by decide) (by decide), m5 19 (by unfold keptX keptY keptT keptF keptM; decide) (by decide) (by decide) (by decide) (by decide), m5 20 (by unfold keptX keptY keptT keptF keptM; decide) (by decide) (by decide) (by decide) (by decide), hk 267 (by unfold keptA keptD; decide) (by decide) (by decide) (by decide) (by decide) (by decide), hk 272 (by unfold keptA keptD; decide) (by decide) (by decide) (by decide) (by decide) (by decide), hk 13 (by unfold keptA keptD; decide) (by decide) (by decide) (by decide) (by decide) (by decide), hk 14 (by unfold keptA keptD; decide) (by decide) (by decide) (by decide) (by decide) (by decide), hk 15 (by unfold keptA keptD; decide) (by decide) (by decide) (by decide) (by decide) (by decide), hk 16 (by unfold keptA keptD; decide) (by decide) (by decide) (by decide) (by decide) (by decide), hk 10 (by unfold keptA keptD; decide) (by decide) (by decide) (by decide) (by decide) (by decide), hk 11 (by unfold keptA keptD; decide) (by decide) (by decide) (by decide) (by decide) (by decide), hk 12 (by unfold keptA keptD; decide) (by decide) (by decide) (by decide) (by decide) (by decide), c2]
        refine ⟨v1, v2, v3, fun r => ?_, fun r hr9 => ?_, v6, c5, ?_⟩
        · unfold glue
          split
          · exact Or.inr rfl
          · exact v4 r
        · have : glue (eB t lim).n (fun _ => (1 : Int)) (t 21) r = t 21 r := glue_out hr9
          rw [this]; exact v5 r hr9
        · have hcr := cntP_r v1.1.1 (glue (eB t lim).n (fun _ => 1) (t 21))
          intro r r0 r1 _
          have := c6 r r0 r1
          show (-(52000 + 30 * cntP (t 267 0) (glue (eB t lim).n (fun _ => 1) (t 21))) ≤ t1 18 r ∧ _) ∧ (_ ≤ t1 19 r ∧ _) ∧ (_ ≤ t1 20 r ∧ _)
          have a1 : -(52000 + 30 * cntP (t 267 0) (glue (eB t lim).n (fun _ => 1) (t 21))) ≤ t1 18 r ∧ t1 18 r ≤ 52000 + 30 * cntP (t 267 0) (glue (eB t lim).n (fun _ => 1) (t 21)) := by omega
          have a2 : -(52000 + 30 * cntP (t 267 0) (glue (eB t lim).n (fun _ => 1) (t 21))) ≤ t1 19 r ∧ t1 19 r ≤ 52000 + 30 * cntP (t 267 0) (glue (eB t lim).n (fun _ => 1) (t 21)) := by omega
          have a3 : -(52000 + 30 * cntP (t 267 0) (glue (eB t lim).n (fun _ => 1) (t 21))) ≤ t1 20 r ∧ t1 20 r ≤ 52000 + 30 * cntP (t 267 0) (glue (eB t lim).n (fun _ => 1) (t 21)) := by omega
          exact ⟨a1, a2, a3⟩
      · refine ⟨?_, m4⟩
        rw [m5 22 (by unfold keptX keptY keptT keptF keptM; decide) (by decide) (by decide) (by decide) (by decide), m5 23 (by unfold keptX keptY keptT keptF keptM; decide) (by decide) (by decide) (by decide) (by decide), m5 24 (by unfold keptX keptY keptT keptF keptM; decide) (by decide) (by decide) (by decide) (by decide)]
        exact c4
theorem J_grow {t : Sto} (h : JI t) : PAIR yX8_grow cX8_grow 1 6 yX9_grow cX9_grow 6 5 [] t := by
  obtain ⟨⟨⟨e1, e2, e3, e4, e5, e6⟩, ⟨e7, e8, e9⟩, ⟨e10, e11, e12, e13⟩, e14, e15, e16⟩, ⟨v1, v2, v3, v4, v5, v6, v7, v8⟩, ⟨n1, n2⟩⟩ := id h
  refine ⟨_, c_X8_grow t (JI_SC h) v7 v8, fun r1 t1 hq => ?_⟩
  obtain ⟨x, rfl, ⟨c1, c2, c3, c4, hk⟩, hx⟩ := hq
  have hM1 : EM (eB t 0) t1 := by
    unfold EM
    rw [hk 2184 (by unfold keptS_3; decide) (by decide) (by decide) (by decide), hk 2188 (by unfold keptS_3; decide) (by decide) (by decide) (by decide), hk 35 (by unfold keptS_3; decide) (by decide) (by decide) (by decide), hk 36 (by unfold keptS_3; decide) (by decide) (by decide) (by decide), hk 37 (by unfold keptS_3; decide) (by decide) (by decide) (by decide), hk 38 (by unfold keptS_3; decide) (by decide) (by decide) (by decide)]
    exact ⟨e1, e2, e3, e4, e5, e6⟩
  have hQ1 : BN 60000 (t1 40) ∧ BN 60000 (t1 41) ∧ BN 60000 (t1 42) := by
    rw [hk 40 (by unfold keptS_3; decide) (by decide) (by decide) (by decide), hk 41 (by unfold keptS_3; decide) (by decide) (by decide) (by decide), hk 42 (by unfold keptS_3; decide) (by decide) (by decide) (by decide)]
    exact JI_QM h
  have hN1 : BNM t1 := by
    unfold BNM
    rw [hk 47 (by unfold keptS_3; decide) (by decide) (by decide) (by decide), hk 48 (by unfold keptS_3; decide) (by decide) (by decide) (by decide), hk 49 (by unfold keptS_3; decide) (by decide) (by decide) (by decide)]
    exact n2
  have hp1 : ∀ r, t1 39 r = 0 ∨ t1 39 r = 1 := by
    rw [hk 39 (by unfold keptS_3; decide) (by decide) (by decide) (by decide)]
    exact JI_pM h
  have hpq : pQ t1 = pF_3 t := by
    unfold pQ pF_3
    rw [hk 39 (by unfold keptS_3; decide) (by decide) (by decide) (by decide), hk 40 (by unfold keptS_3; decide) (by decide) (by decide) (by decide), hk 41 (by unfold keptS_3; decide) (by decide) (by decide) (by decide), hk 42 (by unfold keptS_3; decide) (by decide) (by decide) (by decide), e10, e11, e12, e13]
  refine ⟨_, rfl, _, c_X9_grow t1 (eB t 0) hM1 (JI_SC h) hp1 hQ1 hN1 (by rw [hpq, hk 39 (by unfold keptS_3; decide) (by decide) (by decide) (by decide), e10]; exact v8), fun r2 t2 hq2 => ?_⟩
  obtain ⟨x2, rfl, ⟨m1, m2, m3, m4, m5⟩, hx2⟩ := hq2
  rw [hpq, ← c1] at m1
  have d39 : t2 39 = t1 21 := congrArg (fun z : PF => z.1) m1
  have d40 : t2 40 = t1 18 := congrArg (fun z : PF => z.2.1) m1
  have d41 : t2 41 = t1 19 := congrArg (fun z : PF => z.2.2.1) m1
  have d42 : t2 42 = t1 20 := congrArg (fun z : PF => z.2.2.2) m1
  have gp := GR_ps (e := eB t 0) v1 (pF_3 t)
  have hps : ∀ r, t1 21 r = t 21 r ∨ (t1 21 r = 1 ∧ 0 ≤ r ∧ r < t 267 0) := by
    have e9' : t1 21 = (GR (eB t 0) (pF_3 t)).ps := by rw [← c1]; rfl
    rw [e9']; exact gp.1
  refine ⟨?_, ⟨⟨?_, ?_, ?_, ?_, ?_, ?_⟩, ⟨?_, ?_, ?_⟩, ⟨?_, ?_, ?_, ?_⟩, ?_, ?_, ?_⟩, ?_, ?_⟩
  · rw [hx2, hx]
    unfold beE pQ
    rw [d39, d40, d41, d42, hk 267 (by unfold keptS_3; decide) (by decide) (by decide) (by decide), hk 272 (by unfold keptS_3; decide) (by decide) (by decide) (by decide), hk 13 (by unfold keptS_3; decide) (by decide) (by decide) (by decide), hk 14 (by unfold keptS_3; decide) (by decide) (by decide) (by decide), hk 15 (by unfold keptS_3; decide) (by decide) (by decide) (by decide)]
    rfl
  · rw [m5 2184 (by unfold keptG keptM; decide), m5 267 (by unfold keptG keptM; decide), hk 2184 (by unfold keptS_3; decide) (by decide) (by decide) (by decide), hk 267 (by unfold keptS_3; decide) (by decide) (by decide) (by decide)]; exact e1
  · rw [m5 2188 (by unfold keptG keptM; decide), m5 272 (by unfold keptG keptM; decide), hk 2188 (by unfold keptS_3; decide) (by decide) (by decide) (by decide), hk 272 (by unfold keptS_3; decide) (by decide) (by decide) (by decide)]; exact e2
  · rw [m5 35 (by unfold keptG keptM; decide), m5 13 (by unfold keptG keptM; decide), hk 35 (by unfold keptS_3; decide) (by decide) (by decide) (by decide), hk 13 (by unfold keptS_3; decide) (by decide) (by decide) (by decide)]; exact e3
  · rw [m5 36 (by unfold keptG keptM; decide), m5 14 (by unfold keptG keptM; decide), hk 36 (by unfold keptS_3; decide) (by decide) (by decide) (by decide), hk 14 (by unfold keptS_3; decide) (by decide) (by decide) (by decide)]; exact e4
  · rw [m5 37 (by unfold keptG keptM; decide), m5 15 (by unfold keptG keptM; decide), hk 37 (by unfold keptS_3; decide) (by decide) (by decide) (by decide), hk 15 (by unfold keptS_3; decide) (by decide) (by decide) (by decide)]; exact e5
  · rw [m5 38 (by unfold keptG keptM; decide), m5 16 (by unfold keptG keptM; decide), hk 38 (by unfold keptS_3; decide) (by decide) (by decide) (by decide), hk 16 (by unfold keptS_3; decide) (by decide) (by decide) (by decide)]; exact e6
  · rw [m5 32 (by unfold keptG keptM; decide), m5 10 (by unfold keptG keptM; decide), hk 32 (by unfold keptS_3; decide) (by decide) (by decide) (by decide), hk 10 (by unfold keptS_3; decide) (by decide) (by decide) (by decide)]; exact e7
  · rw [m5 33 (by unfold keptG keptM; decide), m5 11 (by unfold keptG keptM; decide), hk 33 (by unfold keptS_3; decide) (by decide) (by decide) (by decide), hk 11 (by unfold keptS_3; decide) (by decide) (by decide) (by decide)]; exact e8
  · rw [m5 34 (by unfold keptG keptM; decide), m5 12 (by unfold keptG keptM; decide), hk 34 (by unfold keptS_3; decide) (by decide) (by decide) (by decide), hk 12 (by unfold keptS_3; decide) (by decide) (by decide) (by decide)]; exact e9
  · rw [d39, m5 21 (by unfold keptG keptM; decide)]
  · rw [d40, m5 18 (by unfold keptG keptM; decide)]
  · rw [d41, m5 19 (by unfold keptG keptM; decide)]
  · rw [d42, m5 20 (by unfold keptG keptM; decide)]
  · rw [m5 43 (by unfold keptG keptM; decide), m5 27 (by unfold keptG keptM; decide), hk 43 (by unfold keptS_3; decide) (by decide) (by decide) (by decide), hk 27 (by unfold keptS_3; decide) (by decide) (by decide) (by decide)]; exact e14
  · rw [m2, m5 529 (by unfold keptG keptM; decide), c2]
  · rw [m5 2197 (by unfold keptG keptM; decide), m5 530 (by unfold keptG keptM; decide), hk 2197 (by unfold keptS_3; decide) (by decide) (by decide) (by decide), hk 530 (by unfold keptS_3; decide) (by decide) (by decide) (by decide)]; exact e16
  · unfold JVt
    rw [m5 267 (by unfold keptG keptM; decide), m5 272 (by unfold keptG keptM; decide), m5 13 (by unfold keptG keptM; decide), m5 14 (by unfold keptG keptM; decide), m5 15 (by unfold keptG keptM; decide), m5 16 (by unfold keptG keptM; decide), m5 10 (by unfold keptG keptM; decide), m5 11 (by unfold keptG keptM; decide), m5 12 (by unfold keptG keptM; decide), m5 21 (by unfold keptG keptM; decide), m5 18 (by unfold keptG keptM; decide), m5 19 (by unfold keptG keptM; decide), m5 20 (by unfold keptG keptM; decide), hk 267 (by unfold keptS_3; decide) (by decide) (by decide) (by decide), hk 272 (by unfold keptS_3; decide) (by decide) (by decide) (by decide), hk 13 (by unfold keptS_3; decide) (by decide) (by decide) (by decide), hk 14 (by unfold keptS_3; decide) (by decide) (by decide) (by decide), hk 15 (by unfold keptS_3; decide) (by decide) (by decide) (by decide), hk 16 (by unfold keptS_3; decide) (by decide) (by decide) (by decide), hk 10 (by unfold keptS_3; decide) (by decide) (by decide) (by decide), hk 11 (by unfold keptS_3; decide) (by decide) (by decide) (by decide), hk 12 (by unfold keptS_3; decide) (by decide) (by decide) (by decide)]
    refine ⟨v1, v2, v3, fun r => ?_, fun r hr9 => ?_, v6, c3, c4⟩
    · rcases hps r with z | ⟨z, -⟩
      · rw [z]; exact v4 r
      · exact Or.inr z
    · rcases hps r with z | ⟨-, z⟩
      · rw [z]; exact v5 r hr9
      · exact absurd z hr9
  · refine ⟨?_, m3⟩
    rw [m5 22 (by unfold keptG keptM; decide), m5 23 (by unfold keptG keptM; decide), m5 24 (by unfold keptG keptM; decide), hk 22 (by unfold keptS_3; decide) (by decide) (by decide) (by decide), hk 23 (by unfold keptS_3; decide) (by decide) (by decide) (by decide), hk 24 (by unfold keptS_3; decide) (by decide) (by decide) (by decide)]
    exact n1
