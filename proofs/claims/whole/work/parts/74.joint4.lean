/-! BOTH SIDES: playing -/
theorem su_fn (t : Sto) (v : Nat) (i x : Int) : su t v i x v = fu (t v) i x := by rw [su_row, sv_at]
theorem JI_new {t : Sto} (h : JI t) {a d g : Int} (ha : 0 ≤ a ∧ a < t 267 0) (hd : 0 ≤ d ∧ d ≤ 9) (hg : 0 ≤ g ∧ g ≤ 9) (hn : t 267 0 < 24) (hk : t 272 0 < 60) (h1 : ¬ 0 ≤ outS (t 272 0) (t 13) (t 14) (t 15) (t 16) a d) : JI (layM (addRoomM (addLinkC (addRoomC t 1 g) a d (t 267 0) 0) 1 g) a d (t 267 0) 0) := by
  obtain ⟨⟨⟨e1, e2, e3, e4, e5, e6⟩, -⟩, -⟩ := id h
  have hV : JI (addRoomM (addRoomC t 1 g) 1 g) := by
    unfold addRoomM addRoomC
    refine JI_room h (w := 1) (g := g) (by omega) hg hn ?_ ?_ ?_ ?_ ?_ ?_ ?_ ?_ ?_ (fun v hv => ?_)
    · simp (disch := decide) only [su_ne, su_fn, fu_at]
    · simp (disch := decide) only [su_ne, su_fn, fu_at]
    · simp (disch := decide) only [su_ne, su_fn, fu_at]
    · simp (disch := decide) only [su_ne, su_fn, fu_at]
    · simp (disch := decide) only [su_ne, su_fn, fu_at]
    · simp (disch := decide) only [su_ne, su_fn, fu_at]
    · simp (disch := decide) only [su_ne, su_fn, fu_at]
    · simp (disch := decide) only [su_ne, su_fn, fu_at]
    · simp (disch := decide) only [su_ne, su_fn, fu_at]
    · rw [su_ne hv.2.2.2.2.1, su_ne hv.2.2.2.2.2.2.2.2, su_ne hv.2.2.2.2.2.2.2.1, su_ne hv.2.2.2.2.2.2.1, su_ne hv.2.2.2.2.2.1, su_ne hv.1, su_ne hv.2.2.2.1, su_ne hv.2.2.1, su_ne hv.2.1]
  have f267 : addRoomM (addRoomC t 1 g) 1 g 267 0 = t 267 0 + 1 := by unfold addRoomM addRoomC; simp (disch := decide) only [su_ne, su_fn, fu_at]
  have f272 : addRoomM (addRoomC t 1 g) 1 g 272 = t 272 := by unfold addRoomM addRoomC; simp (disch := decide) only [su_ne, su_fn, fu_at]
  have f13 : addRoomM (addRoomC t 1 g) 1 g 13 = t 13 := by unfold addRoomM addRoomC; simp (disch := decide) only [su_ne, su_fn, fu_at]
  have f14 : addRoomM (addRoomC t 1 g) 1 g 14 = t 14 := by unfold addRoomM addRoomC; simp (disch := decide) only [su_ne, su_fn, fu_at]
  have f15 : addRoomM (addRoomC t 1 g) 1 g 15 = t 15 := by unfold addRoomM addRoomC; simp (disch := decide) only [su_ne, su_fn, fu_at]
  have f16 : addRoomM (addRoomC t 1 g) 1 g 16 = t 16 := by unfold addRoomM addRoomC; simp (disch := decide) only [su_ne, su_fn, fu_at]
  have f2188 : addRoomM (addRoomC t 1 g) 1 g 2188 = t 2188 := by unfold addRoomM addRoomC; simp (disch := decide) only [su_ne, su_fn, fu_at]
  have f35 : addRoomM (addRoomC t 1 g) 1 g 35 = t 35 := by unfold addRoomM addRoomC; simp (disch := decide) only [su_ne, su_fn, fu_at]
  have f36 : addRoomM (addRoomC t 1 g) 1 g 36 = t 36 := by unfold addRoomM addRoomC; simp (disch := decide) only [su_ne, su_fn, fu_at]
  have f37 : addRoomM (addRoomC t 1 g) 1 g 37 = t 37 := by unfold addRoomM addRoomC; simp (disch := decide) only [su_ne, su_fn, fu_at]
  have f38 : addRoomM (addRoomC t 1 g) 1 g 38 = t 38 := by unfold addRoomM addRoomC; simp (disch := decide) only [su_ne, su_fn, fu_at]
  refine JI_lay hV (a := a) (d := d) (b := t 267 0) (o := 0) (by rw [f272]; exact hk) (by rw [f267]; omega) hd (by rw [f267]; omega) (Or.inl rfl) (by rw [f272, f13, f14, f15, f16]; exact h1) (fun z => absurd rfl z) ?_ ?_ ?_ ?_ ?_ ?_ ?_ ?_ ?_ ?_ (fun v hv => ?_)
  · rw [f272]; unfold layM addRoomM addLinkC addRoomC; simp (disch := decide) only [su_ne, su_fn, fu_at]
  · rw [f272, f13]; unfold layM addRoomM addLinkC addRoomC; simp (disch := decide) only [su_ne, su_fn, fu_at]
  · rw [f272, f14]; unfold layM addRoomM addLinkC addRoomC; simp (disch := decide) only [su_ne, su_fn, fu_at]
  · rw [f272, f15]; unfold layM addRoomM addLinkC addRoomC; simp (disch := decide) only [su_ne, su_fn, fu_at]
  · rw [f272, f16]; unfold layM addRoomM addLinkC addRoomC; simp (disch := decide) only [su_ne, su_fn, fu_at]
  · rw [f2188]; unfold layM addRoomM addLinkC addRoomC; simp (disch := decide) only [su_ne, su_fn, fu_at]
  · rw [f2188, f35]; unfold layM addRoomM addLinkC addRoomC; simp (disch := decide) only [su_ne, su_fn, fu_at]
  · rw [f2188, f36]; unfold layM addRoomM addLinkC addRoomC; simp (disch := decide) only [su_ne, su_fn, fu_at]
  · rw [f2188, f37]; unfold layM addRoomM addLinkC addRoomC; simp (disch := decide) only [su_ne, su_fn, fu_at]
  · rw [f2188, f38]; unfold layM addRoomM addLinkC addRoomC; simp (disch := decide) only [su_ne, su_fn, fu_at]
  · have hB : ∀ w, w ≠ 272 → w ≠ 13 → w ≠ 14 → w ≠ 15 → w ≠ 16 → addLinkC (addRoomC t 1 g) a d (t 267 0) 0 w = addRoomC t 1 g w := fun w a1 a2 a3 a4 a5 => by
      unfold addLinkC
      rw [su_ne a1, su_ne a5, su_ne a4, su_ne a3, su_ne a2]
    have hBv := hB v hv.1 hv.2.1 hv.2.2.1 hv.2.2.2.1 hv.2.2.2.2.1
    have hB1 := hB 2184 (by decide) (by decide) (by decide) (by decide) (by decide)
    unfold layM
    rw [su_ne hv.2.2.2.2.2.1, su_ne hv.2.2.2.2.2.2.2.2.2, su_ne hv.2.2.2.2.2.2.2.2.1, su_ne hv.2.2.2.2.2.2.2.1, su_ne hv.2.2.2.2.2.2.1]
    unfold addRoomM
    rw [hB1]
    exact su_cg (su_cg (su_cg (su_cg (su_cg hBv))))
theorem JI_lay1 {t : Sto} (h : JI t) {a d b : Int} (hk : t 272 0 < 60) (ha : 0 ≤ a ∧ a < t 267 0) (hd : 0 ≤ d ∧ d ≤ 9) (hb : 0 ≤ b ∧ b < t 267 0) (h1 : ¬ 0 ≤ outS (t 272 0) (t 13) (t 14) (t 15) (t 16) a d) : JI (layM (addLinkC t a d b 0) a d b 0) := by
  refine JI_lay h (a := a) (d := d) (b := b) (o := 0) hk ha hd hb (Or.inl rfl) h1 (fun z => absurd rfl z) ?_ ?_ ?_ ?_ ?_ ?_ ?_ ?_ ?_ ?_ (fun v hv => ?_)
  · unfold layM addLinkC; simp (disch := decide) only [su_ne, su_fn, fu_at]
  · unfold layM addLinkC; simp (disch := decide) only [su_ne, su_fn, fu_at]
  · unfold layM addLinkC; simp (disch := decide) only [su_ne, su_fn, fu_at]
  · unfold layM addLinkC; simp (disch := decide) only [su_ne, su_fn, fu_at]
  · unfold layM addLinkC; simp (disch := decide) only [su_ne, su_fn, fu_at]
  · unfold layM addLinkC; simp (disch := decide) only [su_ne, su_fn, fu_at]
  · unfold layM addLinkC; simp (disch := decide) only [su_ne, su_fn, fu_at]
  · unfold layM addLinkC; simp (disch := decide) only [su_ne, su_fn, fu_at]
  · unfold layM addLinkC; simp (disch := decide) only [su_ne, su_fn, fu_at]
  · unfold layM addLinkC; simp (disch := decide) only [su_ne, su_fn, fu_at]
  · unfold layM addLinkC
    rw [su_ne hv.2.2.2.2.2.1, su_ne hv.2.2.2.2.2.2.2.2.2, su_ne hv.2.2.2.2.2.2.2.2.1, su_ne hv.2.2.2.2.2.2.2.1, su_ne hv.2.2.2.2.2.2.1, su_ne hv.1, su_ne hv.2.2.2.2.1, su_ne hv.2.2.2.1, su_ne hv.2.2.1, su_ne hv.2.1]
theorem JI_both {t : Sto} (h : JI t) {a d l : Int} (hl : 0 ≤ l ∧ l < t 272 0) (h1 : ¬ 0 ≤ outS (t 272 0) (t 13) (t 14) (t 15) (t 16) a d) (ht : t 15 l = a) (hd : oppI (t 14 l) = d) : JI (su (su t 16 l 1) 38 l 1) := by
  obtain ⟨⟨⟨e1, e2, e3, e4, e5, e6⟩, -⟩, ⟨v1, v2, v3, -⟩, -⟩ := id h
  have q16 : su (su t 16 l 1) 38 l 1 16 = fu (t 16) l 1 := by simp (disch := decide) only [su_ne, su_fn]
  have q38 : su (su t 16 l 1) 38 l 1 38 = fu (t 38) l 1 := by simp (disch := decide) only [su_ne, su_fn]
  have k : ∀ w, w ≠ 16 → w ≠ 38 → su (su t 16 l 1) 38 l 1 w = t w := fun w a1 a2 => by rw [su_ne a2, su_ne a1]
  have k267 := k 267 (by decide) (by decide)
  have k272 := k 272 (by decide) (by decide)
  have k13 := k 13 (by decide) (by decide)
  have k14 := k 14 (by decide) (by decide)
  have k15 := k 15 (by decide) (by decide)
  refine JI_links h ?_ ?_ ?_ ?_ ?_ ?_ ?_ ?_ (fun w hw => k w hw.2.2.2.2.1 hw.2.2.2.2.2.2.2.2.2)
  · rw [k267, k272, k13, k14, k15, q16]
    refine ⟨v1.1, fun j j0 j1 => ?_⟩
    obtain ⟨x1, x2, x3, x4⟩ := v1.2 j j0 j1
    refine ⟨x1, x2, x3, ?_⟩
    by_cases y : j = l
    · rw [y, fu_at]; exact Or.inr rfl
    · rw [fu_ne y]; exact x4
  · rw [k272, k13, k14, k15, q16]
    exact UQ_both v1 v2 (out_none h1) hl ht hd
  · intro j
    rw [q16]
    by_cases y : j = l
    · rw [y, fu_at]; exact Or.inr rfl
    · rw [fu_ne y]; exact v3 j
  · rw [k272, k 2188 (by decide) (by decide)]; exact e2
  · rw [k13, k 35 (by decide) (by decide)]; exact e3
  · rw [k14, k 36 (by decide) (by decide)]; exact e4
  · rw [k15, k 37 (by decide) (by decide)]; exact e5
  · rw [q16, q38, e6]
theorem J_play {t : Sto} (h : JI t) (a d b : Int) : PAIR yX8_play cX8_play 5 3 yX9_play cX9_play 8 2 [mI a, mI d, mI b] t := by
  obtain ⟨⟨⟨e1, e2, e3, e4, e5, e6⟩, ⟨e7, e8, e9⟩, -⟩, ⟨v1, v2, v3, v4, v5, v6, -⟩, -⟩ := id h
  refine ⟨_, c_X8_play t a d b (JI_SC h), fun r1 t1 hq => ?_⟩
  obtain ⟨rfl, ht1⟩ := hq
  have k1 : ∀ w, w ≠ 267 → w ≠ 10 → w ≠ 11 → w ≠ 12 → w ≠ 272 → w ≠ 13 → w ≠ 14 → w ≠ 15 → w ≠ 16 → t1 w = t w := fun v a1 a2 a3 a4 a5 a6 a7 a8 a9 => by
    rw [ht1]; unfold playC newC plyC addLinkC addRoomC
    split
    · split
      · split
        · rfl
        · rw [su_ne a5, su_ne a9, su_ne a8, su_ne a7, su_ne a6, su_ne a1, su_ne a4, su_ne a3, su_ne a2]
      · split
        · rw [su_ne a9]
        · split
          · rfl
          · rw [su_ne a5, su_ne a9, su_ne a8, su_ne a7, su_ne a6]
    · rfl
  have q1 := k1 2184 (by decide) (by decide) (by decide) (by decide) (by decide) (by decide) (by decide) (by decide) (by decide)
  have q2 := k1 2188 (by decide) (by decide) (by decide) (by decide) (by decide) (by decide) (by decide) (by decide) (by decide)
  have q3 := k1 35 (by decide) (by decide) (by decide) (by decide) (by decide) (by decide) (by decide) (by decide) (by decide)
  have q4 := k1 36 (by decide) (by decide) (by decide) (by decide) (by decide) (by decide) (by decide) (by decide) (by decide)
  have q5 := k1 37 (by decide) (by decide) (by decide) (by decide) (by decide) (by decide) (by decide) (by decide) (by decide)
  have q6 := k1 38 (by decide) (by decide) (by decide) (by decide) (by decide) (by decide) (by decide) (by decide) (by decide)
  have q33 := k1 33 (by decide) (by decide) (by decide) (by decide) (by decide) (by decide) (by decide) (by decide) (by decide)
  refine ⟨_, rfl, _, c_X9_play t1 a d b (by unfold SM; rw [q1, q2, q3, q4, q5, q6]; exact JI_SM h) (by rw [q1, q33, e1, e8]; exact fun r r0 r1 => (v6 r r0 r1).2.1), fun r2 t2 hq2 => ?_⟩
  obtain ⟨rfl, ht2⟩ := hq2
  unfold playM at ht2
  rw [q1, q2, q3, q4, q5, q6, q33, e1, e2, e3, e4, e5, e6, e8] at ht2
  rw [q1, q2, q3, q4, q5, q6, e1, e2, e3, e4, e5, e6]
  unfold playC at ht1
  have hbr := beyS_r v1 a d
  have hbo : (0 ≤ beyS (t 272 0) (t 13) (t 14) (t 15) (t 16) a d ↔ 0 ≤ outS (t 272 0) (t 13) (t 14) (t 15) (t 16) a d) ∧ (0 ≤ outS (t 272 0) (t 13) (t 14) (t 15) (t 16) a d → beyS (t 272 0) (t 13) (t 14) (t 15) (t 16) a d = endS (t 13) (t 14) (t 15) (outS (t 272 0) (t 13) (t 14) (t 15) (t 16) a d) a d) := by
    have e9' : beyS (t 272 0) (t 13) (t 14) (t 15) (t 16) a d = if outS (t 272 0) (t 13) (t 14) (t 15) (t 16) a d < 0 then -2 else endS (t 13) (t 14) (t 15) (outS (t 272 0) (t 13) (t 14) (t 15) (t 16) a d) a d := rfl
    constructor
    · constructor
      · intro z
        rw [e9'] at z
        by_cases y : outS (t 272 0) (t 13) (t 14) (t 15) (t 16) a d < 0
        · rw [if_pos y] at z; omega
        · omega
      · intro z
        rcases hbr with y | y
        · exfalso
          rw [e9', if_neg (by omega)] at y
          rcases outS_r (t 272 0) (t 13) (t 14) (t 15) (t 16) a d with x | x
          · omega
          · have hl := v1.2 _ x.1 x.2
            unfold endS at y
            split at y <;> omega
        · exact y.1
    · intro z
      rw [e9', if_neg (by omega)]
  by_cases G : (0 ≤ a ∧ a < t 267 0) ∧ (0 ≤ d ∧ d ≤ 9) ∧ (b = -2 ∨ (0 ≤ b ∧ b < t 267 0))
  · by_cases O : 0 ≤ outS (t 272 0) (t 13) (t 14) (t 15) (t 16) a d
    · have hb := hbo.1.mpr O
      rw [if_neg (fun z => z.2 O)] at ht2
      rw [if_neg (fun z => z.2 hb)] at ht1
      refine ⟨?_, by rw [ht2, ht1]; exact h⟩
      unfold playR playRM
      rw [if_pos G, if_pos G, if_pos O, if_pos hb, hbo.2 O]
      rw [hbo.2 O] at hb
      generalize endS (t 13) (t 14) (t 15) (outS (t 272 0) (t 13) (t 14) (t 15) (t 16) a d) a d = z at *
      by_cases y : z = b
      · rw [if_pos y, if_neg (by omega)]
      · rw [if_neg y, if_pos (Or.inr y)]
    · have hb : ¬ 0 ≤ beyS (t 272 0) (t 13) (t 14) (t 15) (t 16) a d := fun z => O (hbo.1.mp z)
      rw [if_pos ⟨G, O⟩] at ht2
      rw [if_pos ⟨G, hb⟩] at ht1
      have R0 : playR (t 267 0) (t 272 0) (t 13) (t 14) (t 15) (t 16) a d b = (if b = -2 then newR (t 267 0) (t 272 0) else plyR (t 272 0) (t 13) (t 14) (t 15) (t 16) a d b) := by unfold playR; rw [if_pos G, if_neg hb]
      have M0 : playRM (t 267 0) (t 272 0) (t 13) (t 14) (t 15) (t 16) a d b = (if b ≠ -2 ∧ 0 ≤ backS (t 272 0) (t 13) (t 14) (t 15) (t 16) a d b then b else if (b = -2 ∧ 24 ≤ t 267 0) ∨ 60 ≤ t 272 0 then -4 else if b = -2 then t 267 0 else b) := by unfold playRM; rw [if_pos G, if_neg O]
      by_cases hb2 : b = -2
      · rw [if_neg (fun z => z.1 hb2)] at ht2 M0
        rw [if_pos hb2] at ht1 R0
        unfold newR at R0
        unfold newC at ht1
        by_cases F : 24 ≤ t 267 0 ∨ 60 ≤ t 272 0
        · rw [if_pos F] at ht1 R0
          rw [if_pos (by omega)] at ht2 M0
          refine ⟨by rw [R0, M0], ?_⟩
          rw [ht2, ht1]
          exact h
        · rw [if_neg F] at ht1 R0
          rw [if_neg (by omega), if_pos hb2] at ht2 M0
          refine ⟨by rw [R0, M0], ?_⟩
          rw [ht2, ht1]
          exact JI_new h G.1 G.2.1 (v6 a G.1.1 G.1.2).2.1 (by omega) (by omega) O
      · have hbr2 : 0 ≤ b ∧ b < t 267 0 := by have := G.2.2; omega
        obtain ⟨bk1, bk2⟩ := back_iff (a := a) (b := b) v1 v2 G.2.1
        rw [if_neg hb2] at ht1 R0
        unfold plyR at R0
        unfold plyC at ht1
        by_cases B : backB (t 272 0) (t 13) (t 14) (t 15) (t 16) a d b
        · rw [if_pos B] at ht1
          rw [if_pos (Or.inl B)] at R0
          rw [if_pos ⟨hb2, bk1.mp B⟩] at ht2 M0
          refine ⟨by rw [R0, M0], ?_⟩
          rw [ht2, ht1, bk2 B]
          have hs := bk1.mp B
          unfold backS at hs ⊢
          rcases fst_spec (fun l => t 16 l = 0 ∧ t 13 l = b ∧ t 14 l = oppI d ∧ t 15 l = a) 0 (t 272 0) with ⟨a1, a2⟩ | ⟨a1, a2, a3, a4⟩
          · omega
          · exact JI_both h (a := a) (d := d) ⟨a1, a2⟩ O a3.2.2.2 (by rw [a3.2.2.1]; exact oppI_opp G.2.1)
        · have hs : ¬ 0 ≤ backS (t 272 0) (t 13) (t 14) (t 15) (t 16) a d b := fun z => B (bk1.mpr z)
          rw [if_neg B] at ht1
          rw [if_neg (fun z => hs z.2)] at ht2 M0
          by_cases F : 60 ≤ t 272 0
          · rw [if_pos F] at ht1
            rw [if_neg (by rintro (z | z); exact B z; exact z F)] at R0
            rw [if_pos (Or.inr F)] at ht2 M0
            refine ⟨by rw [R0, M0], ?_⟩
            rw [ht2, ht1]
            exact h
          · rw [if_neg F] at ht1
            rw [if_pos (Or.inr F)] at R0
            rw [if_neg (by omega), if_neg hb2] at ht2 M0
            refine ⟨by rw [R0, M0], ?_⟩
            rw [ht2, ht1]
            exact JI_lay1 h (by omega) G.1 G.2.1 hbr2 O
  · rw [if_neg (fun z => G z.1)] at ht2
    rw [if_neg (fun z => G z.1)] at ht1
    subst ht2 ht1
    refine ⟨?_, h⟩
    unfold playR playRM
    rw [if_neg G, if_neg G]
