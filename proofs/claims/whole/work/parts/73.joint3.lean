/-! BOTH SIDES: links are cut, things marked -/
theorem cut_map {k g : Int} {j : Int} (j0 : 0 ≤ j) (j1 : j < k - 1) : ∃ q, (0 ≤ q ∧ q < k) ∧ (∀ f : Int → Int, cutN f g (k - 1) j = f q) ∧ (q = j ∧ ¬ g ≤ j ∨ q = j + 1 ∧ g ≤ j) := by
  by_cases y : g ≤ j
  · exact ⟨j + 1, by omega, fun f => by unfold cutN; rw [if_pos ⟨y, j1⟩], Or.inr ⟨rfl, y⟩⟩
  · exact ⟨j, by omega, fun f => by unfold cutN; rw [if_neg (fun z => y z.1)], Or.inl ⟨rfl, y⟩⟩
theorem SOK_cut {n k g : Int} {fr di to bo : Int → Int} (h : SOK n k fr di to bo) (hk : 1 ≤ k) : SOK n (k - 1) (cutN fr g (k - 1)) (cutN di g (k - 1)) (cutN to g (k - 1)) (cutN bo g (k - 1)) := by
  refine ⟨⟨h.1.1, h.1.2.1, by omega, by have := h.1; omega⟩, fun l l0 l1 => ?_⟩
  obtain ⟨q, q1, q2, -⟩ := cut_map (g := g) l0 l1
  rw [q2, q2, q2, q2]
  exact h.2 q q1.1 q1.2
theorem UQ_cut {k g : Int} {fr di to bo : Int → Int} (h : UQ k fr di to bo) : UQ (k - 1) (cutN fr g (k - 1)) (cutN di g (k - 1)) (cutN to g (k - 1)) (cutN bo g (k - 1)) := by
  intro l1 l2 r w a0 a1 b0 b1 p1 p2
  obtain ⟨q, q1, q2, q3⟩ := cut_map (g := g) a0 a1
  obtain ⟨s, s1, s2, s3⟩ := cut_map (g := g) b0 b1
  unfold outP at p1 p2
  rw [q2, q2, q2, q2] at p1
  rw [s2, s2, s2, s2] at p2
  have := h q s r w q1.1 q1.2 s1.1 s1.2 p1 p2
  omega
theorem cutCT_at (t : Sto) (g : Int) : cutCT t g 272 0 = t 272 0 - 1 ∧ cutCT t g 13 = cutN (t 13) g (t 272 0 - 1) ∧ cutCT t g 14 = cutN (t 14) g (t 272 0 - 1) ∧ cutCT t g 15 = cutN (t 15) g (t 272 0 - 1) ∧ cutCT t g 16 = cutN (t 16) g (t 272 0 - 1) ∧ (∀ w, w ≠ 272 → w ≠ 13 → w ≠ 14 → w ≠ 15 → w ≠ 16 → cutCT t g w = t w) := by
  obtain ⟨a1, a2, a3, a4⟩ := cutC_at t g (t 272 0 - 1)
  unfold cutCT
  refine ⟨su_at _ _ _ _, ?_, ?_, ?_, ?_, fun w b1 b2 b3 b4 b5 => ?_⟩
  · rw [su_ne (by decide)]; exact a1
  · rw [su_ne (by decide)]; exact a2
  · rw [su_ne (by decide)]; exact a3
  · rw [su_ne (by decide)]; exact a4
  · rw [su_ne b1]; exact cutC_ne t _ _ ⟨b2, b3, b4, b5⟩
theorem J_cut {t : Sto} (h : JI t) (g : Int) : PAIR yX8_cut cX8_cut 2 1 yX9_cut cX9_cut 3 2 [mI g] t := by
  obtain ⟨⟨⟨e1, e2, e3, e4, e5, e6⟩, -⟩, ⟨v1, v2, v3, -⟩, -⟩ := id h
  refine ⟨_, c_X8_cut t g (JI_SC h) v3, fun r1 t1 hq => ?_⟩
  obtain ⟨rfl, ht1⟩ := hq
  have k1 : ∀ w, w ≠ 272 → w ≠ 13 → w ≠ 14 → w ≠ 15 → w ≠ 16 → t1 w = t w := fun v a1 a2 a3 a4 a5 => by
    rw [ht1]; unfold cutX8
    split
    · exact (cutCT_at t g).2.2.2.2.2 v a1 a2 a3 a4 a5
    · rfl
  have q1 := k1 2184 (by decide) (by decide) (by decide) (by decide) (by decide)
  have q2 := k1 2188 (by decide) (by decide) (by decide) (by decide) (by decide)
  have q3 := k1 35 (by decide) (by decide) (by decide) (by decide) (by decide)
  have q4 := k1 36 (by decide) (by decide) (by decide) (by decide) (by decide)
  have q5 := k1 37 (by decide) (by decide) (by decide) (by decide) (by decide)
  have q6 := k1 38 (by decide) (by decide) (by decide) (by decide) (by decide)
  refine ⟨_, rfl, _, c_X9_cut t1 g (by unfold SM; rw [q1, q2, q3, q4, q5, q6]; exact JI_SM h) (by rw [q6, e6]; exact v3), fun r2 t2 hq2 => ?_⟩
  obtain ⟨rfl, ht2⟩ := hq2
  unfold cutX9 at ht2
  rw [q2, e2] at ht2 ⊢
  refine ⟨rfl, ?_⟩
  unfold cutX8 at ht1
  by_cases y : 0 ≤ g ∧ g < t 272 0
  · rw [if_pos y] at ht1 ht2
    obtain ⟨a1, a2, a3, a4, a5, a6⟩ := cutCT_at t g
    obtain ⟨b1, b2, b3, b4, b5⟩ := cutM_at t1 g (t 272 0 - 1)
    rw [← ht1] at a1 a2 a3 a4 a5
    have k2 : ∀ w, w ≠ 2188 → w ≠ 35 → w ≠ 36 → w ≠ 37 → w ≠ 38 → t2 w = t1 w := fun w c1 c2 c3 c4 c5 => by
      rw [ht2]; unfold cutM
      rw [sv_ne c5, sv_ne c4, sv_ne c3, sv_ne c2, su_ne c1]
    rw [← ht2] at b1 b2 b3 b4 b5
    have d267 : t2 267 0 = t 267 0 := by rw [k2 267 (by decide) (by decide) (by decide) (by decide) (by decide), k1 267 (by decide) (by decide) (by decide) (by decide) (by decide)]
    have d272 : t2 272 0 = t 272 0 - 1 := by rw [k2 272 (by decide) (by decide) (by decide) (by decide) (by decide)]; exact a1
    have d13 : t2 13 = cutN (t 13) g (t 272 0 - 1) := by rw [k2 13 (by decide) (by decide) (by decide) (by decide) (by decide)]; exact a2
    have d14 : t2 14 = cutN (t 14) g (t 272 0 - 1) := by rw [k2 14 (by decide) (by decide) (by decide) (by decide) (by decide)]; exact a3
    have d15 : t2 15 = cutN (t 15) g (t 272 0 - 1) := by rw [k2 15 (by decide) (by decide) (by decide) (by decide) (by decide)]; exact a4
    have d16 : t2 16 = cutN (t 16) g (t 272 0 - 1) := by rw [k2 16 (by decide) (by decide) (by decide) (by decide) (by decide)]; exact a5
    refine JI_links h ?_ ?_ ?_ ?_ ?_ ?_ ?_ ?_ (fun w hw => by rw [k2 w hw.2.2.2.2.2.1 hw.2.2.2.2.2.2.1 hw.2.2.2.2.2.2.2.1 hw.2.2.2.2.2.2.2.2.1 hw.2.2.2.2.2.2.2.2.2]; exact k1 w hw.1 hw.2.1 hw.2.2.1 hw.2.2.2.1 hw.2.2.2.2.1)
    · rw [d267, d272, d13, d14, d15, d16]; exact SOK_cut v1 (by omega)
    · rw [d272, d13, d14, d15, d16]; exact UQ_cut v2
    · intro l; rw [d16]; unfold cutN; split
      · exact v3 _
      · exact v3 _
    · rw [b5, d272, q2, e2]
    · rw [b1, d13, q3, e3]
    · rw [b2, d14, q4, e4]
    · rw [b3, d15, q5, e5]
    · rw [b4, d16, q6, e6]
  · rw [if_neg y] at ht1 ht2
    subst ht2 ht1
    exact h
theorem J_mark {t : Sto} (h : JI t) (r x : Int) : PAIR yX8_mark cX8_mark 4 1 yX9_mark cX9_mark 4 2 [mI r, mI x] t := by
  obtain ⟨⟨⟨e1, e2, e3, e4, e5, e6⟩, ⟨e7, e8, e9⟩, ⟨e10, e11, e12, e13⟩, e14, e15, e16⟩, ⟨v1, v2, v3, v4, v5, v6, v7, v8⟩, ⟨n1, n2⟩⟩ := id h
  refine ⟨_, c_X8_mark t r x (JI_n h), fun r1 t1 hq => ?_⟩
  obtain ⟨rfl, ht1⟩ := hq
  have k1 : ∀ w, w ≠ 12 → t1 w = t w := fun v a1 => by
    rw [ht1]; unfold markC
    split
    · rw [su_ne a1]
    · rfl
  have q1 := k1 2184 (by decide)
  have q9 := k1 34 (by decide)
  refine ⟨_, rfl, _, c_X9_mark t1 r x (by rw [q1]; exact JI_nM h), fun r2 t2 hq2 => ?_⟩
  obtain ⟨rfl, ht2⟩ := hq2
  unfold markM at ht2
  rw [q1, e1] at ht2 ⊢
  rw [q9, e9]
  refine ⟨rfl, ?_⟩
  unfold markC at ht1
  by_cases y : (0 ≤ r ∧ r < t 267 0) ∧ (x = -2 ∨ (0 ≤ x ∧ x ≤ 9))
  · rw [if_pos y] at ht1 ht2
    have k2 : ∀ w, w ≠ 34 → w ≠ 12 → t2 w = t w := fun w c1 c2 => by rw [ht2, su_ne c1]; exact k1 w c2
    have d12 : t2 12 = fu (t 12) r x := by rw [ht2, su_ne (by decide), ht1, su_row, sv_at]
    have d34 : t2 34 = fu (t 34) r x := by rw [ht2, su_row, sv_at, q9]
    refine ⟨⟨⟨?_, ?_, ?_, ?_, ?_, ?_⟩, ⟨?_, ?_, ?_⟩, ⟨?_, ?_, ?_, ?_⟩, ?_, ?_, ?_⟩, ?_, ?_⟩
    · rw [k2 2184 (by decide) (by decide), k2 267 (by decide) (by decide)]; exact e1
    · rw [k2 2188 (by decide) (by decide), k2 272 (by decide) (by decide)]; exact e2
    · rw [k2 35 (by decide) (by decide), k2 13 (by decide) (by decide)]; exact e3
    · rw [k2 36 (by decide) (by decide), k2 14 (by decide) (by decide)]; exact e4
    · rw [k2 37 (by decide) (by decide), k2 15 (by decide) (by decide)]; exact e5
    · rw [k2 38 (by decide) (by decide), k2 16 (by decide) (by decide)]; exact e6
    · rw [k2 32 (by decide) (by decide), k2 10 (by decide) (by decide)]; exact e7
    · rw [k2 33 (by decide) (by decide), k2 11 (by decide) (by decide)]; exact e8
    · rw [d34, d12, e9]
    · rw [k2 39 (by decide) (by decide), k2 21 (by decide) (by decide)]; exact e10
    · rw [k2 40 (by decide) (by decide), k2 18 (by decide) (by decide)]; exact e11
    · rw [k2 41 (by decide) (by decide), k2 19 (by decide) (by decide)]; exact e12
    · rw [k2 42 (by decide) (by decide), k2 20 (by decide) (by decide)]; exact e13
    · rw [k2 43 (by decide) (by decide), k2 27 (by decide) (by decide)]; exact e14
    · rw [k2 2198 (by decide) (by decide), k2 529 (by decide) (by decide)]; exact e15
    · rw [k2 2197 (by decide) (by decide), k2 530 (by decide) (by decide)]; exact e16
    · unfold JVt
      rw [d12, k2 267 (by decide) (by decide), k2 272 (by decide) (by decide), k2 13 (by decide) (by decide), k2 14 (by decide) (by decide), k2 15 (by decide) (by decide), k2 16 (by decide) (by decide), k2 10 (by decide) (by decide), k2 11 (by decide) (by decide), k2 21 (by decide) (by decide), k2 18 (by decide) (by decide), k2 19 (by decide) (by decide), k2 20 (by decide) (by decide)]
      refine ⟨v1, v2, v3, v4, v5, fun q q0 q1 => ?_, v7, v8⟩
      obtain ⟨x1, x2, x3⟩ := v6 q q0 q1
      refine ⟨x1, x2, ?_⟩
      by_cases z : q = r
      · rw [z, fu_at]; exact y.2
      · rw [fu_ne z]; exact x3
    · unfold JN BNM
      rw [k2 22 (by decide) (by decide), k2 23 (by decide) (by decide), k2 24 (by decide) (by decide), k2 47 (by decide) (by decide), k2 48 (by decide) (by decide), k2 49 (by decide) (by decide)]
      exact ⟨n1, n2⟩
  · rw [if_neg y] at ht1 ht2
    subst ht2 ht1
    exact h
theorem su_cg {A B : Sto} {w v : Nat} {i x : Int} (h : B w = A w) : su B v i x w = su A v i x w := by
  funext j
  unfold su
  rw [h]
theorem back_iff {n k : Int} {fr di to bo : Int → Int} {a d b : Int} (hS : SOK n k fr di to bo) (hU : UQ k fr di to bo) (hd : 0 ≤ d ∧ d ≤ 9) : (backB k fr di to bo a d b ↔ 0 ≤ backS k fr di to bo a d b) ∧ (backB k fr di to bo a d b → outS k fr di to bo b (oppI d) = backS k fr di to bo a d b) := by
  have key : backB k fr di to bo a d b → 0 ≤ backS k fr di to bo a d b ∧ outS k fr di to bo b (oppI d) = backS k fr di to bo a d b := by
    rintro ⟨h1, h2, h3⟩
    unfold outS at h1 h2 h3 ⊢
    rcases fst_spec (outP fr di to bo b (oppI d)) 0 k with ⟨a1, a2⟩ | ⟨a1, a2, a3, a4⟩
    · omega
    · generalize fst (outP fr di to bo b (oppI d)) 0 k = l at *
      have hf : fr l = b ∧ di l = oppI d := by
        rcases a3 with z | ⟨z, -⟩
        · exact z
        · exact absurd h2 z
      have hu : backS k fr di to bo a d b = l := fst_uniq (P := fun l => bo l = 0 ∧ fr l = b ∧ di l = oppI d ∧ to l = a) a1 a2 ⟨h2, hf.1, hf.2, h3⟩ (fun j j0 j1 hj => hU j l b (oppI d) j0 j1 a1 a2 (Or.inl ⟨hj.2.1, hj.2.2.1⟩) a3)
      rw [hu]
      exact ⟨a1, rfl⟩
  refine ⟨⟨fun h => (key h).1, fun h => ?_⟩, fun h => (key h).2⟩
  unfold backS at h
  rcases fst_spec (fun l => bo l = 0 ∧ fr l = b ∧ di l = oppI d ∧ to l = a) 0 k with ⟨a1, a2⟩ | ⟨a1, a2, a3, a4⟩
  · omega
  · generalize fst (fun l => bo l = 0 ∧ fr l = b ∧ di l = oppI d ∧ to l = a) 0 k = l at *
    have hu : outS k fr di to bo b (oppI d) = l := fst_uniq (P := outP fr di to bo b (oppI d)) a1 a2 (Or.inl ⟨a3.2.1, a3.2.2.1⟩) (fun j j0 j1 hj => hU j l b (oppI d) j0 j1 a1 a2 hj (Or.inl ⟨a3.2.1, a3.2.2.1⟩))
    unfold backB
    rw [hu]
    exact ⟨a1, a3.1, a3.2.2.2⟩
theorem UQ_both {n k : Int} {fr di to bo : Int → Int} {a d l : Int} (hS : SOK n k fr di to bo) (h : UQ k fr di to bo) (h1 : ∀ j, 0 ≤ j → j < k → ¬ outP fr di to bo a d j) (hl : 0 ≤ l ∧ l < k) (ht : to l = a) (hd : oppI (di l) = d) : UQ k fr di to (fu bo l 1) := by
  have old : ∀ j r w, j ≠ l → (outP fr di to (fu bo l 1) r w j ↔ outP fr di to bo r w j) := fun j r w hj => by
    unfold outP
    rw [fu_ne hj]
  have new : ∀ r w, outP fr di to (fu bo l 1) r w l → outP fr di to bo r w l ∨ (r = a ∧ w = d) := fun r w hp => by
    rcases hp with z | ⟨-, z1, z2⟩
    · exact Or.inl (Or.inl z)
    · exact Or.inr ⟨by rw [← z1, ht], by rw [← z2, hd]⟩
  intro l1 l2 r w a0 a1 b0 b1 p1 p2
  by_cases y1 : l1 = l
  · by_cases y2 : l2 = l
    · omega
    · have q2 := (old l2 r w y2).mp p2
      subst y1
      rcases new r w p1 with z | ⟨z1, z2⟩
      · exact h l1 l2 r w a0 a1 b0 b1 z q2
      · subst z1 z2; exact absurd q2 (h1 l2 b0 b1)
  · have q1 := (old l1 r w y1).mp p1
    by_cases y2 : l2 = l
    · subst y2
      rcases new r w p2 with z | ⟨z1, z2⟩
      · exact h l1 l2 r w a0 a1 b0 b1 q1 z
      · subst z1 z2; exact absurd q1 (h1 l1 a0 a1)
    · exact h l1 l2 r w a0 a1 b0 b1 q1 ((old l2 r w y2).mp p2)
