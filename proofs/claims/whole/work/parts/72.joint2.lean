/-! BOTH SIDES: rooms and links come and go -/
theorem sumI_right {c : Int → Int} {k : Int} : ∀ l, l ≤ k → sumI c l (k + 1) = sumI c l k + c k := by
  refine up_ind (fun l hl ih => ?_)
  rcases Int.lt_or_le l k with h | h
  · rw [sumI_lt (l := l) (k := k + 1) (by omega), sumI_lt (l := l) (k := k) h, ih h]; omega
  · rw [show l = k by omega, sumI_lt (by omega), sumI_ge (l := k + 1) (by omega), sumI_ge (l := k) (k := k) (by omega)]; omega
theorem cntP_succ {n : Int} (hn : 0 ≤ n) {ps : Int → Int} (h : ps n = 0) : cntP (n + 1) ps = cntP n ps := by
  unfold cntP
  rw [sumI_right 0 hn]
  unfold cpl
  rw [if_neg (by rw [h]; decide)]
  exact Int.add_zero _
def keptRm (w : Nat) : Prop := w ≠ 267 ∧ w ≠ 10 ∧ w ≠ 11 ∧ w ≠ 12 ∧ w ≠ 2184 ∧ w ≠ 32 ∧ w ≠ 33 ∧ w ≠ 34 ∧ w ≠ 39
theorem JI_room {t u : Sto} (h : JI t) {w g : Int} (hw : 1 ≤ w ∧ w ≤ 5) (hg : 0 ≤ g ∧ g ≤ 9) (hn : t 267 0 < 24) (c1 : u 267 0 = t 267 0 + 1) (c2 : u 10 = fu (t 10) (t 267 0) w) (c3 : u 11 = fu (t 11) (t 267 0) g) (c4 : u 12 = fu (t 12) (t 267 0) (-2)) (m1 : u 2184 0 = t 2184 0 + 1) (m2 : u 32 = fu (t 32) (t 2184 0) w) (m3 : u 33 = fu (t 33) (t 2184 0) g) (m4 : u 34 = fu (t 34) (t 2184 0) (-2)) (m5 : u 39 = fu (t 39) (t 2184 0) 0) (k : ∀ w, keptRm w → u w = t w) : JI u := by
  obtain ⟨⟨⟨e1, e2, e3, e4, e5, e6⟩, ⟨e7, e8, e9⟩, ⟨e10, e11, e12, e13⟩, e14, e15, e16⟩, ⟨v1, v2, v3, v4, v5, v6, v7, v8⟩, ⟨n1, n2⟩⟩ := h
  have hps : t 21 (t 267 0) = 0 := v5 _ (by omega)
  have hn0 := v1.1.1
  refine ⟨⟨⟨?_, ?_, ?_, ?_, ?_, ?_⟩, ⟨?_, ?_, ?_⟩, ⟨?_, ?_, ?_, ?_⟩, ?_, ?_, ?_⟩, ?_, ?_⟩
  · rw [m1, c1, e1]
  · rw [k 2188 (by unfold keptRm; decide), k 272 (by unfold keptRm; decide)]; exact e2
  · rw [k 35 (by unfold keptRm; decide), k 13 (by unfold keptRm; decide)]; exact e3
  · rw [k 36 (by unfold keptRm; decide), k 14 (by unfold keptRm; decide)]; exact e4
  · rw [k 37 (by unfold keptRm; decide), k 15 (by unfold keptRm; decide)]; exact e5
  · rw [k 38 (by unfold keptRm; decide), k 16 (by unfold keptRm; decide)]; exact e6
  · rw [m2, c2, e1, e7]
  · rw [m3, c3, e1, e8]
  · rw [m4, c4, e1, e9]
  · rw [m5, k 21 (by unfold keptRm; decide), e1, e10]
    have hf := fu_id (t 21) (t 267 0)
    rw [hps] at hf
    exact hf
  · rw [k 40 (by unfold keptRm; decide), k 18 (by unfold keptRm; decide)]; exact e11
  · rw [k 41 (by unfold keptRm; decide), k 19 (by unfold keptRm; decide)]; exact e12
  · rw [k 42 (by unfold keptRm; decide), k 20 (by unfold keptRm; decide)]; exact e13
  · rw [k 43 (by unfold keptRm; decide), k 27 (by unfold keptRm; decide)]; exact e14
  · rw [k 2198 (by unfold keptRm; decide), k 529 (by unfold keptRm; decide)]; exact e15
  · rw [k 2197 (by unfold keptRm; decide), k 530 (by unfold keptRm; decide)]; exact e16
  · unfold JVt
    rw [c1, c2, c3, c4, k 272 (by unfold keptRm; decide), k 13 (by unfold keptRm; decide), k 14 (by unfold keptRm; decide), k 15 (by unfold keptRm; decide), k 16 (by unfold keptRm; decide), k 21 (by unfold keptRm; decide), k 18 (by unfold keptRm; decide), k 19 (by unfold keptRm; decide), k 20 (by unfold keptRm; decide)]
    refine ⟨⟨⟨by omega, by omega, v1.1.2.2⟩, fun l l0 l1 => ?_⟩, v2, v3, v4, fun r hr => v5 r (by omega), fun r r0 r1 => ?_, v7, ?_⟩
    · obtain ⟨x1, x2, x3⟩ := v1.2 l l0 l1
      exact ⟨by omega, by omega, x3⟩
    · by_cases y : r = t 267 0
      · rw [y, fu_at, fu_at, fu_at]; exact ⟨hw, hg, Or.inl rfl⟩
      · rw [fu_ne y, fu_ne y, fu_ne y]; exact v6 r r0 (by omega)
    · rw [cntP_succ hn0 hps]
      intro r r0 r1 r2
      have : r ≠ t 267 0 := fun z => r2 (by rw [z]; exact hps)
      exact v8 r r0 (by omega) r2
  · unfold JN BNM
    rw [k 22 (by unfold keptRm; decide), k 23 (by unfold keptRm; decide), k 24 (by unfold keptRm; decide), k 47 (by unfold keptRm; decide), k 48 (by unfold keptRm; decide), k 49 (by unfold keptRm; decide)]
    exact ⟨n1, n2⟩
def keptLk (w : Nat) : Prop := w ≠ 272 ∧ w ≠ 13 ∧ w ≠ 14 ∧ w ≠ 15 ∧ w ≠ 16 ∧ w ≠ 2188 ∧ w ≠ 35 ∧ w ≠ 36 ∧ w ≠ 37 ∧ w ≠ 38
theorem JI_links {t u : Sto} (h : JI t) (hS : SOK (u 267 0) (u 272 0) (u 13) (u 14) (u 15) (u 16)) (hU : UQ (u 272 0) (u 13) (u 14) (u 15) (u 16)) (hb : ∀ l, u 16 l = 0 ∨ u 16 l = 1) (q2 : u 2188 0 = u 272 0) (q3 : u 35 = u 13) (q4 : u 36 = u 14) (q5 : u 37 = u 15) (q6 : u 38 = u 16) (k : ∀ w, keptLk w → u w = t w) : JI u := by
  obtain ⟨⟨⟨e1, e2, e3, e4, e5, e6⟩, ⟨e7, e8, e9⟩, ⟨e10, e11, e12, e13⟩, e14, e15, e16⟩, ⟨v1, v2, v3, v4, v5, v6, v7, v8⟩, ⟨n1, n2⟩⟩ := h
  refine ⟨⟨⟨?_, q2, q3, q4, q5, q6⟩, ⟨?_, ?_, ?_⟩, ⟨?_, ?_, ?_, ?_⟩, ?_, ?_, ?_⟩, ?_, ?_⟩
  · rw [k 2184 (by unfold keptLk; decide), k 267 (by unfold keptLk; decide)]; exact e1
  · rw [k 32 (by unfold keptLk; decide), k 10 (by unfold keptLk; decide)]; exact e7
  · rw [k 33 (by unfold keptLk; decide), k 11 (by unfold keptLk; decide)]; exact e8
  · rw [k 34 (by unfold keptLk; decide), k 12 (by unfold keptLk; decide)]; exact e9
  · rw [k 39 (by unfold keptLk; decide), k 21 (by unfold keptLk; decide)]; exact e10
  · rw [k 40 (by unfold keptLk; decide), k 18 (by unfold keptLk; decide)]; exact e11
  · rw [k 41 (by unfold keptLk; decide), k 19 (by unfold keptLk; decide)]; exact e12
  · rw [k 42 (by unfold keptLk; decide), k 20 (by unfold keptLk; decide)]; exact e13
  · rw [k 43 (by unfold keptLk; decide), k 27 (by unfold keptLk; decide)]; exact e14
  · rw [k 2198 (by unfold keptLk; decide), k 529 (by unfold keptLk; decide)]; exact e15
  · rw [k 2197 (by unfold keptLk; decide), k 530 (by unfold keptLk; decide)]; exact e16
  · refine ⟨hS, hU, hb, ?_⟩
    rw [k 267 (by unfold keptLk; decide), k 10 (by unfold keptLk; decide), k 11 (by unfold keptLk; decide), k 12 (by unfold keptLk; decide), k 21 (by unfold keptLk; decide), k 18 (by unfold keptLk; decide), k 19 (by unfold keptLk; decide), k 20 (by unfold keptLk; decide)]
    exact ⟨v4, v5, v6, v7, v8⟩
  · unfold JN BNM
    rw [k 22 (by unfold keptLk; decide), k 23 (by unfold keptLk; decide), k 24 (by unfold keptLk; decide), k 47 (by unfold keptLk; decide), k 48 (by unfold keptLk; decide), k 49 (by unfold keptLk; decide)]
    exact ⟨n1, n2⟩
theorem UQ_add {k : Int} {fr di to bo : Int → Int} {a d b o : Int} (h : UQ k fr di to bo) (h1 : ∀ l, 0 ≤ l → l < k → ¬ outP fr di to bo a d l) (h2 : o ≠ 0 → ∀ l, 0 ≤ l → l < k → ¬ outP fr di to bo b (oppI d) l) : UQ (k + 1) (fu fr k a) (fu di k d) (fu to k b) (fu bo k o) := by
  have old : ∀ l r w, l ≠ k → (outP (fu fr k a) (fu di k d) (fu to k b) (fu bo k o) r w l ↔ outP fr di to bo r w l) := fun l r w hl => by
    unfold outP
    rw [fu_ne hl, fu_ne hl, fu_ne hl, fu_ne hl]
  have new : ∀ r w, outP (fu fr k a) (fu di k d) (fu to k b) (fu bo k o) r w k → ∀ l, 0 ≤ l → l < k → ¬ outP fr di to bo r w l := fun r w hp l l0 l1 => by
    unfold outP at hp
    rw [fu_at, fu_at, fu_at, fu_at] at hp
    rcases hp with ⟨x1, x2⟩ | ⟨x1, x2, x3⟩
    · subst x1 x2; exact h1 l l0 l1
    · subst x2 x3; exact h2 x1 l l0 l1
  intro l1 l2 r w a0 a1 b0 b1 p1 p2
  by_cases y1 : l1 = k
  · by_cases y2 : l2 = k
    · omega
    · exfalso
      subst y1
      exact new r w p1 l2 b0 (by omega) ((old l2 r w y2).mp p2)
  · by_cases y2 : l2 = k
    · exfalso
      subst y2
      exact new r w p2 l1 a0 (by omega) ((old l1 r w y1).mp p1)
    · exact h l1 l2 r w a0 (by omega) b0 (by omega) ((old l1 r w y1).mp p1) ((old l2 r w y2).mp p2)
theorem SOK_add {n k : Int} {fr di to bo : Int → Int} {a d b o : Int} (h : SOK n k fr di to bo) (hk : k < 60) (ha : 0 ≤ a ∧ a < n) (hd : 0 ≤ d ∧ d ≤ 9) (hb : 0 ≤ b ∧ b < n) (ho : o = 0 ∨ o = 1) : SOK n (k + 1) (fu fr k a) (fu di k d) (fu to k b) (fu bo k o) := by
  refine ⟨⟨h.1.1, h.1.2.1, by have := h.1; omega, by omega⟩, fun l l0 l1 => ?_⟩
  by_cases y : l = k
  · subst y
    rw [fu_at, fu_at, fu_at, fu_at]
    exact ⟨ha, hb, hd, ho⟩
  · rw [fu_ne y, fu_ne y, fu_ne y, fu_ne y]
    exact h.2 l l0 (by omega)
theorem out_none {k : Int} {fr di to bo : Int → Int} {r w : Int} (h : ¬ 0 ≤ outS k fr di to bo r w) : ∀ l, 0 ≤ l → l < k → ¬ outP fr di to bo r w l := by
  unfold outS at h
  exact (fst_lo (Int.le_refl _)).mp (by omega)
/-- a link is laid on both sides -/
theorem JI_lay {t u : Sto} (h : JI t) {a d b o : Int} (hk : t 272 0 < 60) (ha : 0 ≤ a ∧ a < t 267 0) (hd : 0 ≤ d ∧ d ≤ 9) (hb : 0 ≤ b ∧ b < t 267 0) (ho : o = 0 ∨ o = 1) (h1 : ¬ 0 ≤ outS (t 272 0) (t 13) (t 14) (t 15) (t 16) a d) (h2 : o ≠ 0 → ¬ 0 ≤ outS (t 272 0) (t 13) (t 14) (t 15) (t 16) b (oppI d)) (c1 : u 272 0 = t 272 0 + 1) (c2 : u 13 = fu (t 13) (t 272 0) a) (c3 : u 14 = fu (t 14) (t 272 0) d) (c4 : u 15 = fu (t 15) (t 272 0) b) (c5 : u 16 = fu (t 16) (t 272 0) o) (m1 : u 2188 0 = t 2188 0 + 1) (m2 : u 35 = fu (t 35) (t 2188 0) a) (m3 : u 36 = fu (t 36) (t 2188 0) d) (m4 : u 37 = fu (t 37) (t 2188 0) b) (m5 : u 38 = fu (t 38) (t 2188 0) o) (k : ∀ w, keptLk w → u w = t w) : JI u := by
  obtain ⟨⟨⟨e1, e2, e3, e4, e5, e6⟩, -⟩, ⟨v1, v2, v3, -⟩, -⟩ := id h
  have k267 := k 267 (by unfold keptLk; decide)
  refine JI_links h ?_ ?_ ?_ (by rw [m1, c1, e2]) (by rw [m2, c2, e2, e3]) (by rw [m3, c3, e2, e4]) (by rw [m4, c4, e2, e5]) (by rw [m5, c5, e2, e6]) k
  · rw [k267, c1, c2, c3, c4, c5]; exact SOK_add v1 hk ha hd hb ho
  · rw [c1, c2, c3, c4, c5]; exact UQ_add v2 (out_none h1) (fun z => out_none (h2 z))
  · intro l
    rw [c5]
    by_cases y : l = t 272 0
    · rw [y, fu_at]; exact ho
    · rw [fu_ne y]; exact v3 l
theorem J_room {t : Sto} (h : JI t) (w g : Int) : PAIR yX8_room cX8_room 3 2 yX9_room cX9_room 3 1 [mI w, mI g] t := by
  obtain ⟨⟨⟨e1, -⟩, -⟩, -⟩ := id h
  refine ⟨_, c_X8_room t w g (JI_n h), fun r1 t1 hq => ?_⟩
  obtain ⟨rfl, ht1⟩ := hq
  have k1 : ∀ w, w ≠ 267 → w ≠ 10 → w ≠ 11 → w ≠ 12 → t1 w = t w := fun v a1 a2 a3 a4 => by
    rw [ht1]; unfold roomC addRoomC
    split
    · rw [su_ne a1, su_ne a4, su_ne a3, su_ne a2]
    · rfl
  have k2184 : t1 2184 0 = t 267 0 := by rw [k1 2184 (by decide) (by decide) (by decide) (by decide)]; exact e1
  refine ⟨_, rfl, _, c_X9_room t1 w g (by rw [k2184]; exact JI_n h), fun r2 t2 hq2 => ?_⟩
  obtain ⟨rfl, ht2⟩ := hq2
  rw [k2184]
  refine ⟨rfl, ?_⟩
  unfold roomM at ht2
  rw [k2184] at ht2
  unfold roomC at ht1
  by_cases y : (1 ≤ w ∧ w ≤ 5 ∧ 0 ≤ g ∧ g ≤ 9) ∧ ¬ 24 ≤ t 267 0
  · rw [if_pos y] at ht1 ht2
    subst ht2
    unfold addRoomM
    rw [k2184]
    have m39 := k1 39 (by decide) (by decide) (by decide) (by decide)
    have m32 := k1 32 (by decide) (by decide) (by decide) (by decide)
    have m33 := k1 33 (by decide) (by decide) (by decide) (by decide)
    have m34 := k1 34 (by decide) (by decide) (by decide) (by decide)
    refine JI_room h (w := w) (g := g) ⟨y.1.1, y.1.2.1⟩ ⟨y.1.2.2.1, y.1.2.2.2⟩ (by omega) ?_ ?_ ?_ ?_ ?_ ?_ ?_ ?_ ?_ (fun v hv => ?_)
    · rw [su_ne (by decide), su_ne (by decide), su_ne (by decide), su_ne (by decide), su_ne (by decide), ht1]; unfold addRoomC; rw [su_at]
    · rw [su_ne (by decide), su_ne (by decide), su_ne (by decide), su_ne (by decide), su_ne (by decide), ht1]; unfold addRoomC; rw [su_ne (by decide), su_ne (by decide), su_ne (by decide), su_row, sv_at]
    · rw [su_ne (by decide), su_ne (by decide), su_ne (by decide), su_ne (by decide), su_ne (by decide), ht1]; unfold addRoomC; rw [su_ne (by decide), su_ne (by decide), su_row, sv_at, su_ne (by decide)]
    · rw [su_ne (by decide), su_ne (by decide), su_ne (by decide), su_ne (by decide), su_ne (by decide), ht1]; unfold addRoomC; rw [su_ne (by decide), su_row, sv_at, su_ne (by decide), su_ne (by decide)]
    · rw [su_at, e1]
    · rw [su_ne (by decide), su_ne (by decide), su_ne (by decide), su_ne (by decide), su_row, sv_at, m32, e1]
    · rw [su_ne (by decide), su_ne (by decide), su_ne (by decide), su_row, sv_at, su_ne (by decide), m33, e1]
    · rw [su_ne (by decide), su_ne (by decide), su_row, sv_at, su_ne (by decide), su_ne (by decide), m34, e1]
    · rw [su_ne (by decide), su_row, sv_at, su_ne (by decide), su_ne (by decide), su_ne (by decide), m39, e1]
    · rw [su_ne hv.2.2.2.2.1, su_ne hv.2.2.2.2.2.2.2.2, su_ne hv.2.2.2.2.2.2.2.1, su_ne hv.2.2.2.2.2.2.1, su_ne hv.2.2.2.2.2.1]
      exact k1 v hv.1 hv.2.1 hv.2.2.1 hv.2.2.2.1
  · rw [if_neg y] at ht1 ht2
    subst ht2 ht1
    exact h
theorem J_exit {t : Sto} (h : JI t) (a d b o : Int) (ho : o = 0 ∨ o = 1) : PAIR yX8_exit cX8_exit 6 2 yX9_exit cX9_exit 5 2 [mI a, mI d, mI b, mI o] t := by
  obtain ⟨⟨⟨e1, e2, e3, e4, e5, e6⟩, -⟩, -⟩ := id h
  refine ⟨_, c_X8_exit t a d b o (JI_SC h) ho, fun r1 t1 hq => ?_⟩
  obtain ⟨rfl, ht1⟩ := hq
  have k1 : ∀ w, w ≠ 272 → w ≠ 13 → w ≠ 14 → w ≠ 15 → w ≠ 16 → t1 w = t w := fun v a1 a2 a3 a4 a5 => by
    rw [ht1]; unfold exitC addLinkC
    split
    · rw [su_ne a1, su_ne a5, su_ne a4, su_ne a3, su_ne a2]
    · rfl
  have q1 := k1 2184 (by decide) (by decide) (by decide) (by decide) (by decide)
  have q2 := k1 2188 (by decide) (by decide) (by decide) (by decide) (by decide)
  have q3 := k1 35 (by decide) (by decide) (by decide) (by decide) (by decide)
  have q4 := k1 36 (by decide) (by decide) (by decide) (by decide) (by decide)
  have q5 := k1 37 (by decide) (by decide) (by decide) (by decide) (by decide)
  have q6 := k1 38 (by decide) (by decide) (by decide) (by decide) (by decide)
  refine ⟨_, rfl, _, c_X9_exit t1 a d b o (by unfold SM; rw [q1, q2, q3, q4, q5, q6]; exact JI_SM h) ho, fun r2 t2 hq2 => ?_⟩
  obtain ⟨rfl, ht2⟩ := hq2
  unfold exitM at ht2
  rw [q1, q2, q3, q4, q5, q6, e1, e2, e3, e4, e5, e6] at ht2 ⊢
  refine ⟨rfl, ?_⟩
  unfold exitC at ht1
  by_cases y : 0 ≤ exitR (t 267 0) (t 272 0) (t 13) (t 14) (t 15) (t 16) a d b o
  · rw [if_pos y] at ht1 ht2
    have hx : (0 ≤ a ∧ a < t 267 0 ∧ 0 ≤ d ∧ d ≤ 9 ∧ 0 ≤ b ∧ b < t 267 0) ∧ ¬ (0 ≤ outS (t 272 0) (t 13) (t 14) (t 15) (t 16) a d ∨ (o ≠ 0 ∧ 0 ≤ outS (t 272 0) (t 13) (t 14) (t 15) (t 16) b (oppI d))) ∧ ¬ 60 ≤ t 272 0 := by
      unfold exitR at y
      split at y
      · next z1 =>
        split at y
        · omega
        · next z2 =>
          split at y
          · omega
          · next z3 => exact ⟨z1, z2, z3⟩
      · omega
    obtain ⟨x1, x2, x3⟩ := hx
    subst ht2
    unfold layM
    rw [q2]
    refine JI_lay h (a := a) (d := d) (b := b) (o := o) (by omega) ⟨x1.1, x1.2.1⟩ ⟨x1.2.2.1, x1.2.2.2.1⟩ ⟨x1.2.2.2.2.1, x1.2.2.2.2.2⟩ ho (fun z => x2 (Or.inl z)) (fun z1 z2 => x2 (Or.inr ⟨z1, z2⟩)) ?_ ?_ ?_ ?_ ?_ ?_ ?_ ?_ ?_ ?_ (fun v hv => ?_)
    · rw [su_ne (by decide), su_ne (by decide), su_ne (by decide), su_ne (by decide), su_ne (by decide), ht1]; unfold addLinkC; rw [su_at]
    · rw [su_ne (by decide), su_ne (by decide), su_ne (by decide), su_ne (by decide), su_ne (by decide), ht1]; unfold addLinkC; rw [su_ne (by decide), su_ne (by decide), su_ne (by decide), su_ne (by decide), su_row, sv_at]
    · rw [su_ne (by decide), su_ne (by decide), su_ne (by decide), su_ne (by decide), su_ne (by decide), ht1]; unfold addLinkC; rw [su_ne (by decide), su_ne (by decide), su_ne (by decide), su_row, sv_at, su_ne (by decide)]
    · rw [su_ne (by decide), su_ne (by decide), su_ne (by decide), su_ne (by decide), su_ne (by decide), ht1]; unfold addLinkC; rw [su_ne (by decide), su_ne (by decide), su_row, sv_at, su_ne (by decide), su_ne (by decide)]
    · rw [su_ne (by decide), su_ne (by decide), su_ne (by decide), su_ne (by decide), su_ne (by decide), ht1]; unfold addLinkC; rw [su_ne (by decide), su_row, sv_at, su_ne (by decide), su_ne (by decide), su_ne (by decide)]
    · rw [su_at]
    · rw [su_ne (by decide), su_ne (by decide), su_ne (by decide), su_ne (by decide), su_row, sv_at, q3]
    · rw [su_ne (by decide), su_ne (by decide), su_ne (by decide), su_row, sv_at, su_ne (by decide), q4]
    · rw [su_ne (by decide), su_ne (by decide), su_row, sv_at, su_ne (by decide), su_ne (by decide), q5]
    · rw [su_ne (by decide), su_row, sv_at, su_ne (by decide), su_ne (by decide), su_ne (by decide), q6]
    · rw [su_ne hv.2.2.2.2.2.1, su_ne hv.2.2.2.2.2.2.2.2.2, su_ne hv.2.2.2.2.2.2.2.2.1, su_ne hv.2.2.2.2.2.2.2.1, su_ne hv.2.2.2.2.2.2.1]
      exact k1 v hv.1 hv.2.1 hv.2.2.1 hv.2.2.2.1 hv.2.2.2.2.1
  · rw [if_neg y] at ht1 ht2
    subst ht2 ht1
    exact h
