/-! BOTH SIDES: what they have in common, and the calls that only ask -/
def JE (t : Sto) : Prop := (t 2184 0 = t 267 0 ∧ t 2188 0 = t 272 0 ∧ t 35 = t 13 ∧ t 36 = t 14 ∧ t 37 = t 15 ∧ t 38 = t 16) ∧ (t 32 = t 10 ∧ t 33 = t 11 ∧ t 34 = t 12) ∧ (t 39 = t 21 ∧ t 40 = t 18 ∧ t 41 = t 19 ∧ t 42 = t 20) ∧ (t 43 = t 27 ∧ t 2198 0 = t 529 0 ∧ t 2197 0 = t 530 0)
def JV (n k : Int) (fr di to bo wi re th ps xs ys ls : Int → Int) : Prop := SOK n k fr di to bo ∧ UQ k fr di to bo ∧ (∀ l, bo l = 0 ∨ bo l = 1) ∧ (∀ r, ps r = 0 ∨ ps r = 1) ∧ (∀ r, ¬ (0 ≤ r ∧ r < n) → ps r = 0) ∧ (∀ r, 0 ≤ r → r < n → (1 ≤ wi r ∧ wi r ≤ 5) ∧ (0 ≤ re r ∧ re r ≤ 9) ∧ (th r = -2 ∨ (0 ≤ th r ∧ th r ≤ 9))) ∧ (BN 60000 xs ∧ BN 60000 ys ∧ BN 60000 ls) ∧ BP n (52000 + 30 * cntP n ps) (ps, xs, ys, ls)
def JN (t : Sto) : Prop := (BN 1000 (t 22) ∧ BN 1000 (t 23) ∧ BN 1000 (t 24)) ∧ BNM t
abbrev JVt (t : Sto) : Prop := JV (t 267 0) (t 272 0) (t 13) (t 14) (t 15) (t 16) (t 10) (t 11) (t 12) (t 21) (t 18) (t 19) (t 20)
def JI (t : Sto) : Prop := JE t ∧ JVt t ∧ JN t
def PAIR (yc : MethodName) (cc : ByteArray) (nc dc : Nat) (ym : MethodName) (cm : ByteArray) (nm dm : Nat) (as : List MV) (t : Sto) : Prop := ∃ Qc, CT yc cc nc (some .int) dc (mP 0 :: as) t Qc ∧ ∀ r t1, Qc r t1 → ∃ x, r = some (mI x) ∧ ∃ Qm, CT ym cm nm (some .int) dm (mP 31 :: as) t1 Qm ∧ ∀ r2 t2, Qm r2 t2 → r2 = some (mI x) ∧ JI t2
def keptJ (w : Nat) : Prop := w ≠ 17 ∧ w ≠ 30 ∧ w ≠ 778 ∧ w ≠ 779 ∧ w ≠ 44 ∧ w ≠ 45 ∧ w ≠ 2201 ∧ w ≠ 56 ∧ w ≠ 46 ∧ w ≠ 47 ∧ w ≠ 48 ∧ w ≠ 49
theorem JI_kept {t u : Sto} (h : JI t) (hw : ∀ w, keptJ w → u w = t w) (hB : BNM u) : JI u := by
  obtain ⟨h1, h2, h3, -⟩ := h
  refine ⟨?_, ?_, ?_, hB⟩
  · unfold JE
    rw [hw 2184 (by unfold keptJ; decide), hw 2188 (by unfold keptJ; decide), hw 35 (by unfold keptJ; decide), hw 36 (by unfold keptJ; decide), hw 37 (by unfold keptJ; decide), hw 38 (by unfold keptJ; decide), hw 32 (by unfold keptJ; decide), hw 33 (by unfold keptJ; decide), hw 34 (by unfold keptJ; decide), hw 39 (by unfold keptJ; decide), hw 40 (by unfold keptJ; decide), hw 41 (by unfold keptJ; decide), hw 42 (by unfold keptJ; decide), hw 43 (by unfold keptJ; decide), hw 2198 (by unfold keptJ; decide), hw 2197 (by unfold keptJ; decide), hw 267 (by unfold keptJ; decide), hw 272 (by unfold keptJ; decide), hw 13 (by unfold keptJ; decide), hw 14 (by unfold keptJ; decide), hw 15 (by unfold keptJ; decide), hw 16 (by unfold keptJ; decide), hw 10 (by unfold keptJ; decide), hw 11 (by unfold keptJ; decide), hw 12 (by unfold keptJ; decide), hw 21 (by unfold keptJ; decide), hw 18 (by unfold keptJ; decide), hw 19 (by unfold keptJ; decide), hw 20 (by unfold keptJ; decide), hw 27 (by unfold keptJ; decide), hw 529 (by unfold keptJ; decide), hw 530 (by unfold keptJ; decide)]
    exact h1
  · unfold JVt
    rw [hw 267 (by unfold keptJ; decide), hw 272 (by unfold keptJ; decide), hw 13 (by unfold keptJ; decide), hw 14 (by unfold keptJ; decide), hw 15 (by unfold keptJ; decide), hw 16 (by unfold keptJ; decide), hw 10 (by unfold keptJ; decide), hw 11 (by unfold keptJ; decide), hw 12 (by unfold keptJ; decide), hw 21 (by unfold keptJ; decide), hw 18 (by unfold keptJ; decide), hw 19 (by unfold keptJ; decide), hw 20 (by unfold keptJ; decide)]
    exact h2
  · rw [hw 22 (by unfold keptJ; decide), hw 23 (by unfold keptJ; decide), hw 24 (by unfold keptJ; decide)]
    exact h3
theorem JI_SC {t : Sto} (h : JI t) : SC t := h.2.1.1
theorem JI_SM {t : Sto} (h : JI t) : SM t := by
  obtain ⟨⟨⟨e1, e2, e3, e4, e5, e6⟩, -⟩, hV, -⟩ := h
  unfold SM
  rw [e1, e2, e3, e4, e5, e6]
  exact hV.1
theorem JI_n {t : Sto} (h : JI t) : 0 ≤ t 267 0 ∧ t 267 0 ≤ 24 := ⟨h.2.1.1.1.1, h.2.1.1.1.2.1⟩
theorem JI_nM {t : Sto} (h : JI t) : 0 ≤ t 2184 0 ∧ t 2184 0 ≤ 24 := by rw [h.1.1.1]; exact JI_n h
theorem JI_b {t : Sto} (h : JI t) : BD (t 18) ∧ BD (t 19) ∧ BD (t 20) := ⟨BN_BD h.2.1.2.2.2.2.2.2.1.1 (by decide), BN_BD h.2.1.2.2.2.2.2.2.1.2.1 (by decide), BN_BD h.2.1.2.2.2.2.2.2.1.2.2 (by decide)⟩
theorem JI_bM {t : Sto} (h : JI t) : BD (t 40) ∧ BD (t 41) ∧ BD (t 42) := by
  rw [h.1.2.2.1.2.1, h.1.2.2.1.2.2.1, h.1.2.2.1.2.2.2]; exact JI_b h
theorem JI_QM {t : Sto} (h : JI t) : BN 60000 (t 40) ∧ BN 60000 (t 41) ∧ BN 60000 (t 42) := by
  rw [h.1.2.2.1.2.1, h.1.2.2.1.2.2.1, h.1.2.2.1.2.2.2]; exact h.2.1.2.2.2.2.2.2.1
theorem JI_pM {t : Sto} (h : JI t) : ∀ r, t 39 r = 0 ∨ t 39 r = 1 := by rw [h.1.2.2.1.1]; exact h.2.1.2.2.2.1
theorem JI_BM {t : Sto} (h : JI t) : BD (t 47) ∧ BD (t 48) ∧ BD (t 49) := ⟨BN_BD h.2.2.2.1 (by decide), BN_BD h.2.2.2.2.1 (by decide), BN_BD h.2.2.2.2.2 (by decide)⟩
theorem JI_sv {t : Sto} (h : JI t) {v : Nat} (f : Int → Int) (hv : (v == 17 || v == 30 || v == 44 || v == 45 || v == 56) = true) : JI (sv t v f) := by
  have hv' : v = 17 ∨ v = 30 ∨ v = 44 ∨ v = 45 ∨ v = 56 := by simpa [or_assoc] using hv
  refine JI_kept h (fun w hw => sv_ne (fun z => ?_)) ?_
  · unfold keptJ at hw; omega
  · unfold BNM
    rw [sv_ne (by omega), sv_ne (by omega), sv_ne (by omega)]
    exact h.2.2.2
theorem JI_load {t : Sto} (h : JI t) : JI (loadM t) := by
  refine JI_kept h (fun w hw => loadN_ne t _ ⟨hw.2.2.2.2.2.2.2.2.1, hw.2.2.2.2.2.2.2.2.2.1, hw.2.2.2.2.2.2.2.2.2.2.1, hw.2.2.2.2.2.2.2.2.2.2.2⟩) (load_BNM (JI_QM h) h.2.2.2)
theorem JI_fp {t : Sto} (h : JI t) : JI (fpM t) := by
  refine JI_kept h (fun w hw => fpM_ne t ⟨hw.2.2.2.2.1, hw.2.2.2.2.2.1, hw.2.2.2.2.2.2.1⟩) ?_
  unfold BNM
  rw [fpM_ne t (by decide), fpM_ne t (by decide), fpM_ne t (by decide)]
  exact h.2.2.2
theorem JI_dr {t : Sto} (h : JI t) : JI (drT t) := by
  refine JI_kept h (fun w hw => drT_ne t ⟨hw.2.2.1, hw.2.2.2.1⟩) ?_
  unfold BNM
  rw [drT_ne t (by decide), drT_ne t (by decide), drT_ne t (by decide)]
  exact h.2.2.2
theorem J_alike {t : Sto} (h : JI t) (g : Int) : PAIR yX8_alike cX8_alike 2 1 yX9_alike cX9_alike 5 1 [mI g] t := by
  refine ⟨_, c_X8_alike t g (JI_n h) (fun r r0 r1 => (h.2.1.2.2.2.2.2.1 r r0 r1).2.2), fun r t1 hq => ?_⟩
  obtain ⟨rfl, rfl⟩ := hq
  refine ⟨_, rfl, _, c_X9_alike t1 g (JI_nM h), fun r2 t2 hq2 => ?_⟩
  obtain ⟨rfl, rfl⟩ := hq2
  exact ⟨by rw [h.1.1.1, h.1.2.1.2.1, h.1.2.1.2.2], h⟩
theorem J_link {t : Sto} (h : JI t) (i w : Int) : PAIR yX8_link cX8_link 3 1 yX9_link cX9_link 3 2 [mI i, mI w] t := by
  refine ⟨_, c_X8_link t i w (JI_SC h), fun r t1 hq => ?_⟩
  obtain ⟨rfl, rfl⟩ := hq
  refine ⟨_, rfl, _, c_X9_link t1 i w (JI_SM h), fun r2 t2 hq2 => ?_⟩
  obtain ⟨rfl, rfl⟩ := hq2
  obtain ⟨⟨⟨e1, e2, e3, e4, e5, e6⟩, -⟩, -⟩ := id h
  exact ⟨by rw [e2, e3, e4, e5, e6], h⟩
theorem J_out {t : Sto} (h : JI t) (r w : Int) : PAIR yX8_out cX8_out 3 2 yX9_out cX9_out 3 2 [mI r, mI w] t := by
  refine ⟨_, c_X8_out t r w (JI_SC h), fun r t1 hq => ?_⟩
  obtain ⟨rfl, rfl⟩ := hq
  refine ⟨_, rfl, _, c_X9_out t1 _ w (JI_SM h), fun r2 t2 hq2 => ?_⟩
  obtain ⟨rfl, rfl⟩ := hq2
  obtain ⟨⟨⟨e1, e2, e3, e4, e5, e6⟩, -⟩, -⟩ := id h
  exact ⟨by rw [e1, e2, e3, e4, e5, e6], h⟩
theorem J_part {t : Sto} (h : JI t) (r : Int) : PAIR yX8_part cX8_part 2 3 yX9_part cX9_part 2 2 [mI r] t := by
  refine ⟨_, c_X8_part t r (JI_SC h), fun r1 t1 hq => ?_⟩
  obtain ⟨x, rfl, rfl, f, rfl⟩ := hq
  have h1 := JI_sv h f (v := 17) rfl
  refine ⟨_, rfl, _, c_X9_part _ r (JI_SM h1), fun r2 t2 hq2 => ?_⟩
  obtain ⟨x, rfl, rfl, h2⟩ := hq2
  obtain ⟨⟨⟨e1, e2, e3, e4, e5, e6⟩, -⟩, -⟩ := id h1
  refine ⟨?_, ?_⟩
  · rw [e1, e2, e3, e5]; simp (disch := decide) only [sv_ne]
  · rcases h2 with rfl | rfl
    · exact h1
    · exact JI_fp h1
theorem J_least {t : Sto} (h : JI t) (p : Int) : PAIR yX8_least cX8_least 2 1 yX9_least cX9_least 2 1 [mI p] t := by
  refine ⟨_, c_X8_least t p, fun r t1 hq => ?_⟩
  obtain ⟨rfl, rfl⟩ := hq
  refine ⟨_, rfl, _, c_X9_least t1 p, fun r2 t2 hq2 => ?_⟩
  obtain ⟨rfl, rfl⟩ := hq2
  exact ⟨by rw [h.1.2.2.2.1, h.1.2.2.2.2.1], h⟩
theorem J_steps {t : Sto} (h : JI t) : PAIR yX8_steps cX8_steps 1 0 yX9_steps cX9_steps 1 0 [] t := by
  refine ⟨_, c_X8_steps t, fun r t1 hq => ?_⟩
  obtain ⟨rfl, rfl⟩ := hq
  refine ⟨_, rfl, _, c_X9_steps t1, fun r2 t2 hq2 => ?_⟩
  obtain ⟨rfl, rfl⟩ := hq2
  exact ⟨by rw [h.1.2.2.2.2.2], h⟩
theorem J_place {t : Sto} (h : JI t) (r w : Int) : PAIR yX8_place cX8_place 3 1 yX9_place cX9_place 3 2 [mI r, mI w] t := by
  refine ⟨_, c_X8_place t r w (JI_n h), fun r1 t1 hq => ?_⟩
  obtain ⟨rfl, rfl⟩ := hq
  refine ⟨_, rfl, _, c_X9_place t1 r w (JI_nM h), fun r2 t2 hq2 => ?_⟩
  obtain ⟨rfl, rfl⟩ := hq2
  obtain ⟨⟨⟨e1, -⟩, -, ⟨e10, e11, e12, e13⟩, -⟩, -⟩ := id h
  exact ⟨by rw [e1, e10, e11, e12, e13], h⟩
theorem J_straight {t : Sto} (h : JI t) (l : Int) : PAIR yX8_straight cX8_straight 3 2 yX9_straight cX9_straight 3 4 [mI l] t := by
  obtain ⟨b1, b2, b3⟩ := JI_b h
  obtain ⟨c1, c2, c3⟩ := JI_bM h
  obtain ⟨d1, d2, d3⟩ := JI_BM h
  refine ⟨_, c_X8_straight t l (JI_SC h) b1 b2 b3, fun r1 t1 hq => ?_⟩
  obtain ⟨rfl, rfl⟩ := hq
  refine ⟨_, rfl, _, c_X9_straight t1 l (JI_SM h) (JI_pM h) c1 c2 c3 d1 d2 d3, fun r2 t2 hq2 => ?_⟩
  obtain ⟨x, rfl, rfl, h2⟩ := hq2
  obtain ⟨⟨⟨e1, e2, e3, e4, e5, e6⟩, -, ⟨e10, e11, e12, e13⟩, -⟩, -⟩ := id h
  refine ⟨by rw [e1, e2, e3, e4, e5, e10, e11, e12, e13], ?_⟩
  rcases h2 with rfl | rfl
  · exact h
  · exact JI_load h
theorem J_cost {t : Sto} (h : JI t) : PAIR yX8_cost cX8_cost 1 3 yX9_cost cX9_cost 1 5 [] t := by
  obtain ⟨b1, b2, b3⟩ := JI_b h
  obtain ⟨c1, c2, c3⟩ := JI_bM h
  obtain ⟨d1, d2, d3⟩ := JI_BM h
  refine ⟨_, c_X8_cost t (JI_SC h) b1 b2 b3, fun r1 t1 hq => ?_⟩
  obtain ⟨x, rfl, rfl, rfl⟩ := hq
  refine ⟨_, rfl, _, c_X9_cost t1 (JI_SM h) (JI_pM h) c1 c2 c3 d1 d2 d3, fun r2 t2 hq2 => ?_⟩
  obtain ⟨rfl, rfl⟩ := hq2
  obtain ⟨⟨⟨e1, e2, e3, e4, e5, e6⟩, -, ⟨e10, e11, e12, e13⟩, -⟩, -⟩ := id h
  exact ⟨by rw [e1, e2, e3, e4, e5, e10, e11, e12, e13], JI_load h⟩
theorem far_eq {n k : Int} {fr di to bo : Int → Int} (hS : SOK n k fr di to bo) (a b : Int) : farR 1000 n k fr to bo a b = farR 99 n k fr to bo a b := by
  unfold farR
  by_cases y : (0 ≤ a ∧ a < n) ∧ (0 ≤ b ∧ b < n)
  · rw [if_pos y, if_pos y]
    have hr := rel_dis (g := b) ⟨hS.1.1, hS.1.2.1⟩ hS.1.2.2.1 y.2 (bo := bo) (fun l l0 l1 => ⟨(hS.2 l l0 l1).1, (hS.2 l l0 l1).2.1⟩) a y.1.1 y.1.2
    have hn := hS.1.2.1
    rcases hr with ⟨z1, z2, z3⟩ | ⟨z1, z2⟩
    · rw [z1]
    · rw [z1, z2, if_neg (by omega), if_neg (by omega)]
  · rw [if_neg y, if_neg y]
theorem J_far {t : Sto} (h : JI t) (a b : Int) : PAIR yX8_far cX8_far 3 4 yX9_far cX9_far 3 2 [mI a, mI b] t := by
  refine ⟨_, c_X8_far t a b (JI_SC h), fun r1 t1 hq => ?_⟩
  obtain ⟨x, rfl, rfl, f, rfl⟩ := hq
  have h1 := JI_sv h f (v := 30) rfl
  refine ⟨_, rfl, _, c_X9_far _ a b (JI_SM h1), fun r2 t2 hq2 => ?_⟩
  obtain ⟨rfl, h2⟩ := hq2
  obtain ⟨⟨⟨e1, e2, e3, e4, e5, e6⟩, -⟩, -⟩ := id h1
  refine ⟨?_, ?_⟩
  · rw [e1, e2, e3, e5, e6]; simp (disch := decide) only [sv_ne]
    rw [far_eq (JI_SC h)]
  · rw [h2]
    split
    · exact JI_sv h1 _ (v := 56) rfl
    · exact h1
theorem J_step {t : Sto} (h : JI t) (a b j : Int) : PAIR yX8_step cX8_step 4 5 yX9_step cX9_step 10 3 [mI a, mI b, mI j] t := by
  refine ⟨_, c_X8_step t a b j (JI_SC h) h.2.1.2.1, fun r1 t1 hq => ?_⟩
  obtain ⟨x, rfl, rfl, f, rfl⟩ := hq
  have h1 := JI_sv h f (v := 30) rfl
  obtain ⟨⟨⟨e1, e2, e3, e4, e5, e6⟩, -⟩, -⟩ := id h1
  refine ⟨_, rfl, _, c_X9_step _ a b j (JI_SM h1) (by rw [e2, e3, e4, e5, e6]; exact h1.2.1.2.1), fun r2 t2 hq2 => ?_⟩
  obtain ⟨x, rfl, rfl, f2, rfl⟩ := hq2
  refine ⟨?_, JI_sv h1 _ (v := 56) rfl⟩
  rw [e1, e2, e3, e4, e5, e6]; simp (disch := decide) only [sv_ne]
  unfold stepR
  by_cases y : (0 ≤ a ∧ a < t 267 0) ∧ (0 ≤ b ∧ b < t 267 0)
  · rw [if_pos y, if_pos y, stp_eq (JI_SC h) h.2.1.2.1 y.1 y.2]
  · rw [if_neg y, if_neg y]
theorem J_sign {t : Sto} (h : JI t) (v c q : Int) (hc : c ≤ 2147483647) (hq : q ≤ 2147483647) : PAIR yX8_sign cX8_sign 4 5 yX9_sign cX9_sign 10 4 [mI v, mI c, mI q] t := by
  obtain ⟨b1, b2, b3⟩ := JI_b h
  refine ⟨_, c_X8_sign t v c q (JI_SC h) b1 b2 b3 (fun r r0 r1 => (h.2.1.2.2.2.2.2.1 r r0 r1).1) hc hq, fun r1 t1 hq1 => ?_⟩
  obtain ⟨x, rfl, rfl, h2⟩ := hq1
  have h1 : JI t1 := by
    rcases h2 with rfl | rfl
    · exact h
    · exact JI_dr h
  have k1 : ∀ w, w ≠ 778 ∧ w ≠ 779 → t1 w = t w := fun w hw => by
    rcases h2 with rfl | rfl
    · rfl
    · exact drT_ne t hw
  obtain ⟨c1, c2, c3⟩ := JI_bM h1
  obtain ⟨d1, d2, d3⟩ := JI_BM h1
  obtain ⟨⟨⟨e1, e2, e3, e4, e5, e6⟩, ⟨e7, e8, e9⟩, ⟨e10, e11, e12, e13⟩, -⟩, -⟩ := id h1
  refine ⟨_, rfl, _, c_X9_sign t1 v c q (JI_SM h1) (JI_pM h1) c1 c2 c3 d1 d2 d3 (fun r r0 r1 => by rw [e7]; rw [e1] at r1; exact (h1.2.1.2.2.2.2.2.1 r r0 r1).1) hc hq, fun r2 t2 hq2 => ?_⟩
  obtain ⟨x, rfl, rfl, h3⟩ := hq2
  refine ⟨?_, ?_⟩
  · rw [e1, e2, e3, e4, e5, e6, e7, e10, e11, e12, e13, k1 267 (by decide), k1 272 (by decide), k1 13 (by decide), k1 14 (by decide), k1 15 (by decide), k1 16 (by decide), k1 10 (by decide), k1 21 (by decide), k1 18 (by decide), k1 19 (by decide), k1 20 (by decide)]
  · rcases h3 with rfl | rfl
    · exact h1
    · exact JI_load h1
theorem J_told {t : Sto} (h : JI t) (w : Int) : PAIR yX8_told cX8_told 2 3 yX9_told cX9_told 8 1 [mI w] t := by
  obtain ⟨b1, b2, b3⟩ := JI_b h
  refine ⟨_, c_X8_told t w (JI_SC h) b1 b2, fun r1 t1 hq => ?_⟩
  obtain ⟨x, rfl, rfl, f, rfl⟩ := hq
  have h1 := JI_sv h f (v := 17) rfl
  obtain ⟨c1, c2, c3⟩ := JI_bM h1
  obtain ⟨⟨⟨e1, e2, e3, e4, e5, e6⟩, -, ⟨e10, e11, e12, e13⟩, -⟩, -⟩ := id h1
  refine ⟨_, rfl, _, c_X9_told _ w (JI_SM h1) c1 c2, fun r2 t2 hq2 => ?_⟩
  obtain ⟨rfl, rfl⟩ := hq2
  refine ⟨?_, JI_fp h1⟩
  rw [e1, e2, e3, e5, e10, e11, e12, e13]; simp (disch := decide) only [sv_ne]
