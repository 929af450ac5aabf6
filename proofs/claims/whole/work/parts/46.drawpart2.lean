/-! DRAWING A PART: the class, walked -/
noncomputable def s3F (s : Sto) : Sto := su (su (su (su (su (su (sv (ktS s (s 527 0)) 25 (glue (ktS s (s 527 0) 267 0) (fun _ => 0) (ktS s (s 527 0) 25))) 532 0 0) 533 0 0) 534 0 3600) 650 0 0) 651 0 0) 652 0 0
theorem s3_ne (s : Sto) {w : Nat} (h : w ≠ 18 ∧ w ≠ 19 ∧ w ≠ 20 ∧ w ≠ 21 ∧ w ≠ 25 ∧ w ≠ 532 ∧ w ≠ 533 ∧ w ≠ 534 ∧ w ≠ 650 ∧ w ≠ 651 ∧ w ≠ 652) : s3F s w = s w := by
  unfold s3F
  rw [su_ne h.2.2.2.2.2.2.2.2.2.2, su_ne h.2.2.2.2.2.2.2.2.2.1, su_ne h.2.2.2.2.2.2.2.2.1, su_ne h.2.2.2.2.2.2.2.1, su_ne h.2.2.2.2.2.2.1, su_ne h.2.2.2.2.2.1, sv_ne h.2.2.2.2.1, ktS_ne s _ ⟨h.1, h.2.1, h.2.2.1, h.2.2.2.1⟩]
theorem s3_kt (s : Sto) {w : Nat} (h : w ≠ 25 ∧ w ≠ 532 ∧ w ≠ 533 ∧ w ≠ 534 ∧ w ≠ 650 ∧ w ≠ 651 ∧ w ≠ 652) : s3F s w = ktS s (s 527 0) w := by
  unfold s3F
  rw [su_ne h.2.2.2.2.2.2, su_ne h.2.2.2.2.2.1, su_ne h.2.2.2.2.1, su_ne h.2.2.2.1, su_ne h.2.2.1, su_ne h.2.1, sv_ne h.1]
theorem s3_at (s : Sto) : s3F s 25 = glue (s 267 0) (fun _ => 0) (s 25) ∧ s3F s 532 0 = 0 ∧ s3F s 533 0 = 0 ∧ s3F s 534 0 = 3600 ∧ s3F s 650 0 = 0 ∧ s3F s 651 0 = 0 ∧ s3F s 652 0 = 0 := by
  unfold s3F
  refine ⟨?_, ?_, ?_, ?_, ?_, ?_, ?_⟩
  · rw [su_ne (by decide), su_ne (by decide), su_ne (by decide), su_ne (by decide), su_ne (by decide), su_ne (by decide), sv_at, ktS_ne s _ (by decide), ktS_ne s _ (by decide)]
  · rw [su_ne (by decide), su_ne (by decide), su_ne (by decide), su_ne (by decide), su_ne (by decide), su_at]
  · rw [su_ne (by decide), su_ne (by decide), su_ne (by decide), su_ne (by decide), su_at]
  · rw [su_ne (by decide), su_ne (by decide), su_ne (by decide), su_at]
  · rw [su_ne (by decide), su_ne (by decide), su_at]
  · rw [su_ne (by decide), su_at]
  · rw [su_at]
def DPq (e : SE) (r : Int) (t u : Sto) : Prop := (u 527 0 = (oz e r).2.2 ∧ (∀ i, 0 ≤ i → i < (oz e r).2.2 → u 26 i = (oz e r).2.1 i)) ∧ (u 532 0 = (aR e r).made ∧ u 533 0 = (aR e r).stp) ∧ (u 18 = onO (eR e r) (aR e r).bx (t 18) ∧ u 19 = onO (eR e r) (aR e r).bY (t 19) ∧ u 20 = onO (eR e r) (aR e r).bl (t 20) ∧ u 21 = onO (eR e r) (fun _ => 1) (t 21)) ∧ (BN 1000 (u 22) ∧ BN 1000 (u 23) ∧ BN 1000 (u 24)) ∧ ((0 ≤ u 532 0 ∧ u 532 0 ≤ e.lim) ∧ (u 533 0 = 0 ∨ u 533 0 = 1)) ∧ (∀ w, keptD w → u w = t w)
/-- the best that a part's search finds is near -/
theorem aR_b {e : SE} (hS : SOE e) {r : Int} (r0 : 0 ≤ r) (r1 : r < e.n) (hf : ∀ q, inO (eR e r) q → (-1000 ≤ (fP e r).xs q ∧ (fP e r).xs q ≤ 1000) ∧ (-1000 ≤ (fP e r).ys q ∧ (fP e r).ys q ≤ 1000) ∧ (-1000 ≤ (fP e r).ls q ∧ (fP e r).ls q ≤ 1000)) : ACb (eR e r) (fP e r).xs (fP e r).ys (fP e r).ls (aR e r) := by
  have hE := eR_ok hS r0 r1
  refine tryF_b hE (Int.le_refl _) (by have := hE.cnt; omega) (PLC_0 (fun _ _ _ => rfl)) (BP_0 (fun _ _ _ => rfl) _) (by omega) (by omega) (by omega) ?_
  exact ⟨Or.inl rfl, hf, fun q _ => ⟨rfl, rfl, rfl⟩⟩
theorem onO_eq {e e' : SE} (h : ∀ q, inO e q ↔ inO e' q) {f f' g g' : Int → Int} (h1 : ∀ q, inO e q → f q = f' q) (h2 : ∀ q, ¬ inO e q → g q = g' q) : onO e f g = onO e' f' g' := by
  funext q
  unfold onO
  by_cases y : inO e q
  · rw [if_pos y, if_pos ((h q).mp y), h1 q y]
  · rw [if_neg y, if_neg (fun z => y ((h q).mpr z)), h2 q y]
theorem dp_TI {e : SE} {t s : Sto} {r : Int} (hB : BASE e t) (r0 : 0 ≤ r) (r1 : r < e.n) (hs : SPI_4 e 0 1000 s) (hz : zS_4 s = sprF e 24 (putF (glue (t 267 0) (fun _ => 0) (t 25), t 22, t 23, t 24) r 0 0 0, fu (t 26) 0 r, 1)) (hw : ∀ w, keptS_4 w → w ≠ 26 → w ≠ 527 → s w = t w) : TI (eO e (s 26) (s 527 0)) 0 (s3F s) := by
  obtain ⟨m1, m2, m3, m4, m5⟩ := dp_mid hB r0 r1 hs hz hw
  obtain ⟨⟨b1, b2, b3, b4, b5, b6⟩, hT, hS, hlim, hl, hN⟩ := hB
  obtain ⟨⟨h1, h2, h3, h4, h5, h6⟩, hT', -, hN', -, hc, -⟩ := hs
  obtain ⟨a1, a2, a3, a4, a5, a6, a7⟩ := s3_at s
  have hps : ∀ q, 0 ≤ q → q < e.n → (pC (s3F s)).ps q = 0 := fun q q0 q1 => by
    show s3F s 25 q = 0
    rw [a1, glue0 q0 (by omega)]
  refine ⟨?_, m3, hl.2, ?_, PLC_0 hps, BP_0 hps _, ?_, ⟨?_, ?_, ?_⟩, ?_, ?_, ?_⟩
  · have h531 : s 531 0 = e.lim := by rw [hw 531 (by unfold keptS_4; decide) (by decide) (by decide)]; exact hlim
    unfold eC eO
    rw [s3_ne s (by decide), s3_ne s (by decide), s3_ne s (by decide), s3_ne s (by decide), s3_ne s (by decide), s3_ne s (by decide), s3_ne s (by decide), s3_ne s (by decide), s3_ne s (by decide), h1, h2, h3, h4, h5, h6, h531]
  · unfold TIC
    rw [s3_ne s (by decide), s3_ne s (by decide), s3_ne s (by decide), s3_ne s (by decide), s3_ne s (by decide), s3_ne s (by decide)]
    exact hT'
  · intro i i0 i1
    rw [s3_kt s (by decide), (ktS_at s (s 527 0)).2.2.2]
    exact onR_in i0 i1
  · rw [s3_ne s (by decide)]; exact hN'.1
  · rw [s3_ne s (by decide)]; exact hN'.2.1
  · rw [s3_ne s (by decide)]; exact hN'.2.2
  · rw [a4]; omega
  · rw [a2]; show 0 ≤ 0 ∧ 0 ≤ e.lim; omega
  · rw [a3]; exact Or.inl rfl
theorem dp_end {e : SE} {t s u : Sto} {r : Int} (hB : BASE e t) (r0 : 0 ≤ r) (r1 : r < e.n) (hs : SPI_4 e 0 1000 s) (hz : zS_4 s = sprF e 24 (putF (glue (t 267 0) (fun _ => 0) (t 25), t 22, t 23, t 24) r 0 0 0, fu (t 26) 0 r, 1)) (hw : ∀ w, keptS_4 w → w ≠ 26 → w ≠ 527 → s w = t w) (hF : FR (eO e (s 26) (s 527 0)) (s3F s) u) (hA : accC u = tryF (eO e (s 26) (s 527 0)) 24 0 (pC (s3F s)) (s3F s 650 0) (s3F s 651 0) (s3F s 652 0) (accC (s3F s))) : DPq e r t u ∧ ACb (eR e r) (fP e r).xs (fP e r).ys (fP e r).ls (aR e r) := by
  obtain ⟨m1, m2, m3, m4, m5⟩ := dp_mid hB r0 r1 hs hz hw
  have hTI := dp_TI hB r0 r1 hs hz hw
  obtain ⟨⟨b1, b2, b3, b4, b5, b6⟩, hT, hS, hlim, hl, hN⟩ := hB
  obtain ⟨⟨h1, h2, h3, h4, h5, h6⟩, hT', -, hN', -, hc, -⟩ := id hs
  obtain ⟨a1, a2, a3, a4, a5, a6, a7⟩ := s3_at s
  obtain ⟨k1, k2, k3, k4⟩ := ktS_at s (s 527 0)
  have hb := aR_b hS r0 r1 (fun q hq => by obtain ⟨⟨x1, x2, x3⟩, x4⟩ := m5 q hq; rw [← x1, ← x2, ← x3]; omega)
  refine ⟨?_, hb⟩
  have hcnt : 1 ≤ s 527 0 ∧ s 527 0 ≤ e.n := m3.cnt
  have hp0 : ∀ q, 0 ≤ q → q < e.n → (pC (s3F s)).ps q = 0 := fun q q0 q1 => by
    show s3F s 25 q = 0
    rw [a1, glue0 q0 (by omega)]
  rw [a5, a6, a7] at hA
  -- the search from nothing
  have t1 : tryF (eO e (s 26) (s 527 0)) 24 0 (pC (s3F s)) 0 0 0 (accC (s3F s)) = tryF (eO e (s 26) (s 527 0)) 24 0 p00 0 0 0 (accC (s3F s)) := tryF_congr m3 24 0 _ _ 0 0 0 _ (Int.le_refl _) (by show 0 < s 527 0; omega) (AG_0 hp0 (fun _ _ _ => rfl)) (PLC_0 hp0)
  have t2 : tryF (eO e (s 26) (s 527 0)) 24 0 p00 0 0 0 (accC (s3F s)) = tryF (eR e r) 24 0 p00 0 0 0 (accC (s3F s)) := by
    have := tryF_env (e := eO e (s 26) (s 527 0)) (o := (oz e r).2.1) (fun i i0 i1 => m2 i i0 (by rw [← m1]; exact i1)) 24 0 p00 0 0 0 (accC (s3F s)) (Int.le_refl _) (by show 0 < s 527 0; omega)
    rw [this]
    have e9 : eO (eO e (s 26) (s 527 0)) (oz e r).2.1 (eO e (s 26) (s 527 0)).cnt = eR e r := by
      unfold eR
      rw [← m1]
      rfl
    rw [e9]
  have hacc : ACq (eR e r) (accC (s3F s)) (0, 0, -1, (fP e r).xs, (fP e r).ys, (fP e r).ls) := by
    refine ⟨a2, a3, ?_, fun q hq => ?_⟩
    · show (if s3F s 534 0 = 3600 then -1 else s3F s 534 0) = -1
      rw [a4]; rfl
    · obtain ⟨⟨x1, x2, x3⟩, -⟩ := m5 q hq
      have hq' := (m4 q).mp hq
      show s3F s 18 q = (fP e r).xs q ∧ s3F s 19 q = (fP e r).ys q ∧ s3F s 20 q = (fP e r).ls q
      rw [s3_kt s (by decide), s3_kt s (by decide), s3_kt s (by decide), k1, k2, k3]
      obtain ⟨i, i0, i1, i2⟩ := hq'
      have i2' : s 26 i = q := i2
      have i1' : i < s 527 0 := i1
      rw [← i2', onR_in i0 i1', onR_in i0 i1', onR_in i0 i1', i2']
      exact ⟨x1, x2, x3⟩
  have hfin : ACq (eR e r) (accC u) (aR e r) := by
    rw [hA, t1, t2]
    exact tryF_acc (e := eR e r) hS.1.2.2.1 24 0 p00 0 0 0 _ _ hacc
  have hout := tryF_b (e := eO e (s 26) (s 527 0)) (f := 24) (g1 := s3F s 18) (g2 := s3F s 19) (g3 := s3F s 20) (p := pC (s3F s)) (x := 0) (y := 0) (l := 0) (c := accC (s3F s)) m3 (Int.le_refl _) (by show 0 < s 527 0; omega) (PLC_0 hp0) (BP_0 hp0 _) (by omega) (by omega) (by omega) (by
    refine ⟨Or.inl (by show (if s3F s 534 0 = 3600 then -1 else s3F s 534 0) = -1; rw [a4]; rfl), fun q hq => ?_, fun q _ => ⟨rfl, rfl, rfl⟩⟩
    obtain ⟨z1, z2, z3, z4⟩ := hacc
    obtain ⟨y1, y2, y3⟩ := z4 q ((m4 q).mpr hq)
    rw [y1, y2, y3]
    obtain ⟨⟨x1, x2, x3⟩, x4⟩ := m5 q ((m4 q).mpr hq)
    show (-1000 ≤ (fP e r).xs q ∧ (fP e r).xs q ≤ 1000) ∧ (-1000 ≤ (fP e r).ys q ∧ (fP e r).ys q ≤ 1000) ∧ (-1000 ≤ (fP e r).ls q ∧ (fP e r).ls q ≤ 1000)
    rw [← x1, ← x2, ← x3]
    omega)
  rw [← hA] at hout
  have hst : ∀ w, w = 18 ∨ w = 19 ∨ w = 20 → ∀ q, ¬ inO (eR e r) q → s3F s w q = t w q := by
    intro w hw9 q hq
    have hq' : ¬ ∃ i, 0 ≤ i ∧ i < s 527 0 ∧ s 26 i = q := fun z => hq ((m4 q).mpr z)
    rcases hw9 with z | z | z
    · subst z; rw [s3_kt s (by decide), k1]; unfold onR; rw [if_neg hq', hw 18 (by unfold keptS_4; decide) (by decide) (by decide)]
    · subst z; rw [s3_kt s (by decide), k2]; unfold onR; rw [if_neg hq', hw 19 (by unfold keptS_4; decide) (by decide) (by decide)]
    · subst z; rw [s3_kt s (by decide), k3]; unfold onR; rw [if_neg hq', hw 20 (by unfold keptS_4; decide) (by decide) (by decide)]
  have hu : ∀ w, keptW w → w ≠ 21 → u w = s w := fun w h9 h21 => by
    rw [hF.2.2.1 w h9, s3_ne s ⟨h9.1, h9.2.1, h9.2.2.1, h21, h9.2.2.2.2.2.2.1, h9.2.2.2.2.2.2.2.1, h9.2.2.2.2.2.2.2.2.1, h9.2.2.2.2.2.2.2.2.2.1, h9.2.2.2.2.2.2.2.2.2.2.1, h9.2.2.2.2.2.2.2.2.2.2.2.1, h9.2.2.2.2.2.2.2.2.2.2.2.2⟩]
  have sp : ∀ (f g : Int → Int) (b : Int → Int), (∀ q, inO (eR e r) q → f q = b q) → (∀ q, ¬ inO (eR e r) q → f q = g q) → f = onO (eR e r) b g := by
    intro f g b y1 y2
    funext q
    unfold onO
    by_cases y : inO (eR e r) q
    · rw [if_pos y]; exact y1 q y
    · rw [if_neg y]; exact y2 q y
  refine ⟨⟨?_, ?_⟩, ⟨hfin.1, hfin.2.1⟩, ⟨?_, ?_, ?_, ?_⟩, hF.2.2.2.1, ⟨hF.2.2.2.2.2.1, hF.2.2.2.2.2.2⟩, ?_⟩
  · rw [hu 527 (by unfold keptW; decide) (by decide)]; exact m1
  · rw [hu 26 (by unfold keptW; decide) (by decide)]; exact m2
  · exact sp (u 18) (t 18) _ (fun q hq => (hfin.2.2.2 q hq).1) (fun q hq => ((hout.2.2 q (fun z => hq ((m4 q).mpr z))).1).trans (hst 18 (Or.inl rfl) q hq))
  · exact sp (u 19) (t 19) _ (fun q hq => (hfin.2.2.2 q hq).2.1) (fun q hq => ((hout.2.2 q (fun z => hq ((m4 q).mpr z))).2.1).trans (hst 19 (Or.inr (Or.inl rfl)) q hq))
  · exact sp (u 20) (t 20) _ (fun q hq => (hfin.2.2.2 q hq).2.2) (fun q hq => ((hout.2.2 q (fun z => hq ((m4 q).mpr z))).2.2).trans (hst 20 (Or.inr (Or.inr rfl)) q hq))
  · rw [hF.2.2.1 21 (by unfold keptW; decide), s3_kt s (by decide), k4, hw 21 (by unfold keptS_4; decide) (by decide) (by decide)]
    refine sp _ _ _ (fun q hq => ?_) (fun q hq => ?_)
    · obtain ⟨i, i0, i1, i2⟩ := (m4 q).mp hq
      have i2' : s 26 i = q := i2
      have i1' : i < s 527 0 := i1
      rw [← i2', onR_in i0 i1']
    · have hq' : ¬ ∃ i, 0 ≤ i ∧ i < s 527 0 ∧ s 26 i = q := fun z => hq ((m4 q).mpr z)
      unfold onR
      rw [if_neg hq']
  · intro w h9
    have hkw : keptW w := ⟨h9.1, h9.2.1, h9.2.2.1, h9.2.2.2.2.1, h9.2.2.2.2.2.1, h9.2.2.2.2.2.2.1, h9.2.2.2.2.2.2.2.1, h9.2.2.2.2.2.2.2.2.2.2.1, h9.2.2.2.2.2.2.2.2.2.2.2.1, h9.2.2.2.2.2.2.2.2.2.2.2.2.1, h9.2.2.2.2.2.2.2.2.2.2.2.2.2.1, h9.2.2.2.2.2.2.2.2.2.2.2.2.2.2.1, h9.2.2.2.2.2.2.2.2.2.2.2.2.2.2.2⟩
    rw [hu w hkw h9.2.2.2.1]
    exact hw w ⟨h9.2.2.2.2.1, h9.2.2.2.2.2.1, h9.2.2.2.2.2.2.1, h9.2.2.2.2.2.2.2.1, h9.2.2.2.2.2.2.2.2.1, h9.2.2.2.2.2.2.2.2.2.1, h9.2.2.2.2.2.2.2.2.2.2.2.2.2.1, h9.2.2.2.2.2.2.2.2.2.2.2.2.2.2.1, h9.2.2.2.2.2.2.2.2.2.2.2.2.2.2.2⟩ h9.2.2.2.2.2.2.2.2.1 h9.2.2.2.2.2.2.2.2.2.1
