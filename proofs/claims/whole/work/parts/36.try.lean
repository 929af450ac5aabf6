/-! TRYING: the class -/
def eC (t : Sto) : SE := (t 267 0, t 272 0, t 13, t 14, t 15, t 16, t 26, t 527 0, t 531 0)
def pC (t : Sto) : PF := (t 25, t 22, t 23, t 24)
def accC (t : Sto) : AC := (t 532 0, t 533 0, if t 534 0 = 3600 then -1 else t 534 0, t 18, t 19, t 20)
def BN (B : Int) (f : Int → Int) : Prop := ∀ j, -B ≤ f j ∧ f j ≤ B
theorem BN_BD {B : Int} {f : Int → Int} (h : BN B f) (hB : B ≤ 1000000) : BD f := fun j => by have := h j; omega
theorem BN_fu {B : Int} {f : Int → Int} (h : BN B f) {i x : Int} (hx : -B ≤ x ∧ x ≤ B) : BN B (fu f i x) := fun j => by
  by_cases e : j = i
  · rw [e, fu_at]; exact hx
  · rw [fu_ne e]; exact h j
def BP (n B : Int) (p : PF) : Prop := ∀ r, 0 ≤ r → r < n → p.ps r ≠ 0 → (-B ≤ p.xs r ∧ p.xs r ≤ B) ∧ (-B ≤ p.ys r ∧ p.ys r ≤ B) ∧ (-B ≤ p.ls r ∧ p.ls r ≤ B)
theorem BP_AG {n B : Int} {p q : PF} (h : BP n B p) (g : AG n p q) : BP n B q := fun r h0 h1 h2 => by
  obtain ⟨a, b⟩ := g r h0 h1
  have hp : p.ps r ≠ 0 := by rw [a]; exact h2
  obtain ⟨b1, b2, b3⟩ := b hp
  rw [← b1, ← b2, ← b3]
  exact h r h0 h1 hp
theorem cd_b {e : SE} {p : PF} {r m B : Int} (hS : SOE e) (h0 : 0 ≤ m) (h1 : m < 3 * e.k) (hB : BP e.n B p) (hc : cdE e p r m) : (-(B + 3) ≤ cXE e p r m ∧ cXE e p r m ≤ B + 3) ∧ (-(B + 3) ≤ cYE e p r m ∧ cYE e p r m ≤ B + 3) ∧ (-(B + 3) ≤ cLE e p r m ∧ cLE e p r m ≤ B + 3) := by
  have ho := oth_r hS r (l := m / 3) (by omega) (by omega)
  obtain ⟨b1, b2, b3⟩ := hB _ ho.1 ho.2 hc.1.2.1
  have hdi := (hS.2 (m / 3) (by omega) (by omega)).2.2.1
  have hsg : sgE e.fr r (m / 3) = -1 ∨ sgE e.fr r (m / 3) = 1 := by unfold sgE; split <;> omega
  have hss : -3 ≤ sgE e.fr r (m / 3) * (m % 3 + 1) ∧ sgE e.fr r (m / 3) * (m % 3 + 1) ≤ 3 := by rcases hsg with z | z <;> rw [z] <;> omega
  have m1 := mul_r (x := sgE e.fr r (m / 3) * (m % 3 + 1)) (B := 3) (eaI_r hdi) (by omega)
  have m2 := mul_r (x := sgE e.fr r (m / 3) * (m % 3 + 1)) (B := 3) (soI_r hdi) (by omega)
  have m3 := mul_r (x := sgE e.fr r (m / 3) * (m % 3 + 1)) (B := 3) (riI_r hdi) (by omega)
  unfold cXE cYE cLE chX chY chL
  omega
theorem sp_b {e : SE} {p : PF} {r B : Int} (hS : SOE e) (hB : BP e.n B p) (hnb : 0 ≤ nbE e p r) : (-(B + 24) ≤ sXE e p r ∧ sXE e p r ≤ B + 24) ∧ (-(B + 24) ≤ sYE e p r ∧ sYE e p r ≤ B + 24) ∧ (-(B + 24) ≤ sLE e p r ∧ sLE e p r ≤ B + 24) := by
  have hr := nbS_r (ps := p.ps) hS r
  unfold nbE at hnb
  unfold sXE sYE sLE spX spY spL
  generalize nbS e.k e.fr e.to p.ps r = o at *
  rcases hr with z | ⟨z1, z2⟩
  · omega
  · obtain ⟨b1, b2, b3⟩ := hB o z1.1 z1.2 z2
    have hsf := spFar_ok (n := e.n) (ps := p.ps) (xs := p.xs) (ys := p.ys) (ls := p.ls) hS.1.2.1 (p.xs o) (p.ys o) (p.ls o)
    generalize spFar e.n p.ps p.xs p.ys p.ls (p.xs o) (p.ys o) (p.ls o) = far at *
    generalize ringS e.n p.ps p.xs p.ys p.ls (p.xs o) (p.ys o) (p.ls o) far = j at *
    unfold rgX rgY absI
    refine ⟨?_, ?_, ?_⟩
    · split <;> split <;> omega
    · omega
    · omega
def keptW (w : Nat) : Prop := w ≠ 18 ∧ w ≠ 19 ∧ w ≠ 20 ∧ w ≠ 22 ∧ w ≠ 23 ∧ w ≠ 24 ∧ w ≠ 25 ∧ w ≠ 532 ∧ w ≠ 533 ∧ w ≠ 534 ∧ w ≠ 650 ∧ w ≠ 651 ∧ w ≠ 652
/-- what every state of a search has -/
def NUM (e : SE) (t : Sto) : Prop := (BN 1000 (t 22) ∧ BN 1000 (t 23) ∧ BN 1000 (t 24)) ∧ (0 ≤ t 534 0 ∧ t 534 0 ≤ 3600) ∧ (0 ≤ t 532 0 ∧ t 532 0 ≤ e.lim) ∧ (t 533 0 = 0 ∨ t 533 0 = 1)
def TI (e : SE) (a : Int) (t : Sto) : Prop := eC t = e ∧ EOK e ∧ e.lim ≤ 20000 ∧ TIC t ∧ PLC e a (pC t) ∧ BP e.n (30 * a) (pC t) ∧ (∀ i, 0 ≤ i → i < e.cnt → t 21 (e.ord i) = 1) ∧ NUM e t
/-- s is t but for what a search may change -/
def FR (e : SE) (t s : Sto) : Prop := s 25 = t 25 ∧ (∀ r, t 25 r ≠ 0 → s 22 r = t 22 r ∧ s 23 r = t 23 r ∧ s 24 r = t 24 r) ∧ (∀ w, keptW w → s w = t w) ∧ NUM e s
theorem FR_AG {e : SE} {t s : Sto} (n : Int) (h : FR e t s) : AG n (pC t) (pC s) := by
  intro r h0 h1
  refine ⟨?_, fun z => ?_⟩
  · show t 25 r = s 25 r
    rw [h.1]
  · obtain ⟨a, b, c⟩ := h.2.1 r z
    exact ⟨a.symm, b.symm, c.symm⟩
theorem FR_e {e : SE} {t s : Sto} (h : FR e t s) : eC s = eC t := by
  unfold eC
  rw [h.2.2.1 267 (by unfold keptW; decide), h.2.2.1 272 (by unfold keptW; decide), h.2.2.1 13 (by unfold keptW; decide), h.2.2.1 14 (by unfold keptW; decide), h.2.2.1 15 (by unfold keptW; decide), h.2.2.1 16 (by unfold keptW; decide), h.2.2.1 26 (by unfold keptW; decide), h.2.2.1 527 (by unfold keptW; decide), h.2.2.1 531 (by unfold keptW; decide)]
theorem FR_refl {e : SE} {t : Sto} (h : NUM e t) : FR e t t := ⟨rfl, fun _ _ => ⟨rfl, rfl, rfl⟩, fun _ _ => rfl, h⟩
theorem FR_trans {e : SE} {t s u : Sto} (h : FR e t s) (g : FR e s u) : FR e t u := ⟨g.1.trans h.1, fun r z => by
  obtain ⟨a, b, c⟩ := h.2.1 r z
  obtain ⟨a', b', c'⟩ := g.2.1 r (by rw [h.1]; exact z)
  exact ⟨a'.trans a, b'.trans b, c'.trans c⟩, fun w hw => (g.2.2.1 w hw).trans (h.2.2.1 w hw), g.2.2.2⟩
theorem FR_TI {e : SE} {a : Int} {t s : Sto} (h : TI e a t) (g : FR e t s) : TI e a s := by
  obtain ⟨h1, h2, h3, h4, h5, h6, h7, h8⟩ := h
  have hA := FR_AG e.n g
  refine ⟨(FR_e g).trans h1, h2, h3, ?_, ?_, BP_AG h6 hA, ?_, g.2.2.2⟩
  · unfold TIC
    rw [g.2.2.1 267 (by unfold keptW; decide), g.2.2.1 272 (by unfold keptW; decide), g.2.2.1 13 (by unfold keptW; decide), g.2.2.1 15 (by unfold keptW; decide), g.2.2.1 28 (by unfold keptW; decide), g.2.2.1 29 (by unfold keptW; decide)]
    exact h4
  · intro r r0 r1
    rw [← (hA r r0 r1).1]
    exact h5 r r0 r1
  · rw [g.2.2.1 21 (by unfold keptW; decide)]
    exact h7
theorem FR_pos {e : SE} {t : Sto} (h : NUM e t) (x y l : Int) : FR e t (pos3 t x y l) := by
  refine ⟨pos3_ne t x y l (by decide), fun r _ => ?_, fun w hw => pos3_ne t x y l ⟨hw.2.2.2.2.2.2.2.2.2.2.1, hw.2.2.2.2.2.2.2.2.2.2.2.1, hw.2.2.2.2.2.2.2.2.2.2.2.2⟩, ?_⟩
  · rw [pos3_ne t x y l (by decide), pos3_ne t x y l (by decide), pos3_ne t x y l (by decide)]
    exact ⟨rfl, rfl, rfl⟩
  · unfold NUM
    rw [pos3_ne t x y l (by decide), pos3_ne t x y l (by decide), pos3_ne t x y l (by decide), pos3_ne t x y l (by decide), pos3_ne t x y l (by decide), pos3_ne t x y l (by decide)]
    exact h
theorem acc_pos (t : Sto) (x y l : Int) : accC (pos3 t x y l) = accC t := by
  unfold accC
  rw [pos3_ne t x y l (by decide), pos3_ne t x y l (by decide), pos3_ne t x y l (by decide), pos3_ne t x y l (by decide), pos3_ne t x y l (by decide), pos3_ne t x y l (by decide)]
/-- a room is put -/
theorem TI_put {e : SE} {a : Int} {t : Sto} {x y l : Int} (h : TI e a t) (h0 : 0 ≤ a) (h1 : a < e.cnt) (hm : t 532 0 < e.lim) (hx : -(30 * a) ≤ x ∧ x ≤ 30 * a) (hy : -(30 * a) ≤ y ∧ y ≤ 30 * a) (hl : -(30 * a) ≤ l ∧ l ≤ 30 * a) :
    TI e (a + 1) (putC_4 (su t 532 0 (t 532 0 + 1)) (e.ord a) x y l) ∧ pC (putC_4 (su t 532 0 (t 532 0 + 1)) (e.ord a) x y l) = putF (pC t) (e.ord a) x y l ∧ accC (putC_4 (su t 532 0 (t 532 0 + 1)) (e.ord a) x y l) = ((accC t).made + 1, (accC t).stp, (accC t).best, (accC t).bx, (accC t).bY, (accC t).bl) ∧ (∀ w, w ≠ 22 → w ≠ 23 → w ≠ 24 → w ≠ 25 → w ≠ 532 → putC_4 (su t 532 0 (t 532 0 + 1)) (e.ord a) x y l w = t w) := by
  obtain ⟨g1, g2, g3, g4, g5, g6, g7, g8, g9, g10, g11⟩ := h
  have hcn := g2.cnt
  have hn24 := g2.sok.1
  have fw : ∀ w, w ≠ 22 → w ≠ 23 → w ≠ 24 → w ≠ 25 → w ≠ 532 → putC_4 (su t 532 0 (t 532 0 + 1)) (e.ord a) x y l w = t w := by
    intro w w1 w2 w3 w4 w5
    unfold putC_4
    rw [su_ne w4, su_ne w3, su_ne w2, su_ne w1, su_ne w5]
  have q25 : putC_4 (su t 532 0 (t 532 0 + 1)) (e.ord a) x y l 25 = fu (t 25) (e.ord a) 1 := by
    unfold putC_4
    rw [su_row, sv_at, su_ne (by decide), su_ne (by decide), su_ne (by decide), su_ne (by decide)]
  have q24 : putC_4 (su t 532 0 (t 532 0 + 1)) (e.ord a) x y l 24 = fu (t 24) (e.ord a) l := by
    unfold putC_4
    rw [su_ne (by decide), su_row, sv_at, su_ne (by decide), su_ne (by decide), su_ne (by decide)]
  have q23 : putC_4 (su t 532 0 (t 532 0 + 1)) (e.ord a) x y l 23 = fu (t 23) (e.ord a) y := by
    unfold putC_4
    rw [su_ne (by decide), su_ne (by decide), su_row, sv_at, su_ne (by decide), su_ne (by decide)]
  have q22 : putC_4 (su t 532 0 (t 532 0 + 1)) (e.ord a) x y l 22 = fu (t 22) (e.ord a) x := by
    unfold putC_4
    rw [su_ne (by decide), su_ne (by decide), su_ne (by decide), su_row, sv_at, su_ne (by decide)]
  have q532 : putC_4 (su t 532 0 (t 532 0 + 1)) (e.ord a) x y l 532 0 = t 532 0 + 1 := by
    unfold putC_4
    rw [su_ne (by decide), su_ne (by decide), su_ne (by decide), su_ne (by decide), su_at]
  have hp : pC (putC_4 (su t 532 0 (t 532 0 + 1)) (e.ord a) x y l) = putF (pC t) (e.ord a) x y l := by
    unfold pC
    rw [q25, q24, q23, q22]
    rfl
  refine ⟨⟨?_, g2, g3, ?_, ?_, ?_, ?_, ?_⟩, hp, ?_, fw⟩
  · refine Eq.trans ?_ g1
    unfold eC
    rw [fw 267 (by decide) (by decide) (by decide) (by decide) (by decide), fw 272 (by decide) (by decide) (by decide) (by decide) (by decide), fw 13 (by decide) (by decide) (by decide) (by decide) (by decide), fw 14 (by decide) (by decide) (by decide) (by decide) (by decide), fw 15 (by decide) (by decide) (by decide) (by decide) (by decide), fw 16 (by decide) (by decide) (by decide) (by decide) (by decide), fw 26 (by decide) (by decide) (by decide) (by decide) (by decide), fw 527 (by decide) (by decide) (by decide) (by decide) (by decide), fw 531 (by decide) (by decide) (by decide) (by decide) (by decide)]
  · unfold TIC
    rw [fw 267 (by decide) (by decide) (by decide) (by decide) (by decide), fw 272 (by decide) (by decide) (by decide) (by decide) (by decide), fw 13 (by decide) (by decide) (by decide) (by decide) (by decide), fw 15 (by decide) (by decide) (by decide) (by decide) (by decide), fw 28 (by decide) (by decide) (by decide) (by decide) (by decide), fw 29 (by decide) (by decide) (by decide) (by decide) (by decide)]
    exact g4
  · rw [hp]; exact PLC_put h0 g5 x y l
  · rw [hp]
    intro r r0 r1 r2
    by_cases q : r = e.ord a
    · subst q
      obtain ⟨a1, a2, a3, a4⟩ := putF_at (pC t) (e.ord a) x y l
      rw [a2, a3, a4]
      omega
    · obtain ⟨a1, a2, a3, a4⟩ := putF_ne (pC t) q x y l
      rw [a1] at r2
      rw [a2, a3, a4]
      have := g6 r r0 r1 r2
      omega
  · rw [fw 21 (by decide) (by decide) (by decide) (by decide) (by decide)]; exact g7
  · refine ⟨⟨?_, ?_, ?_⟩, ?_, ?_, ?_⟩
    · rw [q22]; exact BN_fu g8.1 (by omega)
    · rw [q23]; exact BN_fu g8.2.1 (by omega)
    · rw [q24]; exact BN_fu g8.2.2 (by omega)
    · rw [fw 534 (by decide) (by decide) (by decide) (by decide) (by decide)]; exact g9
    · rw [q532]; omega
    · rw [fw 533 (by decide) (by decide) (by decide) (by decide) (by decide)]; exact g11
  · unfold accC
    rw [q532, fw 533 (by decide) (by decide) (by decide) (by decide) (by decide), fw 534 (by decide) (by decide) (by decide) (by decide) (by decide), fw 18 (by decide) (by decide) (by decide) (by decide) (by decide), fw 19 (by decide) (by decide) (by decide) (by decide) (by decide), fw 20 (by decide) (by decide) (by decide) (by decide) (by decide)]
