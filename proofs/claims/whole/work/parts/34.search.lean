/-! SEARCH: the words, and that only placed rooms tell -/
abbrev PF : Type := (Int → Int) × (Int → Int) × (Int → Int) × (Int → Int)
abbrev PF.ps (c : PF) : Int → Int := c.1
abbrev PF.xs (c : PF) : Int → Int := c.2.1
abbrev PF.ys (c : PF) : Int → Int := c.2.2.1
abbrev PF.ls (c : PF) : Int → Int := c.2.2.2
def AG (n : Int) (p q : PF) : Prop := ∀ r, 0 ≤ r → r < n → p.ps r = q.ps r ∧ (p.ps r ≠ 0 → p.xs r = q.xs r ∧ p.ys r = q.ys r ∧ p.ls r = q.ls r)
theorem AG_refl (n : Int) (p : PF) : AG n p p := fun r _ _ => ⟨rfl, fun _ => ⟨rfl, rfl, rfl⟩⟩
theorem AG_symm {n : Int} {p q : PF} (h : AG n p q) : AG n q p := fun r h0 h1 => ⟨(h r h0 h1).1.symm, fun z => by
  have := (h r h0 h1).2 (by rw [(h r h0 h1).1]; exact z)
  exact ⟨this.1.symm, this.2.1.symm, this.2.2.symm⟩⟩
theorem AG_trans {n : Int} {p q s : PF} (h : AG n p q) (g : AG n q s) : AG n p s := fun r h0 h1 => ⟨(h r h0 h1).1.trans (g r h0 h1).1, fun z => by
  have a := (h r h0 h1).2 z
  have b := (g r h0 h1).2 (by rw [← (h r h0 h1).1]; exact z)
  exact ⟨a.1.trans b.1, a.2.1.trans b.2.1, a.2.2.trans b.2.2⟩⟩
def putF (p : PF) (r x y l : Int) : PF := ⟨fu p.ps r 1, fu p.xs r x, fu p.ys r y, fu p.ls r l⟩
theorem putF_at (p : PF) (r x y l : Int) : (putF p r x y l).ps r = 1 ∧ (putF p r x y l).xs r = x ∧ (putF p r x y l).ys r = y ∧ (putF p r x y l).ls r = l := ⟨fu_at _ _ _, fu_at _ _ _, fu_at _ _ _, fu_at _ _ _⟩
theorem putF_ne (p : PF) {r s : Int} (h : s ≠ r) (x y l : Int) : (putF p r x y l).ps s = p.ps s ∧ (putF p r x y l).xs s = p.xs s ∧ (putF p r x y l).ys s = p.ys s ∧ (putF p r x y l).ls s = p.ls s := ⟨fu_ne h, fu_ne h, fu_ne h, fu_ne h⟩
theorem AG_put {n : Int} {p q : PF} (h : AG n p q) (r x y l : Int) : AG n (putF p r x y l) (putF q r x y l) := by
  intro s h0 h1
  by_cases e : s = r
  · subst e
    obtain ⟨a1, a2, a3, a4⟩ := putF_at p s x y l
    obtain ⟨b1, b2, b3, b4⟩ := putF_at q s x y l
    exact ⟨a1.trans b1.symm, fun _ => ⟨a2.trans b2.symm, a3.trans b3.symm, a4.trans b4.symm⟩⟩
  · obtain ⟨a1, a2, a3, a4⟩ := putF_ne p e x y l
    obtain ⟨b1, b2, b3, b4⟩ := putF_ne q e x y l
    rw [a1, a2, a3, a4, b1, b2, b3, b4]
    exact h s h0 h1
theorem AG_at {n : Int} {p q : PF} (h : AG n p q) (x y l : Int) : atS n p.ps p.xs p.ys p.ls x y l = atS n q.ps q.xs q.ys q.ls x y l := by
  unfold atS
  apply fst_congr
  intro r h0 h1
  obtain ⟨a, b⟩ := h r h0 h1
  unfold atP
  constructor
  · rintro ⟨z1, z2, z3, z4⟩
    obtain ⟨b1, b2, b3⟩ := b z1
    exact ⟨by rw [← a]; exact z1, by rw [← b1]; exact z2, by rw [← b2]; exact z3, by rw [← b3]; exact z4⟩
  · rintro ⟨z1, z2, z3, z4⟩
    obtain ⟨b1, b2, b3⟩ := b (by rw [a]; exact z1)
    exact ⟨by rw [a]; exact z1, by rw [b1]; exact z2, by rw [b2]; exact z3, by rw [b3]; exact z4⟩
abbrev SE : Type := Int × Int × (Int → Int) × (Int → Int) × (Int → Int) × (Int → Int) × (Int → Int) × Int × Int
abbrev SE.n (c : SE) : Int := c.1
abbrev SE.k (c : SE) : Int := c.2.1
abbrev SE.fr (c : SE) : Int → Int := c.2.2.1
abbrev SE.di (c : SE) : Int → Int := c.2.2.2.1
abbrev SE.to (c : SE) : Int → Int := c.2.2.2.2.1
abbrev SE.bo (c : SE) : Int → Int := c.2.2.2.2.2.1
abbrev SE.ord (c : SE) : Int → Int := c.2.2.2.2.2.2.1
abbrev SE.cnt (c : SE) : Int := c.2.2.2.2.2.2.2.1
abbrev SE.lim (c : SE) : Int := c.2.2.2.2.2.2.2.2
def cdE (e : SE) (p : PF) (r m : Int) : Prop := candM e.n e.fr e.di e.to p.ps p.xs p.ys p.ls r m
noncomputable def fmE (e : SE) (p : PF) (r : Int) : Int := fst (cdE e p r) 0 (3 * e.k)
noncomputable def nbE (e : SE) (p : PF) (r : Int) : Int := nbS e.k e.fr e.to p.ps r
def cXE (e : SE) (p : PF) (r m : Int) : Int := chX e.fr e.di e.to p.xs r m
def cYE (e : SE) (p : PF) (r m : Int) : Int := chY e.fr e.di e.to p.ys r m
def cLE (e : SE) (p : PF) (r m : Int) : Int := chL e.fr e.di e.to p.ls r m
noncomputable def sXE (e : SE) (p : PF) (r : Int) : Int := spX e.n e.k e.fr e.to p.ps p.xs p.ys p.ls r
noncomputable def sYE (e : SE) (p : PF) (r : Int) : Int := spY e.n e.k e.fr e.to p.ps p.xs p.ys p.ls r
noncomputable def sLE (e : SE) (p : PF) (r : Int) : Int := spL e.k e.fr e.to p.ps p.ls r
noncomputable def coE (e : SE) (p : PF) : Int := costS e.n e.k e.fr e.di e.to p.ps p.xs p.ys p.ls
abbrev SOE (e : SE) : Prop := SOK e.n e.k e.fr e.di e.to e.bo
theorem oth_r {e : SE} (hS : SOE e) (r : Int) {l : Int} (h0 : 0 ≤ l) (h1 : l < e.k) : 0 ≤ othE e.fr e.to r l ∧ othE e.fr e.to r l < e.n := by
  have := hS.2 l h0 h1
  unfold othE
  split
  · exact this.2.1
  · exact this.1
theorem AG_ch {e : SE} {p q : PF} (hS : SOE e) (h : AG e.n p q) {r m : Int} (h0 : 0 ≤ m) (h1 : m < 3 * e.k) (hp : p.ps (othE e.fr e.to r (m / 3)) ≠ 0) : cXE e p r m = cXE e q r m ∧ cYE e p r m = cYE e q r m ∧ cLE e p r m = cLE e q r m := by
  have ho := oth_r hS r (l := m / 3) (by omega) (by omega)
  obtain ⟨b1, b2, b3⟩ := (h _ ho.1 ho.2).2 hp
  unfold cXE cYE cLE chX chY chL
  rw [b1, b2, b3]
  exact ⟨rfl, rfl, rfl⟩
theorem AG_cd1 {e : SE} {p q : PF} (hS : SOE e) (h : AG e.n p q) {r m : Int} (h0 : 0 ≤ m) (h1 : m < 3 * e.k) : cdE e p r m → cdE e q r m := by
  rintro ⟨⟨z1, z2, z3⟩, z4⟩
  have ho := oth_r hS r (l := m / 3) (by omega) (by omega)
  obtain ⟨c1, c2, c3⟩ := AG_ch hS h h0 h1 z2
  refine ⟨⟨z1, by rw [← (h _ ho.1 ho.2).1]; exact z2, z3⟩, ?_⟩
  unfold cXE cYE cLE at *
  rw [← c1, ← c2, ← c3, ← AG_at h]
  exact z4
theorem AG_cd {e : SE} {p q : PF} (hS : SOE e) (h : AG e.n p q) {r m : Int} (h0 : 0 ≤ m) (h1 : m < 3 * e.k) : cdE e p r m ↔ cdE e q r m := ⟨AG_cd1 hS h h0 h1, AG_cd1 hS (AG_symm h) h0 h1⟩
theorem AG_fm {e : SE} {p q : PF} (hS : SOE e) (h : AG e.n p q) (r : Int) : fmE e p r = fmE e q r := fst_congr (fun m h0 h1 => AG_cd hS h h0 h1)
theorem AG_nb {e : SE} {p q : PF} (hS : SOE e) (h : AG e.n p q) (r : Int) : nbE e p r = nbE e q r := by
  unfold nbE nbS
  have : fst (nbP e.fr e.to p.ps r) 0 e.k = fst (nbP e.fr e.to q.ps r) 0 e.k := by
    apply fst_congr
    intro l h0 h1
    have ho := oth_r hS r h0 h1
    unfold nbP
    rw [(h _ ho.1 ho.2).1]
  rw [this]
theorem AG_sp {e : SE} {p q : PF} (hS : SOE e) (h : AG e.n p q) {r : Int} (hnb : 0 ≤ nbE e p r) : sXE e p r = sXE e q r ∧ sYE e p r = sYE e q r ∧ sLE e p r = sLE e q r := by
  have e1 := AG_nb hS h r
  have hr := nbS_r (ps := p.ps) hS r
  unfold nbE at *
  unfold sXE sYE sLE spX spY spL
  rw [← e1]
  generalize nbS e.k e.fr e.to p.ps r = o at *
  rcases hr with z | ⟨z1, z2⟩
  · omega
  · obtain ⟨b1, b2, b3⟩ := (h o z1.1 z1.2).2 z2
    rw [← b1, ← b2, ← b3]
    have hring : ∀ far, ringS e.n p.ps p.xs p.ys p.ls (p.xs o) (p.ys o) (p.ls o) far = ringS e.n q.ps q.xs q.ys q.ls (p.xs o) (p.ys o) (p.ls o) far := by
      intro far
      unfold ringS
      apply fst_congr
      intro j j0 j1
      rw [AG_at h]
    have hfar : spFar e.n p.ps p.xs p.ys p.ls (p.xs o) (p.ys o) (p.ls o) = spFar e.n q.ps q.xs q.ys q.ls (p.xs o) (p.ys o) (p.ls o) := by
      unfold spFar
      apply fst_congr
      intro j j0 j1
      rw [hring]
    rw [hfar, hring]
    exact ⟨rfl, rfl, rfl⟩
theorem AG_co {e : SE} {p q : PF} (hS : SOE e) (h : AG e.n p q) : coE e p = coE e q := by
  unfold coE costS
  refine sumI_congr (fun l h0 h1 => ?_) 0 hS.1.2.2.1 (Int.le_refl _)
  have hl := hS.2 l h0 h1
  obtain ⟨a1, a2⟩ := h _ hl.1.1 hl.1.2
  obtain ⟨b1, b2⟩ := h _ hl.2.1.1 hl.2.1.2
  unfold clS
  by_cases w : wghP e.fr e.to p.ps l
  · have w' : wghP e.fr e.to q.ps l := ⟨w.1, by rw [← a1]; exact w.2.1, by rw [← b1]; exact w.2.2⟩
    have hd : ∀ r, 0 ≤ r → r < e.n → p.ps r ≠ 0 → distS p.xs p.ys p.ls (e.fr l) (e.di l) r = distS q.xs q.ys q.ls (e.fr l) (e.di l) r := by
      intro r r0 r1 r2
      obtain ⟨c1, c2, c3⟩ := (h r r0 r1).2 r2
      obtain ⟨d1, d2, d3⟩ := a2 w.2.1
      unfold distS dlS
      rw [c1, c2, c3, d1, d2, d3]
    have hs : strS e.n p.ps p.xs p.ys p.ls (e.fr l) (e.di l) (e.to l) = strS e.n q.ps q.xs q.ys q.ls (e.fr l) (e.di l) (e.to l) := by
      unfold strS
      rw [hd _ hl.2.1.1 hl.2.1.2 w.2.2]
      have : ∀ D, fst (nearP p.ps p.xs p.ys p.ls (e.fr l) (e.di l) D) 0 e.n = fst (nearP q.ps q.xs q.ys q.ls (e.fr l) (e.di l) D) 0 e.n := by
        intro D
        apply fst_congr
        intro r r0 r1
        unfold nearP
        constructor
        · rintro ⟨z1, z2, z3⟩
          rw [hd r r0 r1 z1] at z2 z3
          exact ⟨by rw [← (h r r0 r1).1]; exact z1, z2, z3⟩
        · rintro ⟨z1, z2, z3⟩
          have z0 : p.ps r ≠ 0 := by rw [(h r r0 r1).1]; exact z1
          rw [← hd r r0 r1 z0] at z2 z3
          exact ⟨z0, z2, z3⟩
      rw [this]
    rw [if_pos w, if_pos w', hs]
  · have w' : ¬ wghP e.fr e.to q.ps l := fun z => w ⟨z.1, by rw [a1]; exact z.2.1, by rw [b1]; exact z.2.2⟩
    rw [if_neg w, if_neg w']
abbrev AC : Type := Int × Int × Int × (Int → Int) × (Int → Int) × (Int → Int)
abbrev AC.made (c : AC) : Int := c.1
abbrev AC.stp (c : AC) : Int := c.2.1
abbrev AC.best (c : AC) : Int := c.2.2.1
abbrev AC.bx (c : AC) : Int → Int := c.2.2.2.1
abbrev AC.bY (c : AC) : Int → Int := c.2.2.2.2.1
abbrev AC.bl (c : AC) : Int → Int := c.2.2.2.2.2
def inO (e : SE) (r : Int) : Prop := ∃ i, 0 ≤ i ∧ i < e.cnt ∧ e.ord i = r
noncomputable def onO (e : SE) (f g : Int → Int) : Int → Int := fun r => @ite _ (inO e r) (Classical.propDecidable _) (f r) (g r)
noncomputable def wghF (e : SE) (p : PF) (c : AC) : AC := if c.best = -1 ∨ coE e p < c.best then ⟨c.made, c.stp, coE e p, onO e p.xs c.bx, onO e p.ys c.bY, onO e p.ls c.bl⟩ else c
noncomputable def tryF (e : SE) : Nat → Int → PF → Int → Int → Int → AC → AC
  | 0, _, _, _, _, _, c => c
  | f + 1, a, p, x, y, l, c =>
    if e.lim ≤ c.made then ⟨c.made, 1, c.best, c.bx, c.bY, c.bl⟩
    else if a + 1 < e.cnt then
      (if 0 ≤ fmE e (putF p (e.ord a) x y l) (e.ord (a + 1)) then
        itr (fun (m : Int) (c : AC) => @ite _ (c.stp = 0 ∧ cdE e (putF p (e.ord a) x y l) (e.ord (a + 1)) m) (Classical.propDecidable _) (tryF e f (a + 1) (putF p (e.ord a) x y l) (cXE e (putF p (e.ord a) x y l) (e.ord (a + 1)) m) (cYE e (putF p (e.ord a) x y l) (e.ord (a + 1)) m) (cLE e (putF p (e.ord a) x y l) (e.ord (a + 1)) m) c) c) 0 (3 * e.k) ⟨c.made + 1, c.stp, c.best, c.bx, c.bY, c.bl⟩
      else tryF e f (a + 1) (putF p (e.ord a) x y l) (sXE e (putF p (e.ord a) x y l) (e.ord (a + 1))) (sYE e (putF p (e.ord a) x y l) (e.ord (a + 1))) (sLE e (putF p (e.ord a) x y l) (e.ord (a + 1))) ⟨c.made + 1, c.stp, c.best, c.bx, c.bY, c.bl⟩)
    else wghF e (putF p (e.ord a) x y l) ⟨c.made + 1, c.stp, c.best, c.bx, c.bY, c.bl⟩
/-- the order is one: other rooms, and each but the first is joined with one before it -/
def EOK (e : SE) : Prop := SOE e ∧ (1 ≤ e.cnt ∧ e.cnt ≤ e.n) ∧ (∀ i, 0 ≤ i → i < e.cnt → 0 ≤ e.ord i ∧ e.ord i < e.n) ∧ (∀ i j, 0 ≤ i → i < e.cnt → 0 ≤ j → j < e.cnt → e.ord i = e.ord j → i = j) ∧ (∀ i, 1 ≤ i → i < e.cnt → ∃ l, 0 ≤ l ∧ l < e.k ∧ incP e.fr e.to (e.ord i) l ∧ ∃ j, 0 ≤ j ∧ j < i ∧ othE e.fr e.to (e.ord i) l = e.ord j)
theorem EOK.sok {e : SE} (h : EOK e) : SOE e := h.1
theorem EOK.cnt {e : SE} (h : EOK e) : 1 ≤ e.cnt ∧ e.cnt ≤ e.n := h.2.1
theorem EOK.ord {e : SE} (h : EOK e) : ∀ i, 0 ≤ i → i < e.cnt → 0 ≤ e.ord i ∧ e.ord i < e.n := h.2.2.1
theorem EOK.inj {e : SE} (h : EOK e) : ∀ i j, 0 ≤ i → i < e.cnt → 0 ≤ j → j < e.cnt → e.ord i = e.ord j → i = j := h.2.2.2.1
theorem EOK.jnd {e : SE} (h : EOK e) : ∀ i, 1 ≤ i → i < e.cnt → ∃ l, 0 ≤ l ∧ l < e.k ∧ incP e.fr e.to (e.ord i) l ∧ ∃ j, 0 ≤ j ∧ j < i ∧ othE e.fr e.to (e.ord i) l = e.ord j := h.2.2.2.2
/-- the first a of the order stand, and no other -/
def PLC (e : SE) (a : Int) (p : PF) : Prop := ∀ r, 0 ≤ r → r < e.n → (p.ps r ≠ 0 ↔ ∃ i, 0 ≤ i ∧ i < a ∧ e.ord i = r)
theorem PLC_put {e : SE} {a : Int} {p : PF} (ha : 0 ≤ a) (h : PLC e a p) (x y l : Int) : PLC e (a + 1) (putF p (e.ord a) x y l) := by
  intro r h0 h1
  by_cases q : r = e.ord a
  · subst q
    rw [(putF_at p _ x y l).1]
    exact ⟨fun _ => ⟨a, ha, by omega, rfl⟩, fun _ => by decide⟩
  · rw [(putF_ne p q x y l).1, h r h0 h1]
    constructor
    · rintro ⟨i, i0, i1, i2⟩; exact ⟨i, i0, by omega, i2⟩
    · rintro ⟨i, i0, i1, i2⟩
      refine ⟨i, i0, ?_, i2⟩
      rcases (show i < a ∨ i = a by omega) with z | z
      · exact z
      · subst z; exact absurd i2.symm q
theorem PLC_nb {e : SE} {a : Int} {p : PF} (hE : EOK e) (h1 : 1 ≤ a) (h2 : a < e.cnt) (h : PLC e a p) : 0 ≤ nbE e p (e.ord a) := by
  obtain ⟨l, l0, l1, l2, j, j0, j1, j2⟩ := hE.jnd a h1 h2
  have ho := oth_r hE.sok (e.ord a) l0 l1
  have hp : p.ps (othE e.fr e.to (e.ord a) l) ≠ 0 := (h _ ho.1 ho.2).mpr ⟨j, j0, j1, j2.symm⟩
  unfold nbE nbS
  rcases fst_spec (nbP e.fr e.to p.ps (e.ord a)) 0 e.k with ⟨a1, a2⟩ | ⟨a1, a2, a3, a4⟩
  · exact absurd ⟨l2, hp⟩ (a2 l l0 l1)
  · rw [if_neg (by omega)]
    exact (oth_r hE.sok _ a1 a2).1
theorem tryF_congr {e : SE} (hE : EOK e) : ∀ (f : Nat) (a : Int) (p q : PF) (x y l : Int) (c : AC), 0 ≤ a → a < e.cnt → AG e.n p q → PLC e a p → tryF e f a p x y l c = tryF e f a q x y l c := by
  intro f
  induction f with
  | zero => intros; rfl
  | succ f ih =>
    intro a p q x y l c h0 h1 hA hP
    have hA1 := AG_put hA (e.ord a) x y l
    have hP1 := PLC_put h0 hP x y l
    unfold tryF
    split
    · rfl
    · split
      next hac =>
        rw [AG_fm hE.sok hA1 (e.ord (a + 1))]
        split
        · refine itr_rel (R := fun u v => u = v) (l0 := 0) (fun m u v m0 m1 huv => ?_) 0 (by have := hE.sok.1; omega) _ _ (Int.le_refl _) rfl
          subst huv
          have hc := AG_cd hE.sok hA1 (r := e.ord (a + 1)) m0 m1
          by_cases hz : u.stp = 0 ∧ cdE e (putF p (e.ord a) x y l) (e.ord (a + 1)) m
          · obtain ⟨c1, c2, c3⟩ := AG_ch hE.sok hA1 (r := e.ord (a + 1)) m0 m1 hz.2.1.2.1
            rw [if_pos hz, if_pos ⟨hz.1, hc.mp hz.2⟩, c1, c2, c3]
            exact ih _ _ _ _ _ _ _ (by omega) hac hA1 hP1
          · rw [if_neg hz, if_neg (fun w => hz ⟨w.1, hc.mpr w.2⟩)]
        · obtain ⟨c1, c2, c3⟩ := AG_sp hE.sok hA1 (r := e.ord (a + 1)) (PLC_nb hE (by omega) hac hP1)
          rw [c1, c2, c3]
          exact ih _ _ _ _ _ _ _ (by omega) hac hA1 hP1
      next hac =>
        have hall : ∀ r, inO e r → (putF p (e.ord a) x y l).xs r = (putF q (e.ord a) x y l).xs r ∧ (putF p (e.ord a) x y l).ys r = (putF q (e.ord a) x y l).ys r ∧ (putF p (e.ord a) x y l).ls r = (putF q (e.ord a) x y l).ls r := by
          rintro r ⟨i, i0, i1, i2⟩
          have hr := hE.ord i i0 i1
          rw [i2] at hr
          exact (hA1 r hr.1 hr.2).2 ((hP1 r hr.1 hr.2).mpr ⟨i, i0, by omega, i2⟩)
        have hon : ∀ g : Int → Int, onO e (putF p (e.ord a) x y l).xs g = onO e (putF q (e.ord a) x y l).xs g ∧ onO e (putF p (e.ord a) x y l).ys g = onO e (putF q (e.ord a) x y l).ys g ∧ onO e (putF p (e.ord a) x y l).ls g = onO e (putF q (e.ord a) x y l).ls g := by
          intro g
          refine ⟨?_, ?_, ?_⟩ <;> (funext r; unfold onO; by_cases hr : inO e r)
          · rw [if_pos hr, if_pos hr, (hall r hr).1]
          · rw [if_neg hr, if_neg hr]
          · rw [if_pos hr, if_pos hr, (hall r hr).2.1]
          · rw [if_neg hr, if_neg hr]
          · rw [if_pos hr, if_pos hr, (hall r hr).2.2]
          · rw [if_neg hr, if_neg hr]
        unfold wghF
        rw [AG_co hE.sok hA1, (hon _).1, (hon _).2.1, (hon _).2.2]
