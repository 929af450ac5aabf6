/-! FIRST PLACINGS and searches told anew -/
theorem AG_fc {e : SE} {p q : PF} (hS : SOE e) (h : AG e.n p q) {r : Int} (hnb : 0 ≤ nbE e p r) : fXE e p r = fXE e q r ∧ fYE e p r = fYE e q r ∧ fLE e p r = fLE e q r := by
  have e1 : firstM e.n e.k e.fr e.di e.to p.ps p.xs p.ys p.ls r = fmE e p r := rfl
  have e2 : firstM e.n e.k e.fr e.di e.to q.ps q.xs q.ys q.ls r = fmE e p r := (AG_fm hS h r).symm
  unfold fXE fYE fLE fcX fcY fcL
  rw [e1, e2]
  by_cases hf : 0 ≤ fmE e p r
  · rw [if_pos hf, if_pos hf, if_pos hf, if_pos hf, if_pos hf, if_pos hf]
    rcases fst_spec (cdE e p r) 0 (3 * e.k) with ⟨a1, a2⟩ | ⟨a1, a2, a3, -⟩
    · unfold fmE at hf; omega
    · exact AG_ch (r := r) hS h a1 a2 a3.1.2.1
  · rw [if_neg hf, if_neg hf, if_neg hf, if_neg hf, if_neg hf, if_neg hf]
    exact AG_sp hS h hnb
theorem AG_nx {e : SE} {p q : PF} (hS : SOE e) (h : AG e.n p q) : nxE e p = nxE e q := by
  unfold nxE
  apply fst_congr
  intro r r0 r1
  rw [AG_nb hS h r, (h r r0 r1).1]
theorem spr_congr {e : SE} (hS : SOE e) : ∀ (f : Nat) (z u : SPZ), AG e.n z.1 u.1 → AG e.n (sprF e f z).1 (sprF e f u).1 := by
  intro f
  induction f with
  | zero => intro z u h; exact h
  | succ f ih =>
    intro z u h
    have e1 := AG_nx hS h
    by_cases y : nxE e z.1 < 0
    · rw [sprF_end y, sprF_end (by rw [← e1]; exact y)]; exact h
    · rw [sprF_go y, sprF_go (by rw [← e1]; exact y)]
      apply ih
      obtain ⟨-, -, hnb⟩ := nx_spec y
      obtain ⟨c1, c2, c3⟩ := AG_fc hS h hnb
      unfold sp1
      show AG e.n (putF z.1 _ _ _ _) (putF u.1 _ _ _ _)
      rw [← e1, ← c1, ← c2, ← c3]
      exact AG_put h _ _ _ _
theorem OI_EOK {e : SE} {root : Int} {z : OZ} (hS : SOE e) (h : OI e root z) : EOK (eO e z.2.1 z.2.2) := by
  obtain ⟨⟨c1, c2⟩, h2, h3, h4, h5, h6, h7⟩ := h
  have := cntP_r hS.1.1 z.1
  refine ⟨hS, ⟨c1, ?_⟩, h2, h3, h5⟩
  show z.2.2 ≤ e.n
  omega
/-- what holds of every best holds of the search's best -/
theorem tryF_ind {e : SE} (hE : EOK e) {P : AC → Prop} (h1 : ∀ (c : AC) (m s : Int), P c → P (m, s, c.best, c.bx, c.bY, c.bl)) (h2 : ∀ (c : AC) (p : PF), P c → PLC e e.cnt p → BP e.n 720 p → P (wghF e p c)) : ∀ (f : Nat) (a : Int) (p : PF) (x y l : Int) (c : AC), 0 ≤ a → a < e.cnt → PLC e a p → BP e.n (30 * a) p → (-(30 * a) ≤ x ∧ x ≤ 30 * a) → (-(30 * a) ≤ y ∧ y ≤ 30 * a) → (-(30 * a) ≤ l ∧ l ≤ 30 * a) → P c → P (tryF e f a p x y l c) := by
  intro f
  induction f with
  | zero => intro a p x y l c _ _ _ _ _ _ _ h; exact h
  | succ f ih =>
    intro a p x y l c a0 a1 hP hB hx hy hl h
    have hn := hE.cnt
    have hn24 := hE.sok.1
    have hP1 := PLC_put a0 hP x y l
    have hB1 : BP e.n (30 * a) (putF p (e.ord a) x y l) := by
      intro r r0 r1 r2
      by_cases q : r = e.ord a
      · subst q
        obtain ⟨b1, b2, b3, b4⟩ := putF_at p (e.ord a) x y l
        rw [b2, b3, b4]
        exact ⟨hx, hy, hl⟩
      · obtain ⟨b1, b2, b3, b4⟩ := putF_ne p q x y l
        rw [b1] at r2
        rw [b2, b3, b4]
        exact hB r r0 r1 r2
    have hB2 : BP e.n (30 * (a + 1)) (putF p (e.ord a) x y l) := fun r r0 r1 r2 => by have := hB1 r r0 r1 r2; omega
    by_cases hlm : e.lim ≤ c.made
    · rw [tryF_lim hlm]; exact h1 c _ _ h
    · by_cases hac : a + 1 < e.cnt
      · by_cases hf : 0 ≤ fmE e (putF p (e.ord a) x y l) (e.ord (a + 1))
        · rw [tryF_it rfl rfl hlm hac hf]
          refine itr_inv (F := stF e f a (putF p (e.ord a) x y l)) (P := P) (l0 := 0) (fun m u m0 m1 hu => ?_) 0 (by omega) _ (Int.le_refl _) (h1 c _ _ h)
          unfold stF
          by_cases hz : u.stp = 0 ∧ cdE e (putF p (e.ord a) x y l) (e.ord (a + 1)) m
          · rw [if_pos hz]
            obtain ⟨d1, d2, d3⟩ := cd_b hE.sok m0 m1 hB1 hz.2
            exact ih _ _ _ _ _ _ (by omega) hac hP1 hB2 (by omega) (by omega) (by omega) hu
          · rw [if_neg hz]; exact hu
        · rw [tryF_sp rfl rfl hlm hac hf]
          obtain ⟨d1, d2, d3⟩ := sp_b hE.sok hB1 (PLC_nb hE (by omega) hac hP1)
          exact ih _ _ _ _ _ _ (by omega) hac hP1 hB2 (by omega) (by omega) (by omega) (h1 c _ _ h)
      · rw [tryF_wg rfl rfl hlm hac]
        refine h2 _ _ (h1 c _ _ h) ?_ (fun r r0 r1 r2 => by have := hB1 r r0 r1 r2; omega)
        rw [show e.cnt = a + 1 by omega]
        exact hP1
def ACb (e : SE) (g1 g2 g3 : Int → Int) (c : AC) : Prop := (c.best = -1 ∨ (0 ≤ c.best ∧ c.best ≤ 3600)) ∧ (∀ r, inO e r → (-1000 ≤ c.bx r ∧ c.bx r ≤ 1000) ∧ (-1000 ≤ c.bY r ∧ c.bY r ≤ 1000) ∧ (-1000 ≤ c.bl r ∧ c.bl r ≤ 1000)) ∧ (∀ r, ¬ inO e r → c.bx r = g1 r ∧ c.bY r = g2 r ∧ c.bl r = g3 r)
theorem tryF_b {e : SE} (hE : EOK e) {g1 g2 g3 : Int → Int} {f : Nat} {a : Int} {p : PF} {x y l : Int} {c : AC} (a0 : 0 ≤ a) (a1 : a < e.cnt) (hP : PLC e a p) (hB : BP e.n (30 * a) p) (hx : -(30 * a) ≤ x ∧ x ≤ 30 * a) (hy : -(30 * a) ≤ y ∧ y ≤ 30 * a) (hl : -(30 * a) ≤ l ∧ l ≤ 30 * a) (hc : ACb e g1 g2 g3 c) : ACb e g1 g2 g3 (tryF e f a p x y l c) := by
  refine tryF_ind hE (P := ACb e g1 g2 g3) (fun c m s h => h) (fun c p h hP hB => ?_) f a p x y l c a0 a1 hP hB hx hy hl hc
  unfold wghF
  split
  · have hC := sumI_r (c := clS e.n e.fr e.di e.to p.ps p.xs p.ys p.ls) (k := e.k) (B := 60) (fun l l0 l1 => clS_r _ _ _ _ _ _ _ _ _) 0 hE.sok.1.2.2.1 (Int.le_refl _)
    have e1 : coE e p = sumI (clS e.n e.fr e.di e.to p.ps p.xs p.ys p.ls) 0 e.k := rfl
    rw [← e1] at hC
    have hk := hE.sok.1.2.2
    refine ⟨Or.inr ?_, fun r hr => ?_, fun r hr => ?_⟩
    · show 0 ≤ coE e p ∧ coE e p ≤ 3600; omega
    · show (-1000 ≤ onO e p.xs c.bx r ∧ onO e p.xs c.bx r ≤ 1000) ∧ (-1000 ≤ onO e p.ys c.bY r ∧ onO e p.ys c.bY r ≤ 1000) ∧ (-1000 ≤ onO e p.ls c.bl r ∧ onO e p.ls c.bl r ≤ 1000)
      rw [onO_in hr, onO_in hr, onO_in hr]
      obtain ⟨i, i0, i1, i2⟩ := hr
      have ho := hE.ord i i0 i1
      rw [i2] at ho
      have := hB r ho.1 ho.2 ((hP r ho.1 ho.2).mpr ⟨i, i0, i1, i2⟩)
      omega
    · show onO e p.xs c.bx r = g1 r ∧ onO e p.ys c.bY r = g2 r ∧ onO e p.ls c.bl r = g3 r
      unfold onO
      rw [if_neg hr, if_neg hr, if_neg hr]
      exact h.2.2 r hr
  · exact h
/-- the words of a part's drawing -/
def p00 : PF := (fun _ => 0, fun _ => 0, fun _ => 0, fun _ => 0)
noncomputable def oz (e : SE) (r : Int) : OZ := ordF e 24 (fu (fun _ => 0) r 1, fu (fun _ => 0) 0 r, 1)
noncomputable def eR (e : SE) (r : Int) : SE := eO e (oz e r).2.1 (oz e r).2.2
noncomputable def fP (e : SE) (r : Int) : PF := (sprF e 24 (putF p00 r 0 0 0, fu (fun _ => 0) 0 r, 1)).1
noncomputable def aR (e : SE) (r : Int) : AC := tryF (eR e r) 24 0 p00 0 0 0 (0, 0, -1, (fP e r).xs, (fP e r).ys, (fP e r).ls)
theorem oz_ok {e : SE} (hS : SOE e) {r : Int} (r0 : 0 ≤ r) (r1 : r < e.n) : OI e r (oz e r) ∧ nxT e (oz e r).1 < 0 := by
  have hn := hS.1.2.1
  refine OI_all hS 24 _ (OI_start hS r0 r1 (fun _ _ _ => rfl)) ?_
  show e.n ≤ 1 + (24 : Nat)
  omega
theorem eR_ok {e : SE} (hS : SOE e) {r : Int} (r0 : 0 ≤ r) (r1 : r < e.n) : EOK (eR e r) := OI_EOK hS (oz_ok hS r0 r1).1
/-- the order has what hangs together with its first -/
theorem inRt {e : SE} (hS : SOE e) {r : Int} (r0 : 0 ≤ r) (r1 : r < e.n) {q : Int} (q0 : 0 ≤ q) (q1 : q < e.n) : inO (eR e r) q ↔ conn e r q := by
  obtain ⟨h, hn⟩ := oz_ok hS r0 r1
  rw [← sat_conn hS h hn q q0 q1, h.2.2.2.1 q q0 q1]
  rfl
theorem inRt_r {e : SE} (hS : SOE e) {r : Int} (r0 : 0 ≤ r) (r1 : r < e.n) {q : Int} (h : inO (eR e r) q) : 0 ≤ q ∧ q < e.n := by
  obtain ⟨i, i0, i1, i2⟩ := h
  have := (eR_ok hS r0 r1).ord i i0 i1
  rw [i2] at this
  exact this
theorem PLC_0 {e : SE} {p : PF} (h : ∀ r, 0 ≤ r → r < e.n → p.ps r = 0) : PLC e 0 p := fun r r0 r1 => ⟨fun z => absurd (h r r0 r1) z, fun ⟨i, i0, i1, _⟩ => by omega⟩
theorem BP_0 {n : Int} {p : PF} (h : ∀ r, 0 ≤ r → r < n → p.ps r = 0) (B : Int) : BP n B p := fun r r0 r1 z => absurd (h r r0 r1) z
theorem AG_0 {n : Int} {p q : PF} (h : ∀ r, 0 ≤ r → r < n → p.ps r = 0) (g : ∀ r, 0 ≤ r → r < n → q.ps r = 0) : AG n p q := fun r r0 r1 => ⟨by rw [h r r0 r1, g r r0 r1], fun z => absurd (h r r0 r1) z⟩
