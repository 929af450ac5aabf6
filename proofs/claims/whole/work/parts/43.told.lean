/-! NUMBERS of parts; orders and searches told anew -/
theorem pc_step1 (A : Int → Int) {r : Int} (h : 0 ≤ r) : (pcS A (r + 1)).1 = (pcS A r).1 + (if A r = r then 1 else 0) := by
  rw [pcS_succ A h]
  unfold pcStep
  split <;> simp
theorem pc_val {n : Int} {A : Int → Int} (hL : LbP n A) (hA : ∀ j, 0 ≤ j → j < n → A (A j) = A j) : ∀ f : Nat, (f : Int) ≤ n → ∀ j, 0 ≤ j → j < (f : Int) → (pcS A (f : Int)).2 j = (pcS A (A j)).1 := by
  intro f
  induction f with
  | zero => intro _ j j0 j1; omega
  | succ f ih =>
    intro hf j j0 j1
    rw [show ((f + 1 : Nat) : Int) = (f : Int) + 1 by omega] at *
    rw [pcS_succ A (by omega)]
    unfold pcStep
    have hAf := hL (f : Int) (by omega) (by omega)
    by_cases y : A (f : Int) = (f : Int)
    · rw [if_pos y]
      show fu (pcS A (f : Int)).2 (f : Int) (pcS A (f : Int)).1 j = _
      by_cases w : j = (f : Int)
      · rw [w, fu_at, y]
      · rw [fu_ne w]; exact ih (by omega) j j0 (by omega)
    · rw [if_neg y]
      show fu (pcS A (f : Int)).2 (f : Int) ((pcS A (f : Int)).2 (A (f : Int))) j = _
      by_cases w : j = (f : Int)
      · rw [w, fu_at, ih (by omega) (A (f : Int)) (by omega) (by omega), hA (f : Int) (by omega) (by omega)]
      · rw [fu_ne w]; exact ih (by omega) j j0 (by omega)
theorem pc_ex {A : Int → Int} : ∀ f : Nat, ∀ i, 0 ≤ i → i < (pcS A (f : Int)).1 → ∃ x, 0 ≤ x ∧ x < (f : Int) ∧ A x = x ∧ (pcS A x).1 = i := by
  intro f
  induction f with
  | zero =>
    intro i i0 i1
    have : (pcS A ((0 : Nat) : Int)).1 = 0 := rfl
    omega
  | succ f ih =>
    intro i i0 i1
    rw [show ((f + 1 : Nat) : Int) = (f : Int) + 1 by omega] at *
    rw [pc_step1 A (by omega)] at i1
    by_cases y : i < (pcS A (f : Int)).1
    · obtain ⟨x, x0, x1, x2, x3⟩ := ih i i0 y
      exact ⟨x, x0, by omega, x2, x3⟩
    · by_cases w : A (f : Int) = (f : Int)
      · rw [if_pos w] at i1
        exact ⟨(f : Int), by omega, by omega, w, by omega⟩
      · rw [if_neg w] at i1; omega
theorem pc_mono {A : Int → Int} {a : Int} (ha : 0 ≤ a) : ∀ f : Nat, (pcS A a).1 ≤ (pcS A (a + (f : Int))).1 := by
  intro f
  induction f with
  | zero => rw [show a + ((0 : Nat) : Int) = a by omega]; exact Int.le_refl _
  | succ f ih =>
    rw [show a + ((f + 1 : Nat) : Int) = a + (f : Int) + 1 by omega, pc_step1 A (by omega)]
    split <;> omega
theorem pc_le {A : Int → Int} {a b : Int} (ha : 0 ≤ a) (hab : a ≤ b) : (pcS A a).1 ≤ (pcS A b).1 := by
  have := pc_mono (A := A) ha (b - a).toNat
  rw [show a + ((b - a).toNat : Int) = b by omega] at this
  exact this
theorem pc_lt {A : Int → Int} {a b : Int} (ha : 0 ≤ a) (hab : a < b) (hr : A a = a) : (pcS A a).1 < (pcS A b).1 := by
  have h1 := pc_step1 A ha
  rw [if_pos hr] at h1
  have h2 := pc_le (A := A) (a := a + 1) (b := b) (by omega) (by omega)
  omega
/-- the i-th least room -/
noncomputable def rho (A : Int → Int) (n i : Int) : Int := fst (fun x => A x = x ∧ (pcS A x).1 = i) 0 n
theorem rho_ok {A : Int → Int} {n : Int} (hn : 0 ≤ n) {i : Int} (i0 : 0 ≤ i) (i1 : i < (pcS A n).1) : (0 ≤ rho A n i ∧ rho A n i < n) ∧ A (rho A n i) = rho A n i ∧ (pcS A (rho A n i)).1 = i := by
  obtain ⟨x, x0, x1, x2, x3⟩ := pc_ex (A := A) n.toNat i i0 (by rw [show ((n.toNat : Nat) : Int) = n by omega]; exact i1)
  unfold rho
  rcases fst_spec (fun x => A x = x ∧ (pcS A x).1 = i) 0 n with ⟨a1, a2⟩ | ⟨a1, a2, a3, -⟩
  · exact absurd ⟨x2, x3⟩ (a2 x x0 (by omega))
  · exact ⟨⟨a1, a2⟩, a3.1, a3.2⟩
theorem rho_inc {A : Int → Int} {n : Int} (hn : 0 ≤ n) {i j : Int} (i0 : 0 ≤ i) (ij : i < j) (j1 : j < (pcS A n).1) : rho A n i < rho A n j := by
  obtain ⟨a1, a2, a3⟩ := rho_ok (A := A) hn i0 (by omega)
  obtain ⟨b1, b2, b3⟩ := rho_ok (A := A) hn (i := j) (by omega) j1
  rcases Int.lt_or_le (rho A n i) (rho A n j) with y | y
  · exact y
  · have := pc_le (A := A) b1.1 y
    omega
theorem rho_root {A : Int → Int} {n : Int} (hn : 0 ≤ n) {r : Int} (r0 : 0 ≤ r) (r1 : r < n) (hr : A r = r) : (0 ≤ (pcS A r).1 ∧ (pcS A r).1 < (pcS A n).1) ∧ rho A n (pcS A r).1 = r := by
  have h0 := (pcS_bound A n r r0).1
  have h1 := pc_lt (A := A) r0 r1 hr
  refine ⟨⟨h0, h1⟩, ?_⟩
  obtain ⟨a1, a2, a3⟩ := rho_ok (A := A) hn h0 h1
  rcases Int.lt_trichotomy (rho A n (pcS A r).1) r with y | y | y
  · have := pc_lt (A := A) a1.1 y a2; omega
  · exact y
  · have := pc_lt (A := A) r0 y hr; omega
/-- orders from states that are alike -/
theorem ord_congr {e : SE} (hS : SOE e) : ∀ (f : Nat) (z u : OZ), 0 ≤ z.2.2 → (∀ q, 0 ≤ q → q < e.n → z.1 q = u.1 q) → z.2.2 = u.2.2 → (∀ i, 0 ≤ i → i < z.2.2 → z.2.1 i = u.2.1 i) → (ordF e f z).2.2 = (ordF e f u).2.2 ∧ (∀ q, 0 ≤ q → q < e.n → (ordF e f z).1 q = (ordF e f u).1 q) ∧ (∀ i, 0 ≤ i → i < (ordF e f z).2.2 → (ordF e f z).2.1 i = (ordF e f u).2.1 i) := by
  intro f
  induction f with
  | zero => intro z u h0 h1 h2 h3; exact ⟨h2, h1, h3⟩
  | succ f ih =>
    intro z u h0 h1 h2 h3
    have e1 : nxT e z.1 = nxT e u.1 := by
      unfold nxT
      apply fst_congr
      intro r r0 r1
      have : nbS e.k e.fr e.to z.1 r = nbS e.k e.fr e.to u.1 r := AG_nb (p := (z.1, fun _ => 0, fun _ => 0, fun _ => 0)) (q := (u.1, fun _ => 0, fun _ => 0, fun _ => 0)) hS (fun q q0 q1 => ⟨h1 q q0 q1, fun _ => ⟨rfl, rfl, rfl⟩⟩) r
      rw [this, h1 r r0 r1]
    by_cases y : nxT e z.1 < 0
    · rw [ordF_end y, ordF_end (by rw [← e1]; exact y)]
      exact ⟨h2, h1, h3⟩
    · rw [ordF_go y, ordF_go (by rw [← e1]; exact y)]
      unfold od1
      rw [← e1, ← h2]
      generalize nxT e z.1 = w
      refine ih _ _ ?_ ?_ ?_ ?_
      · show 0 ≤ (if z.2.2 < 24 then z.2.2 + 1 else z.2.2)
        split <;> omega
      · intro q q0 q1
        show fu z.1 w 1 q = fu u.1 w 1 q
        by_cases v : q = w
        · rw [v, fu_at, fu_at]
        · rw [fu_ne v, fu_ne v]; exact h1 q q0 q1
      · rfl
      · intro i i0 i1
        show (if z.2.2 < 24 then fu z.2.1 z.2.2 w else z.2.1) i = (if z.2.2 < 24 then fu u.2.1 z.2.2 w else u.2.1) i
        have i1' : i < (if z.2.2 < 24 then z.2.2 + 1 else z.2.2) := i1
        by_cases v : z.2.2 < 24
        · rw [if_pos v] at i1'
          rw [if_pos v, if_pos v]
          by_cases x : i = z.2.2
          · rw [x, fu_at, fu_at]
          · rw [fu_ne x, fu_ne x]; exact h3 i i0 (by omega)
        · rw [if_neg v] at i1'
          rw [if_neg v, if_neg v]; exact h3 i i0 i1'
theorem OI_start {e : SE} (hS : SOE e) {root : Int} (h0 : 0 ≤ root) (h1 : root < e.n) {tk o : Int → Int} (ht : ∀ q, 0 ≤ q → q < e.n → tk q = 0) : OI e root (fu tk root 1, fu o 0 root, 1) := by
  have hz : cntP e.n tk = 0 := by
    have : sumI (cpl tk) 0 e.n = sumI (fun _ => 0) 0 e.n := sumI_congr (fun j j0 j1 => by unfold cpl; rw [ht j j0 j1]; simp) 0 (by omega) (Int.le_refl _)
    have h2 := sumI_r (c := fun _ => 0) (k := e.n) (B := 0) (fun j _ _ => by omega) 0 (by omega) (Int.le_refl _)
    unfold cntP
    omega
  have hc := cntP_put (ps := tk) h0 h1 (ht root h0 h1)
  have o0 : fu o 0 root 0 = root := fu_at _ _ _
  refine ⟨⟨Int.le_refl _, ?_⟩, ?_, ?_, ?_, ?_, o0, ?_⟩
  · show (1 : Int) = cntP e.n (fu tk root 1); omega
  · intro i i0 i1
    have i1' : i < 1 := i1
    show 0 ≤ fu o 0 root i ∧ fu o 0 root i < e.n
    rw [show i = 0 by omega, o0]; exact ⟨h0, h1⟩
  · intro i j i0 i1 j0 j1 _
    have i1' : i < 1 := i1
    have j1' : j < 1 := j1
    omega
  · intro q q0 q1
    show fu tk root 1 q ≠ 0 ↔ ∃ i, 0 ≤ i ∧ i < 1 ∧ fu o 0 root i = q
    by_cases y : q = root
    · rw [y, fu_at]; exact ⟨fun _ => ⟨0, by omega, by omega, o0⟩, fun _ => by decide⟩
    · rw [fu_ne y, ht q q0 q1]
      refine ⟨fun z => absurd rfl z, ?_⟩
      rintro ⟨i, i0, i1, i2⟩
      rw [show i = 0 by omega, o0] at i2
      exact absurd i2.symm y
  · intro i i1 i2
    have i2' : i < 1 := i2
    omega
  · intro i i0 i1
    have i1' : i < 1 := i1
    show conn e root (fu o 0 root i)
    rw [show i = 0 by omega, o0]; exact conn_refl e root
/-- the same search with another order, list and limit -/
def eO (e : SE) (o : Int → Int) (c : Int) : SE := (e.n, e.k, e.fr, e.di, e.to, e.bo, o, c, e.lim)
theorem tryF_env {e : SE} {o : Int → Int} (h : ∀ i, 0 ≤ i → i < e.cnt → e.ord i = o i) : ∀ (f : Nat) (a : Int) (p : PF) (x y l : Int) (c : AC), 0 ≤ a → a < e.cnt → tryF e f a p x y l c = tryF (eO e o e.cnt) f a p x y l c := by
  have hin : ∀ r, inO e r ↔ inO (eO e o e.cnt) r := fun r => by
    constructor
    · rintro ⟨i, i0, i1, i2⟩; exact ⟨i, i0, i1, by show o i = r; rw [← h i i0 i1]; exact i2⟩
    · rintro ⟨i, i0, i1, i2⟩; exact ⟨i, i0, i1, by rw [h i i0 i1]; exact i2⟩
  have hon : ∀ g g' : Int → Int, onO e g g' = onO (eO e o e.cnt) g g' := fun g g' => by
    funext r
    unfold onO
    by_cases y : inO e r
    · rw [if_pos y, if_pos ((hin r).mp y)]
    · rw [if_neg y, if_neg (fun z => y ((hin r).mpr z))]
  intro f
  induction f with
  | zero => intros; rfl
  | succ f ih =>
    intro a p x y l c h0 h1
    have ea : (eO e o e.cnt).ord a = e.ord a := (h a h0 h1).symm
    by_cases hl : e.lim ≤ c.made
    · rw [tryF_lim hl, tryF_lim (e := eO e o e.cnt) hl]
    · by_cases hac : a + 1 < e.cnt
      · have eb : (eO e o e.cnt).ord (a + 1) = e.ord (a + 1) := (h (a + 1) (by omega) hac).symm
        by_cases hf : 0 ≤ fmE e (putF p (e.ord a) x y l) (e.ord (a + 1))
        · rw [tryF_it rfl rfl hl hac hf, tryF_it (e := eO e o e.cnt) (p := p) (x := x) (y := y) (l := l) (c := c) rfl rfl hl hac (by rw [ea, eb]; exact hf), ea]
          show itr _ 0 (3 * e.k) _ = itr _ 0 (3 * e.k) _
          refine itr_rel (R := fun u v => u = v) (l0 := 0) (fun m u v m0 m1 huv => ?_) 0 ?_ _ _ (Int.le_refl _) rfl
          · subst huv
            unfold stF
            rw [eb]
            by_cases hz : u.stp = 0 ∧ cdE e (putF p (e.ord a) x y l) (e.ord (a + 1)) m
            · rw [if_pos hz, if_pos (by exact hz)]
              exact ih _ _ _ _ _ _ (by omega) hac
            · rw [if_neg hz, if_neg (by exact hz)]
          · by_cases hk : 0 ≤ 3 * e.k
            · exact hk
            · exfalso
              unfold fmE at hf
              rw [fst_ge (by omega)] at hf
              omega
        · rw [tryF_sp rfl rfl hl hac hf, tryF_sp (e := eO e o e.cnt) (p := p) (x := x) (y := y) (l := l) (c := c) rfl rfl hl hac (by rw [ea, eb]; exact hf), ea, eb]
          exact ih _ _ _ _ _ _ (by omega) hac
      · rw [tryF_wg rfl rfl hl hac, tryF_wg (e := eO e o e.cnt) (p := p) (x := x) (y := y) (l := l) (c := c) rfl rfl hl hac, ea]
        unfold wghF
        rw [hon, hon, hon]
        rfl
def ACq (e : SE) (c d : AC) : Prop := c.made = d.made ∧ c.stp = d.stp ∧ c.best = d.best ∧ ∀ r, inO e r → c.bx r = d.bx r ∧ c.bY r = d.bY r ∧ c.bl r = d.bl r
theorem onO_in {e : SE} {f g : Int → Int} {r : Int} (h : inO e r) : onO e f g r = f r := by unfold onO; rw [if_pos h]
theorem tryF_acc {e : SE} (hk : 0 ≤ e.k) : ∀ (f : Nat) (a : Int) (p : PF) (x y l : Int) (c d : AC), ACq e c d → ACq e (tryF e f a p x y l c) (tryF e f a p x y l d) := by
  intro f
  induction f with
  | zero => intro a p x y l c d h; exact h
  | succ f ih =>
    intro a p x y l c d h
    obtain ⟨h1, h2, h3, h4⟩ := id h
    have h' : ACq e (c.made + 1, c.stp, c.best, c.bx, c.bY, c.bl) (d.made + 1, d.stp, d.best, d.bx, d.bY, d.bl) := ⟨by show c.made + 1 = d.made + 1; rw [h1], h2, h3, h4⟩
    by_cases hl : e.lim ≤ c.made
    · rw [tryF_lim hl, tryF_lim (by rw [← h1]; exact hl)]
      exact ⟨h1, rfl, h3, h4⟩
    · have hl' : ¬ e.lim ≤ d.made := by rw [← h1]; exact hl
      by_cases hac : a + 1 < e.cnt
      · by_cases hf : 0 ≤ fmE e (putF p (e.ord a) x y l) (e.ord (a + 1))
        · rw [tryF_it rfl rfl hl hac hf, tryF_it rfl rfl hl' hac hf]
          refine itr_rel (R := ACq e) (l0 := 0) (fun m u v m0 m1 huv => ?_) 0 (by omega) _ _ (Int.le_refl _) h'
          unfold stF
          by_cases hz : u.stp = 0 ∧ cdE e (putF p (e.ord a) x y l) (e.ord (a + 1)) m
          · rw [if_pos hz, if_pos ⟨by rw [← huv.2.1]; exact hz.1, hz.2⟩]
            exact ih _ _ _ _ _ _ _ huv
          · rw [if_neg hz, if_neg (fun w => hz ⟨by rw [huv.2.1]; exact w.1, w.2⟩)]
            exact huv
        · rw [tryF_sp rfl rfl hl hac hf, tryF_sp rfl rfl hl' hac hf]
          exact ih _ _ _ _ _ _ _ h'
      · rw [tryF_wg rfl rfl hl hac, tryF_wg rfl rfl hl' hac]
        unfold wghF
        show ACq e (if c.best = -1 ∨ coE e (putF p (e.ord a) x y l) < c.best then _ else _) (if d.best = -1 ∨ coE e (putF p (e.ord a) x y l) < d.best then _ else _)
        by_cases hz : c.best = -1 ∨ coE e (putF p (e.ord a) x y l) < c.best
        · rw [if_pos hz, if_pos (by rw [← h3]; exact hz)]
          refine ⟨by show c.made + 1 = d.made + 1; rw [h1], h2, rfl, fun r hr => ⟨?_, ?_, ?_⟩⟩
          · show onO e _ _ r = onO e _ _ r
            rw [onO_in hr, onO_in hr]
          · show onO e _ _ r = onO e _ _ r
            rw [onO_in hr, onO_in hr]
          · show onO e _ _ r = onO e _ _ r
            rw [onO_in hr, onO_in hr]
        · rw [if_neg hz, if_neg (by rw [← h3]; exact hz)]
          exact h'
