/-! LEAST ROOMS: labels tell what hangs together; orders told anew -/
theorem itr_split {α : Type} {F : Int → α → α} {k m : Int} : ∀ l, l ≤ m → ∀ a, m ≤ k → itr F l k a = itr F m k (itr F l m a) := by
  refine up_ind (fun l hl ih a hm => ?_)
  rcases Int.lt_or_le l m with h | h
  · rw [itr_lt (l := l) (k := k) (by omega), itr_lt (l := l) (k := m) h]
    exact ih h _ hm
  · rw [show l = m by omega, itr_ge (l := m) (k := m) (Int.le_refl _)]
theorem sumI_mono {c c' : Int → Int} {k : Int} (hc : ∀ j, 0 ≤ j → j < k → c j ≤ c' j) : ∀ l, l ≤ k → 0 ≤ l → sumI c l k ≤ sumI c' l k := by
  refine up_ind (fun l hl ih h0 => ?_)
  rcases Int.lt_or_le l k with h | h
  · rw [sumI_lt h, sumI_lt h]
    have := hc l h0 h
    have := ih h (by omega)
    omega
  · rw [sumI_ge h, sumI_ge h]
    exact Int.le_refl _
theorem cntP_lt {n : Int} {f g : Int → Int} (h : ∀ q, 0 ≤ q → q < n → f q ≠ 0 → g q ≠ 0) {q : Int} (q0 : 0 ≤ q) (q1 : q < n) (hf : f q = 0) (hg : g q ≠ 0) : cntP n f + 1 ≤ cntP n g := by
  rw [← cntP_put q0 q1 hf]
  unfold cntP
  refine sumI_mono (fun j j0 j1 => ?_) 0 (by omega) (Int.le_refl _)
  by_cases y : j = q
  · unfold cpl
    rw [y, if_pos hg]
    split <;> omega
  · unfold cpl
    rw [fu_ne y]
    by_cases w : f j = 0
    · rw [if_neg (fun z => z w)]; split <;> omega
    · rw [if_pos w, if_pos (h j j0 j1 w)]; exact Int.le_refl _
/-- labels of a state -/
def LI (e : SE) (s : Int → Int) : Prop := ∀ q, 0 ≤ q → q < e.n → (0 ≤ s q ∧ s q < e.n) ∧ conn e q (s q)
def MN (e : SE) (s u : Int → Int) : Prop := ∀ q, 0 ≤ q → q < e.n → u q ≤ s q
theorem lk_LI {e : SE} (hS : SOE e) {s : Int → Int} {l : Int} (l0 : 0 ≤ l) (l1 : l < e.k) (h : LI e s) : LI e (lkF e.fr e.to l s) ∧ MN e s (lkF e.fr e.to l s) := by
  obtain ⟨hf, ht, -⟩ := hS.2 l l0 l1
  obtain ⟨a1, a2⟩ := h _ hf.1 hf.2
  obtain ⟨b1, b2⟩ := h _ ht.1 ht.2
  have hc := conn_link l0 l1
  have hmin : (minI (s (e.fr l)) (s (e.to l)) = s (e.fr l) ∨ minI (s (e.fr l)) (s (e.to l)) = s (e.to l)) ∧ minI (s (e.fr l)) (s (e.to l)) ≤ s (e.fr l) ∧ minI (s (e.fr l)) (s (e.to l)) ≤ s (e.to l) := by
    unfold minI; split <;> omega
  have hcm : conn e (e.fr l) (minI (s (e.fr l)) (s (e.to l))) := by
    rcases hmin.1 with y | y
    · rw [y]; exact a2
    · rw [y]; exact conn_trans hc b2
  have hrm : 0 ≤ minI (s (e.fr l)) (s (e.to l)) ∧ minI (s (e.fr l)) (s (e.to l)) < e.n := by
    rcases hmin.1 with y | y
    · rw [y]; exact a1
    · rw [y]; exact b1
  have key : ∀ q, 0 ≤ q → q < e.n → ((0 ≤ lkF e.fr e.to l s q ∧ lkF e.fr e.to l s q < e.n) ∧ conn e q (lkF e.fr e.to l s q)) ∧ lkF e.fr e.to l s q ≤ s q := by
    intro q q0 q1
    unfold lkF
    by_cases y : q = e.to l
    · rw [y, fu_at]
      exact ⟨⟨hrm, conn_trans (conn_symm hc) hcm⟩, hmin.2.2⟩
    · rw [fu_ne y]
      by_cases w : q = e.fr l
      · rw [w, fu_at]
        exact ⟨⟨hrm, hcm⟩, hmin.2.1⟩
      · rw [fu_ne w]
        exact ⟨h q q0 q1, Int.le_refl _⟩
  exact ⟨fun q q0 q1 => (key q q0 q1).1, fun q q0 q1 => (key q q0 q1).2⟩
theorem it_LI {e : SE} (hS : SOE e) {s : Int → Int} (h : LI e s) {a b : Int} (ha : 0 ≤ a) (hab : a ≤ b) (hb : b ≤ e.k) : LI e (itr (lkF e.fr e.to) a b s) ∧ MN e s (itr (lkF e.fr e.to) a b s) :=
  itr_inv (F := lkF e.fr e.to) (P := fun u => LI e u ∧ MN e s u) (l0 := 0) (fun l u l0 l1 hu => by
    obtain ⟨x, y⟩ := lk_LI hS l0 (by omega) hu.1
    exact ⟨x, fun q q0 q1 => Int.le_trans (y q q0 q1) (hu.2 q q0 q1)⟩) a hab s ha ⟨h, fun _ _ _ => Int.le_refl _⟩
theorem pass_LI {e : SE} (hS : SOE e) {s : Int → Int} (h : LI e s) : LI e (passF e.k e.fr e.to s) ∧ MN e s (passF e.k e.fr e.to s) := it_LI hS h (Int.le_refl _) hS.1.2.2.1 (Int.le_refl _)
/-- m is the least of what hangs together with it -/
def LM (e : SE) (m : Int) : Prop := (0 ≤ m ∧ m < e.n) ∧ ∀ q, 0 ≤ q → q < e.n → conn e m q → m ≤ q
theorem LM_le {e : SE} {m : Int} (hm : LM e m) {s : Int → Int} (h : LI e s) {q : Int} (q0 : 0 ≤ q) (q1 : q < e.n) (hc : conn e m q) : m ≤ s q := by
  obtain ⟨a, b⟩ := h q q0 q1
  exact hm.2 _ a.1 a.2 (conn_trans hc b)
/-- a link with one end done gets the other done -/
theorem pass_go {e : SE} (hS : SOE e) {m : Int} (hm : LM e m) {s : Int → Int} (h : LI e s) {l : Int} (l0 : 0 ≤ l) (l1 : l < e.k) (hc : conn e m (e.fr l)) (hd : s (e.fr l) = m ∨ s (e.to l) = m) : passF e.k e.fr e.to s (e.fr l) = m ∧ passF e.k e.fr e.to s (e.to l) = m := by
  obtain ⟨hf, ht, -⟩ := hS.2 l l0 l1
  have hc2 : conn e m (e.to l) := conn_trans hc (conn_link l0 l1)
  obtain ⟨i1, i2⟩ := it_LI hS h (a := 0) (b := l) (Int.le_refl _) l0 (by omega)
  have d1 := LM_le hm i1 hf.1 hf.2 hc
  have d2 := LM_le hm i1 ht.1 ht.2 hc2
  have d3 := i2 _ hf.1 hf.2
  have d4 := i2 _ ht.1 ht.2
  obtain ⟨i3, -⟩ := lk_LI hS l0 l1 i1
  have hl : lkF e.fr e.to l (itr (lkF e.fr e.to) 0 l s) (e.fr l) = m ∧ lkF e.fr e.to l (itr (lkF e.fr e.to) 0 l s) (e.to l) = m := by
    generalize itr (lkF e.fr e.to) 0 l s = u at *
    have hmm : minI (u (e.fr l)) (u (e.to l)) = m := by unfold minI; split <;> omega
    unfold lkF
    rw [hmm, fu_at]
    refine ⟨?_, rfl⟩
    by_cases y : e.fr l = e.to l
    · rw [y, fu_at]
    · rw [fu_ne y, fu_at]
  obtain ⟨i5, i6⟩ := it_LI hS i3 (a := l + 1) (b := e.k) (by omega) (by omega) (Int.le_refl _)
  have e0 : passF e.k e.fr e.to s = itr (lkF e.fr e.to) (l + 1) e.k (lkF e.fr e.to l (itr (lkF e.fr e.to) 0 l s)) := by
    unfold passF
    rw [itr_split (m := l) 0 l0 s (by omega), itr_lt l1]
  rw [e0]
  have f1 := LM_le hm i5 hf.1 hf.2 hc
  have f2 := LM_le hm i5 ht.1 ht.2 hc2
  have f3 := i6 _ hf.1 hf.2
  have f4 := i6 _ ht.1 ht.2
  omega
noncomputable def dn (e : SE) (m : Int) (s : Int → Int) : Int → Int := fun q => @ite _ (conn e m q ∧ s q = m) (Classical.propDecidable _) 1 0
theorem dn_ne {e : SE} {m : Int} {s : Int → Int} {q : Int} : dn e m s q ≠ 0 ↔ conn e m q ∧ s q = m := by
  unfold dn
  by_cases y : conn e m q ∧ s q = m
  · rw [if_pos y]; exact ⟨fun _ => y, fun _ => by decide⟩
  · rw [if_neg y]; exact ⟨fun z => absurd rfl z, fun z => absurd z y⟩
theorem pass_more {e : SE} (hS : SOE e) {m : Int} (hm : LM e m) {s : Int → Int} (h : LI e s) (hs : s m = m) : (∀ q, 0 ≤ q → q < e.n → conn e m q → s q = m) ∨ cntP e.n (dn e m s) + 1 ≤ cntP e.n (dn e m (passF e.k e.fr e.to s)) := by
  by_cases hall : ∀ l, 0 ≤ l → l < e.k → ((conn e m (e.fr l) ∧ s (e.fr l) = m) ↔ (conn e m (e.to l) ∧ s (e.to l) = m))
  · left
    intro q q0 q1 hc
    exact ((hc (fun r => conn e m r ∧ s r = m) hall).mp ⟨conn_refl e m, hs⟩).2
  · right
    have hex : ∃ l, 0 ≤ l ∧ l < e.k ∧ ¬ ((conn e m (e.fr l) ∧ s (e.fr l) = m) ↔ (conn e m (e.to l) ∧ s (e.to l) = m)) := by
      refine Classical.byContradiction (fun hno => hall (fun l l0 l1 => ?_))
      exact Classical.byContradiction (fun y => hno ⟨l, l0, l1, y⟩)
    obtain ⟨l, l0, l1, hl⟩ := hex
    obtain ⟨hf, ht, -⟩ := hS.2 l l0 l1
    have hcl := conn_link (e := e) l0 l1
    obtain ⟨p1, p2⟩ := pass_LI hS h
    have keep : ∀ q, 0 ≤ q → q < e.n → dn e m s q ≠ 0 → dn e m (passF e.k e.fr e.to s) q ≠ 0 := by
      intro q q0 q1 y
      rw [dn_ne] at *
      refine ⟨y.1, ?_⟩
      have := LM_le hm p1 q0 q1 y.1
      have := p2 q q0 q1
      omega
    by_cases y : conn e m (e.fr l) ∧ s (e.fr l) = m
    · obtain ⟨g1, g2⟩ := pass_go hS hm h l0 l1 y.1 (Or.inl y.2)
      have hc2 := conn_trans y.1 hcl
      refine cntP_lt keep ht.1 ht.2 ?_ (dn_ne.mpr ⟨hc2, g2⟩)
      exact Classical.byContradiction (fun w => hl ⟨fun _ => dn_ne.mp w, fun _ => y⟩)
    · have w : conn e m (e.to l) ∧ s (e.to l) = m := Classical.byContradiction (fun w => hl ⟨fun z => absurd z y, fun z => absurd z w⟩)
      have hc2 := conn_trans w.1 (conn_symm hcl)
      obtain ⟨g1, g2⟩ := pass_go hS hm h l0 l1 hc2 (Or.inr w.2)
      refine cntP_lt keep hf.1 hf.2 ?_ (dn_ne.mpr ⟨hc2, g1⟩)
      exact Classical.byContradiction (fun v => y (dn_ne.mp v))
theorem least_is {e : SE} (hS : SOE e) {m : Int} (hm : LM e m) : ∀ q, 0 ≤ q → q < e.n → conn e m q → leastS e.n e.k e.fr e.to q = m := by
  have main : ∀ f : Nat, (LI e (itr (fun _ => passF e.k e.fr e.to) 0 (f : Int) (fun j => j)) ∧ itr (fun _ => passF e.k e.fr e.to) 0 (f : Int) (fun j => j) m = m) ∧ ((∀ q, 0 ≤ q → q < e.n → conn e m q → itr (fun _ => passF e.k e.fr e.to) 0 (f : Int) (fun j => j) q = m) ∨ (f : Int) + 1 ≤ cntP e.n (dn e m (itr (fun _ => passF e.k e.fr e.to) 0 (f : Int) (fun j => j)))) := by
    intro f
    induction f with
    | zero =>
      rw [itr_ge (by omega)]
      refine ⟨⟨fun q q0 q1 => ⟨⟨q0, q1⟩, conn_refl e q⟩, rfl⟩, Or.inr ?_⟩
      have h0 : (0 : Int) ≤ cntP e.n (fun _ => 0) := (cntP_r hS.1.1 _).1
      have := cntP_lt (n := e.n) (f := fun _ => 0) (g := dn e m (fun j => j)) (fun _ _ _ y => absurd rfl y) hm.1.1 hm.1.2 rfl (dn_ne.mpr ⟨conn_refl e m, rfl⟩)
      omega
    | succ f ih =>
      have e1 : ((f + 1 : Nat) : Int) = (f : Int) + 1 := by omega
      rw [e1, itr_right 0 (by omega)]
      generalize itr (fun _ => passF e.k e.fr e.to) 0 (f : Int) (fun j => j) = s at *
      obtain ⟨⟨h1, h2⟩, h3⟩ := ih
      obtain ⟨p1, p2⟩ := pass_LI hS h1
      have stay : ∀ q, 0 ≤ q → q < e.n → conn e m q → s q = m → passF e.k e.fr e.to s q = m := by
        intro q q0 q1 hc hq
        have := LM_le hm p1 q0 q1 hc
        have := p2 q q0 q1
        omega
      refine ⟨⟨p1, stay m hm.1.1 hm.1.2 (conn_refl e m) h2⟩, ?_⟩
      rcases h3 with y | y
      · exact Or.inl (fun q q0 q1 hc => stay q q0 q1 hc (y q q0 q1 hc))
      · rcases pass_more hS hm h1 h2 with w | w
        · exact Or.inl (fun q q0 q1 hc => stay q q0 q1 hc (w q q0 q1 hc))
        · exact Or.inr (by omega)
  intro q q0 q1 hc
  have hn := hS.1.1
  have := (main e.n.toNat).2
  rw [show ((e.n.toNat : Nat) : Int) = e.n by omega] at this
  rcases this with y | y
  · exact y q q0 q1 hc
  · have := (cntP_r hn (dn e m (itr (fun _ => passF e.k e.fr e.to) 0 e.n (fun j => j)))).2
    omega
/-- the least room that hangs together with q -/
theorem least_all {e : SE} (hS : SOE e) {q : Int} (q0 : 0 ≤ q) (q1 : q < e.n) : LM e (leastS e.n e.k e.fr e.to q) ∧ conn e (leastS e.n e.k e.fr e.to q) q := by
  rcases fst_spec (fun m => conn e m q) 0 e.n with ⟨a1, a2⟩ | ⟨a1, a2, a3, a4⟩
  · exact absurd (conn_refl e q) (a2 q q0 q1)
  · generalize fst (fun m => conn e m q) 0 e.n = m at *
    have hm : LM e m := ⟨⟨a1, a2⟩, fun r r0 r1 hc => by
      rcases Int.lt_or_le r m with y | y
      · exact absurd (conn_trans (conn_symm hc) a3) (a4 r r0 y)
      · exact y⟩
    rw [least_is hS hm q q0 q1 a3]
    exact ⟨hm, a3⟩
theorem least_conn {e : SE} (hS : SOE e) {q r : Int} (q0 : 0 ≤ q) (q1 : q < e.n) (r0 : 0 ≤ r) (r1 : r < e.n) : conn e q r ↔ leastS e.n e.k e.fr e.to q = leastS e.n e.k e.fr e.to r := by
  obtain ⟨a1, a2⟩ := least_all hS q0 q1
  obtain ⟨b1, b2⟩ := least_all hS r0 r1
  constructor
  · intro hc
    exact (least_is hS a1 r r0 r1 (conn_trans a2 hc)).symm
  · intro he
    rw [he] at a2
    exact conn_trans (conn_symm a2) b2
theorem least_root {e : SE} (hS : SOE e) {q : Int} (q0 : 0 ≤ q) (q1 : q < e.n) : leastS e.n e.k e.fr e.to (leastS e.n e.k e.fr e.to q) = leastS e.n e.k e.fr e.to q := by
  obtain ⟨a1, a2⟩ := least_all hS q0 q1
  exact least_is hS a1 _ a1.1.1 a1.1.2 (conn_refl e _)
