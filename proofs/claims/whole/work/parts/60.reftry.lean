/-! TRYING: the reference, the words -/
noncomputable def bodyF (e : SE) (f : Nat) (a : Int) (P : PF) (c : AC) : AC := if a + 1 < e.cnt then (if 0 ≤ fmE e P (e.ord (a + 1)) then itr (stF e f a P) 0 (3 * e.k) c else tryF e f (a + 1) P (sXE e P (e.ord (a + 1))) (sYE e P (e.ord (a + 1))) (sLE e P (e.ord (a + 1))) c) else wghF e P c
theorem tryF_body {e : SE} {f : Nat} {a : Int} {p P : PF} {x y l : Int} {c : AC} (hP : P = putF p (e.ord a) x y l) (h : ¬ e.lim ≤ c.made) : tryF e (f + 1) a p x y l c = bodyF e f a P (c.made + 1, c.stp, c.best, c.bx, c.bY, c.bl) := by
  unfold bodyF
  by_cases hac : a + 1 < e.cnt
  · rw [if_pos hac]
    by_cases hf : 0 ≤ fmE e P (e.ord (a + 1))
    · rw [if_pos hf]; exact tryF_it hP rfl h hac hf
    · rw [if_neg hf]; exact tryF_sp hP rfl h hac hf
  · rw [if_neg hac]; exact tryF_wg hP rfl h hac
def rmF (p : PF) (r : Int) : PF := (fu p.ps r 0, p.xs, p.ys, p.ls)
theorem rm_put {e : SE} {a : Int} {p : PF} (hE : EOK e) (a0 : 0 ≤ a) (a1 : a < e.cnt) (hP : PLC e a p) (x y l : Int) : AG e.n p (rmF (putF p (e.ord a) x y l) (e.ord a)) := by
  intro q q0 q1
  have ho := hE.ord a a0 a1
  by_cases y9 : q = e.ord a
  · have h0 : p.ps q = 0 := by
      by_cases w : p.ps q = 0
      · exact w
      · obtain ⟨i, i0, i1, i2⟩ := (hP q q0 q1).mp w
        have := hE.inj i a i0 (by omega) a0 a1 (by rw [i2, y9])
        omega
    refine ⟨?_, fun z => absurd h0 z⟩
    show p.ps q = fu (putF p (e.ord a) x y l).ps (e.ord a) 0 q
    rw [y9, fu_at, ← y9, h0]
  · obtain ⟨b1, b2, b3, b4⟩ := putF_ne p y9 x y l
    refine ⟨?_, fun _ => ⟨b2.symm, b3.symm, b4.symm⟩⟩
    show p.ps q = fu (putF p (e.ord a) x y l).ps (e.ord a) 0 q
    rw [fu_ne y9, b1]
theorem AG_rm {n : Int} {p q : PF} (h : AG n p q) (r : Int) : AG n (rmF p r) (rmF q r) := by
  intro s s0 s1
  by_cases y : s = r
  · refine ⟨?_, fun z => ?_⟩
    · show fu p.ps r 0 s = fu q.ps r 0 s
      rw [y, fu_at, fu_at]
    · exfalso
      apply z
      show fu p.ps r 0 s = 0
      rw [y, fu_at]
  · obtain ⟨a, b⟩ := h s s0 s1
    refine ⟨?_, fun z => b ?_⟩
    · show fu p.ps r 0 s = fu q.ps r 0 s
      rw [fu_ne y, fu_ne y]; exact a
    · have z' : fu p.ps r 0 s ≠ 0 := z
      rw [fu_ne y] at z'
      exact z'
/-- the rest of the chances, told by their number -/
theorem nth_adv {P : Int → Prop} {K l j m : Int} (hl : l ≤ K) (h : ∀ i, 0 ≤ i → nth P 0 K (j + i) = nth P l K i) (hm : nth P l K 0 = m) (hm0 : 0 ≤ m) (l0 : 0 ≤ l) : (l ≤ m ∧ m < K ∧ P m ∧ ∀ q, l ≤ q → q < m → ¬ P q) ∧ ∀ i, 0 ≤ i → nth P 0 K (j + 1 + i) = nth P (m + 1) K i := by
  have e0 := nth_0 (P := P) (K := K) l hl
  rw [hm] at e0
  have hs : l ≤ m ∧ m < K ∧ P m ∧ ∀ q, l ≤ q → q < m → ¬ P q := by
    rcases fst_spec P l K with ⟨a1, a2⟩ | ⟨a1, a2, a3, a4⟩
    · omega
    · rw [e0]; exact ⟨a1, a2, a3, a4⟩
  refine ⟨hs, fun i i0 => ?_⟩
  rw [show j + 1 + i = j + (1 + i) by omega, h (1 + i) (by omega)]
  have skip : ∀ q, q ≤ m → l ≤ q → nth P q K (1 + i) = nth P m K (1 + i) := by
    refine up_ind (fun q hq ih hlq => ?_)
    rcases Int.lt_or_le q m with y | y
    · rw [nth_skip (by omega) (hs.2.2.2 q hlq y)]; exact ih y (by omega)
    · rw [show q = m by omega]
  rw [skip l hs.1 (Int.le_refl _), nth_next hs.2.1 hs.2.2.1 (by omega), show 1 + i - 1 = i by omega]
/-- a fold over chances goes to the next one -/
theorem st_adv {e : SE} {f : Nat} {a : Int} {P : PF} {l m K : Int} {c : AC} (hm : l ≤ m) (hK : m < K) (hno : ∀ q, l ≤ q → q < m → ¬ cdE e P (e.ord (a + 1)) q) : itr (stF e f a P) l K c = itr (stF e f a P) (m + 1) K (stF e f a P m c) := by
  have skip : ∀ q, q ≤ m → l ≤ q → itr (stF e f a P) q K c = itr (stF e f a P) m K c := by
    refine up_ind (fun q hq ih hlq => ?_)
    rcases Int.lt_or_le q m with y | y
    · rw [itr_lt (l := q) (by omega)]
      have : stF e f a P q c = c := by unfold stF; rw [if_neg (fun z => hno q hlq y z.2)]
      rw [this]; exact ih y (by omega)
    · rw [show q = m by omega]
  rw [skip l hm (Int.le_refl _), itr_lt hK]
theorem st_none {e : SE} {f : Nat} {a : Int} {P : PF} {l K : Int} {c : AC} (hl : l ≤ K) (hno : ∀ q, l ≤ q → q < K → ¬ cdE e P (e.ord (a + 1)) q) : itr (stF e f a P) l K c = c :=
  itr_inv (F := stF e f a P) (P := fun u => u = c) (l0 := l) (fun q u q0 q1 hu => by
    unfold stF
    rw [if_neg (fun z => hno q q0 q1 z.2)]
    exact hu) l hl c (Int.le_refl _) rfl
