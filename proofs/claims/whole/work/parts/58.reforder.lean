/-! THE ORDER: the reference -/
theorem par_root {e : SE} (hS : SOE e) {i : Int} (i0 : 0 ≤ i) (i1 : i < cntS e.n e.k e.fr e.to) {q : Int} (q0 : 0 ≤ q) (q1 : q < e.n) : parS e.n e.k e.fr e.to q = i ↔ lsE e q = rho (lsE e) e.n i := by
  obtain ⟨a1, a2, a3⟩ := rho_ok (A := lsE e) hS.1.1 i0 i1
  rw [parS_at hS q0 q1]
  constructor
  · intro h
    have b1 := least_all hS q0 q1
    have b2 : lsE e (lsE e q) = lsE e q := least_root hS q0 q1
    obtain ⟨-, c2⟩ := rho_root (A := lsE e) hS.1.1 b1.1.1.1 b1.1.1.2 b2
    have c3 : rho (lsE e) e.n (pcS (lsE e) (lsE e q)).1 = lsE e q := c2
    rw [← c3, h]
  · intro h
    rw [h]
    exact a3
/-- which room the reference takes next -/
def scP (e : SE) (pn tk : Int → Int) (i c r : Int) : Prop := pn r = i ∧ tk r = 0 ∧ (c = 0 ∨ 0 ≤ fst (jnP e.fr e.to tk r) 0 e.k)
theorem sc_first {e : SE} (hS : SOE e) {i : Int} (i0 : 0 ≤ i) (i1 : i < cntS e.n e.k e.fr e.to) {pn tk : Int → Int} (hp : ∀ q, 0 ≤ q → q < e.n → pn q = parS e.n e.k e.fr e.to q) (ht : ∀ q, 0 ≤ q → q < e.n → tk q = 0) : fst (scP e pn tk i 0) 0 e.n = rho (lsE e) e.n i := by
  obtain ⟨a1, a2, a3⟩ := rho_ok (A := lsE e) hS.1.1 i0 i1
  have hr : scP e pn tk i 0 (rho (lsE e) e.n i) := ⟨by rw [hp _ a1.1 a1.2]; exact (par_root hS i0 i1 a1.1 a1.2).mpr a2, ht _ a1.1 a1.2, Or.inl rfl⟩
  rcases fst_spec (scP e pn tk i 0) 0 e.n with ⟨b1, b2⟩ | ⟨b1, b2, b3, b4⟩
  · exact absurd hr (b2 _ a1.1 a1.2)
  · have c1 := b3.1
    rw [hp _ b1 b2] at c1
    have c2 := (par_root hS i0 i1 b1 b2).mp c1
    have c3 := lsE_b hS b1 b2
    rcases Int.lt_or_le (rho (lsE e) e.n i) (fst (scP e pn tk i 0) 0 e.n) with y | y
    · exact absurd hr (b4 _ a1.1 y)
    · omega
theorem sc_next {e : SE} (hS : SOE e) {i : Int} (i0 : 0 ≤ i) (i1 : i < cntS e.n e.k e.fr e.to) {pn : Int → Int} {z : OZ} (hp : ∀ q, 0 ≤ q → q < e.n → pn q = parS e.n e.k e.fr e.to q) (h : OI e (rho (lsE e) e.n i) z) : fst (scP e pn z.1 i z.2.2) 0 e.n = nxT e z.1 := by
  obtain ⟨a1, a2, a3⟩ := rho_ok (A := lsE e) hS.1.1 i0 i1
  obtain ⟨⟨c1, c2⟩, h2, h3, h4, h5, h6, h7⟩ := h
  unfold nxT
  apply fst_congr
  intro r r0 r1
  have hj : z.1 r = 0 → (0 ≤ fst (jnP e.fr e.to z.1 r) 0 e.k ↔ 0 ≤ nbS e.k e.fr e.to z.1 r) := by
    intro hz
    have e1 : fst (jnP e.fr e.to z.1 r) 0 e.k = fst (nbP e.fr e.to z.1 r) 0 e.k := fst_congr (fun l _ _ => jn_nb hz l)
    rw [e1]
    unfold nbS
    rcases fst_spec (nbP e.fr e.to z.1 r) 0 e.k with ⟨b1, b2⟩ | ⟨b1, b2, b3, b4⟩
    · rw [if_pos (by omega)]; omega
    · rw [if_neg (by omega)]
      have := oth_r hS r b1 b2
      omega
  constructor
  · rintro ⟨x1, x2, x3⟩
    refine ⟨x2, (hj x2).mp ?_⟩
    rcases x3 with y | y
    · omega
    · exact y
  · rintro ⟨x2, x3⟩
    refine ⟨?_, x2, Or.inr ((hj x2).mpr x3)⟩
    obtain ⟨l, l0, l1, l2, l3⟩ := nbS_l x3
    have ho := oth_r hS r l0 l1
    obtain ⟨j, j0, j1, j2⟩ := (h4 _ ho.1 ho.2).mp l3
    have hc : conn e (rho (lsE e) e.n i) r := by
      have := h7 j j0 j1
      rw [j2] at this
      exact conn_trans this (conn_symm (conn_oth l0 l1 l2))
    rw [hp r r0 r1]
    refine (par_root hS i0 i1 r0 r1).mpr ?_
    have := (least_conn hS a1.1 a1.2 r0 r1).mp hc
    have e2 : lsE e (rho (lsE e) e.n i) = lsE e r := this
    rw [← e2, a2]
