/-! BY FIRST CHANCES along an order: the words -/
noncomputable def bf1 (e : SE) (o : Int → Int) (i : Int) (p : PF) : PF := putF p (o i) (fXE e p (o i)) (fYE e p (o i)) (fLE e p (o i))
theorem OI_c {e : SE} {root : Int} {z : OZ} (hS : SOE e) (h : OI e root z) (hn : ¬ nxT e z.1 < 0) : z.2.2 < 24 := by
  obtain ⟨q1, q2, -⟩ := nxT_spec hn
  have hcp := cntP_put (ps := z.1) q1.1 q1.2 q2
  have hcr := cntP_r hS.1.1 (fu z.1 (nxT e z.1) 1)
  have hn24 := hS.1.2.1
  have := h.1.2
  omega
/-- spreading is placing by first chances along its own order -/
theorem spr_bf {e : SE} (hS : SOE e) {root : Int} : ∀ (f : Nat) (z : SPZ), OI e root (z.1.ps, z.2.1, z.2.2) → (sprF e f z).1 = itr (bf1 e (sprF e f z).2.1) z.2.2 (sprF e f z).2.2 z.1 ∧ (∀ i, i < z.2.2 → (sprF e f z).2.1 i = z.2.1 i) ∧ z.2.2 ≤ (sprF e f z).2.2 := by
  intro f
  induction f with
  | zero =>
    intro z h
    refine ⟨?_, fun _ _ => rfl, Int.le_refl _⟩
    show z.1 = itr (bf1 e z.2.1) z.2.2 z.2.2 z.1
    rw [itr_ge (Int.le_refl _)]
  | succ f ih =>
    intro z h
    by_cases y : nxE e z.1 < 0
    · rw [sprF_end y]
      refine ⟨?_, fun _ _ => rfl, Int.le_refl _⟩
      rw [itr_ge (Int.le_refl _)]
    · have hc := OI_c (z := (z.1.ps, z.2.1, z.2.2)) hS h y
      have hc' : z.2.2 < 24 := hc
      have h1 := OI_step (z := (z.1.ps, z.2.1, z.2.2)) hS h y
      have e1 : ((sp1 e z).1.ps, (sp1 e z).2.1, (sp1 e z).2.2) = od1 e (z.1.ps, z.2.1, z.2.2) := rfl
      rw [← e1] at h1
      obtain ⟨a1, a2, a3⟩ := ih (sp1 e z) h1
      have s2 : (sp1 e z).2.2 = z.2.2 + 1 := by
        show (if z.2.2 < 24 then z.2.2 + 1 else z.2.2) = z.2.2 + 1
        rw [if_pos hc']
      have s1 : (sp1 e z).2.1 = fu z.2.1 z.2.2 (nxE e z.1) := by
        show (if z.2.2 < 24 then fu z.2.1 z.2.2 (nxE e z.1) else z.2.1) = _
        rw [if_pos hc']
      rw [sprF_go y]
      rw [s2] at a1 a2 a3
      rw [s1] at a2
      have hz : (sprF e f (sp1 e z)).2.1 z.2.2 = nxE e z.1 := by rw [a2 z.2.2 (by omega), fu_at]
      refine ⟨?_, fun i hi => ?_, by omega⟩
      · rw [itr_lt (l := z.2.2) (by omega)]
        have e2 : bf1 e (sprF e f (sp1 e z)).2.1 z.2.2 z.1 = (sp1 e z).1 := by
          unfold bf1
          rw [hz]
          rfl
        rw [e2]
        exact a1
      · rw [a2 i (by omega), fu_ne (by omega)]
/-- the first placing of a part, along its order -/
theorem fP_bf {e : SE} (hS : SOE e) {r : Int} (r0 : 0 ≤ r) (r1 : r < e.n) : fP e r = itr (bf1 e (oz e r).2.1) 1 (oz e r).2.2 (putF p00 r 0 0 0) := by
  have h0 : OI e r ((putF p00 r 0 0 0).ps, fu (fun _ => 0) 0 r, 1) := OI_start hS r0 r1 (tk := fun _ => 0) (o := fun _ => 0) (fun _ _ _ => rfl)
  obtain ⟨a1, -, -⟩ := spr_bf hS 24 (putF p00 r 0 0 0, fu (fun _ => 0) 0 r, 1) h0
  have e1 := spr_ord e 24 (putF p00 r 0 0 0, fu (fun _ => 0) 0 r, 1)
  have e2 : ordF e 24 ((putF p00 r 0 0 0).ps, fu (fun _ => 0) 0 r, 1) = oz e r := rfl
  rw [e2] at e1
  have e3 : (sprF e 24 (putF p00 r 0 0 0, fu (fun _ => 0) 0 r, 1)).2.1 = (oz e r).2.1 := by rw [← e1]
  have e4 : (sprF e 24 (putF p00 r 0 0 0, fu (fun _ => 0) 0 r, 1)).2.2 = (oz e r).2.2 := by rw [← e1]
  rw [e3, e4] at a1
  exact a1
/-- only placed rooms tell, along an order too -/
theorem bf_congr {e : SE} (hE : EOK e) {p q : PF} {a : Int} (a0 : 1 ≤ a) (a1 : a < e.cnt) (hA : AG e.n p q) (hP : PLC e a p) : AG e.n (bf1 e e.ord a p) (bf1 e e.ord a q) ∧ PLC e (a + 1) (bf1 e e.ord a p) := by
  obtain ⟨c1, c2, c3⟩ := AG_fc hE.sok hA (PLC_nb hE a0 a1 hP)
  unfold bf1
  rw [← c1, ← c2, ← c3]
  exact ⟨AG_put hA _ _ _ _, PLC_put (by omega) hP _ _ _⟩
