/-! THE ORDER of a part, and what hangs together -/
noncomputable def nxT (e : SE) (tk : Int → Int) : Int := fst (fun r => tk r = 0 ∧ 0 ≤ nbS e.k e.fr e.to tk r) 0 e.n
abbrev OZ : Type := (Int → Int) × (Int → Int) × Int
noncomputable def od1 (e : SE) (z : OZ) : OZ := (fu z.1 (nxT e z.1) 1, if z.2.2 < 24 then fu z.2.1 z.2.2 (nxT e z.1) else z.2.1, if z.2.2 < 24 then z.2.2 + 1 else z.2.2)
noncomputable def ordF (e : SE) : Nat → OZ → OZ
  | 0, z => z
  | f + 1, z => if nxT e z.1 < 0 then z else ordF e f (od1 e z)
theorem ordF_end {e : SE} {f : Nat} {z : OZ} (h : nxT e z.1 < 0) : ordF e f z = z := by
  cases f with
  | zero => rfl
  | succ f => unfold ordF; rw [if_pos h]
theorem ordF_go {e : SE} {f : Nat} {z : OZ} (h : ¬ nxT e z.1 < 0) : ordF e (f + 1) z = ordF e f (od1 e z) := by
  rw [ordF]
  rw [if_neg h]
/-- spreading goes in the order -/
theorem spr_ord (e : SE) : ∀ (f : Nat) (z : SPZ), ((sprF e f z).1.ps, (sprF e f z).2.1, (sprF e f z).2.2) = ordF e f (z.1.ps, z.2.1, z.2.2) := by
  intro f
  induction f with
  | zero => intro z; rfl
  | succ f ih =>
    intro z
    have e0 : nxE e z.1 = nxT e z.1.ps := rfl
    by_cases h : nxE e z.1 < 0
    · rw [sprF_end h, ordF_end (z := (z.1.ps, z.2.1, z.2.2)) h]
    · rw [sprF_go h, ordF_go (z := (z.1.ps, z.2.1, z.2.2)) h, ih]
      rfl
def conn (e : SE) (a b : Int) : Prop := ∀ P : Int → Prop, (∀ l, 0 ≤ l → l < e.k → (P (e.fr l) ↔ P (e.to l))) → (P a ↔ P b)
theorem conn_refl (e : SE) (a : Int) : conn e a a := fun _ _ => Iff.rfl
theorem conn_symm {e : SE} {a b : Int} (h : conn e a b) : conn e b a := fun P hP => (h P hP).symm
theorem conn_trans {e : SE} {a b c : Int} (h : conn e a b) (g : conn e b c) : conn e a c := fun P hP => (h P hP).trans (g P hP)
theorem conn_link {e : SE} {l : Int} (h0 : 0 ≤ l) (h1 : l < e.k) : conn e (e.fr l) (e.to l) := fun _ hP => hP l h0 h1
theorem conn_oth {e : SE} {r l : Int} (h0 : 0 ≤ l) (h1 : l < e.k) (h : incP e.fr e.to r l) : conn e r (othE e.fr e.to r l) := by
  unfold othE
  by_cases z : e.fr l = r
  · rw [if_pos z, ← z]; exact conn_link h0 h1
  · rw [if_neg z]
    have : e.to l = r := by
      rcases h.1 with y | y
      · exact absurd y z
      · exact y
    rw [← this]
    exact conn_symm (conn_link h0 h1)
/-- what the order has at each step -/
def OI (e : SE) (root : Int) (z : OZ) : Prop := (1 ≤ z.2.2 ∧ z.2.2 = cntP e.n z.1) ∧ (∀ i, 0 ≤ i → i < z.2.2 → 0 ≤ z.2.1 i ∧ z.2.1 i < e.n) ∧ (∀ i j, 0 ≤ i → i < z.2.2 → 0 ≤ j → j < z.2.2 → z.2.1 i = z.2.1 j → i = j) ∧ (∀ q, 0 ≤ q → q < e.n → (z.1 q ≠ 0 ↔ ∃ i, 0 ≤ i ∧ i < z.2.2 ∧ z.2.1 i = q)) ∧ (∀ i, 1 ≤ i → i < z.2.2 → ∃ l, 0 ≤ l ∧ l < e.k ∧ incP e.fr e.to (z.2.1 i) l ∧ ∃ j, 0 ≤ j ∧ j < i ∧ othE e.fr e.to (z.2.1 i) l = z.2.1 j) ∧ z.2.1 0 = root ∧ (∀ i, 0 ≤ i → i < z.2.2 → conn e root (z.2.1 i))
theorem nxT_spec {e : SE} {tk : Int → Int} (h : ¬ nxT e tk < 0) : (0 ≤ nxT e tk ∧ nxT e tk < e.n) ∧ tk (nxT e tk) = 0 ∧ 0 ≤ nbS e.k e.fr e.to tk (nxT e tk) := by
  unfold nxT at *
  rcases fst_spec (fun r => tk r = 0 ∧ 0 ≤ nbS e.k e.fr e.to tk r) 0 e.n with ⟨a1, a2⟩ | ⟨a1, a2, a3, -⟩
  · omega
  · exact ⟨⟨a1, a2⟩, a3⟩
theorem nbS_l {k : Int} {fr to tk : Int → Int} {r : Int} (h : 0 ≤ nbS k fr to tk r) : ∃ l, 0 ≤ l ∧ l < k ∧ incP fr to r l ∧ tk (othE fr to r l) ≠ 0 := by
  unfold nbS at h
  rcases fst_spec (nbP fr to tk r) 0 k with ⟨a1, a2⟩ | ⟨a1, a2, a3, -⟩
  · rw [if_pos (by omega)] at h; omega
  · exact ⟨_, a1, a2, a3.1, a3.2⟩
theorem OI_step {e : SE} {root : Int} {z : OZ} (hS : SOE e) (h : OI e root z) (hn : ¬ nxT e z.1 < 0) : OI e root (od1 e z) := by
  obtain ⟨⟨c1, c2⟩, h2, h3, h4, h5, h6, h7⟩ := h
  obtain ⟨q1, q2, q3⟩ := nxT_spec hn
  obtain ⟨l, l0, l1, l2, l3⟩ := nbS_l q3
  have ho := oth_r hS (nxT e z.1) l0 l1
  obtain ⟨j, j0, j1, j2⟩ := (h4 _ ho.1 ho.2).mp l3
  have hcp := cntP_put (ps := z.1) q1.1 q1.2 q2
  have hcr := cntP_r hS.1.1 (fu z.1 (nxT e z.1) 1)
  have hn24 := hS.1.2.1
  have hc24 : z.2.2 < 24 := by omega
  have hnew : ∀ i, 0 ≤ i → i < z.2.2 → z.2.1 i ≠ nxT e z.1 := fun i i0 i1 y => by
    have := (h4 _ q1.1 q1.2).mpr ⟨i, i0, i1, y⟩
    exact this q2
  have hcn : conn e root (nxT e z.1) := by
    have a1 := h7 j j0 j1
    rw [j2] at a1
    exact conn_trans a1 (conn_symm (conn_oth l0 l1 l2))
  unfold od1
  rw [if_pos hc24, if_pos hc24]
  generalize nxT e z.1 = q at *
  have ob : ∀ i, i < z.2.2 → fu z.2.1 z.2.2 q i = z.2.1 i := fun i hi => fu_ne (by omega)
  have oc : fu z.2.1 z.2.2 q z.2.2 = q := fu_at _ _ _
  refine ⟨⟨?_, ?_⟩, ?_, ?_, ?_, ?_, ?_, ?_⟩
  · show 1 ≤ z.2.2 + 1; omega
  · show z.2.2 + 1 = cntP e.n (fu z.1 q 1); omega
  · intro i i0 i1
    show 0 ≤ fu z.2.1 z.2.2 q i ∧ fu z.2.1 z.2.2 q i < e.n
    rcases (show i < z.2.2 ∨ i = z.2.2 by have : i < z.2.2 + 1 := i1; omega) with y | y
    · rw [ob i y]; exact h2 i i0 y
    · rw [y, oc]; exact q1
  · intro i i' i0 i1 i0' i1' he
    have k1 : i < z.2.2 + 1 := i1
    have k2 : i' < z.2.2 + 1 := i1'
    have he' : fu z.2.1 z.2.2 q i = fu z.2.1 z.2.2 q i' := he
    rcases (show i < z.2.2 ∨ i = z.2.2 by omega) with y | y <;> rcases (show i' < z.2.2 ∨ i' = z.2.2 by omega) with y' | y'
    · rw [ob i y, ob i' y'] at he'; exact h3 i i' i0 y i0' y' he'
    · rw [ob i y, y', oc] at he'; exact absurd he' (hnew i i0 y)
    · rw [ob i' y', y, oc] at he'; exact absurd he'.symm (hnew i' i0' y')
    · omega
  · intro r r0 r1
    show fu z.1 q 1 r ≠ 0 ↔ ∃ i, 0 ≤ i ∧ i < z.2.2 + 1 ∧ fu z.2.1 z.2.2 q i = r
    by_cases y : r = q
    · rw [y, fu_at]
      exact ⟨fun _ => ⟨z.2.2, by omega, by omega, oc⟩, fun _ => by decide⟩
    · rw [fu_ne y, h4 r r0 r1]
      constructor
      · rintro ⟨i, i0, i1, i2⟩; exact ⟨i, i0, by omega, by rw [ob i i1]; exact i2⟩
      · rintro ⟨i, i0, i1, i2⟩
        rcases (show i < z.2.2 ∨ i = z.2.2 by omega) with w | w
        · exact ⟨i, i0, w, by rw [← ob i w]; exact i2⟩
        · rw [w, oc] at i2; exact absurd i2.symm y
  · intro i i1 i2
    have k1 : i < z.2.2 + 1 := i2
    rcases (show i < z.2.2 ∨ i = z.2.2 by omega) with y | y
    · obtain ⟨l', a1, a2, a3, j', a4, a5, a6⟩ := h5 i i1 y
      refine ⟨l', a1, a2, ?_, j', a4, a5, ?_⟩
      · show incP e.fr e.to (fu z.2.1 z.2.2 q i) l'
        rw [ob i y]; exact a3
      · show othE e.fr e.to (fu z.2.1 z.2.2 q i) l' = fu z.2.1 z.2.2 q j'
        rw [ob i y, ob j' (by omega)]; exact a6
    · refine ⟨l, l0, l1, ?_, j, j0, by omega, ?_⟩
      · show incP e.fr e.to (fu z.2.1 z.2.2 q i) l
        rw [y, oc]; exact l2
      · show othE e.fr e.to (fu z.2.1 z.2.2 q i) l = fu z.2.1 z.2.2 q j
        rw [y, oc, ob j j1]; exact j2.symm
  · show fu z.2.1 z.2.2 q 0 = root
    rw [ob 0 (by omega)]; exact h6
  · intro i i0 i1
    have k1 : i < z.2.2 + 1 := i1
    show conn e root (fu z.2.1 z.2.2 q i)
    rcases (show i < z.2.2 ∨ i = z.2.2 by omega) with y | y
    · rw [ob i y]; exact h7 i i0 y
    · rw [y, oc]; exact hcn
/-- with enough steps the order is whole -/
theorem OI_all {e : SE} {root : Int} (hS : SOE e) : ∀ (f : Nat) (z : OZ), OI e root z → e.n ≤ z.2.2 + f → OI e root (ordF e f z) ∧ nxT e (ordF e f z).1 < 0 := by
  intro f
  induction f with
  | zero =>
    intro z h hf
    refine ⟨h, ?_⟩
    show nxT e z.1 < 0
    by_cases hn : nxT e z.1 < 0
    · exact hn
    · exfalso
      have h' := OI_step hS h hn
      have a1 := h.1.2
      obtain ⟨q1, q2, -⟩ := nxT_spec hn
      have hcp := cntP_put (ps := z.1) q1.1 q1.2 q2
      have hcr := cntP_r hS.1.1 (fu z.1 (nxT e z.1) 1)
      omega
  | succ f ih =>
    intro z h hf
    by_cases hn : nxT e z.1 < 0
    · rw [ordF_end hn]; exact ⟨h, hn⟩
    · rw [ordF_go hn]
      refine ih _ (OI_step hS h hn) ?_
      have a1 := h.1.2
      obtain ⟨q1, q2, -⟩ := nxT_spec hn
      have hcp := cntP_put (ps := z.1) q1.1 q1.2 q2
      have hcr := cntP_r hS.1.1 (fu z.1 (nxT e z.1) 1)
      have hn24 := hS.1.2.1
      unfold od1
      rw [if_pos (by omega)]
      show e.n ≤ (if z.2.2 < 24 then z.2.2 + 1 else z.2.2) + f
      rw [if_pos (by omega)]
      omega
theorem sat_conn {e : SE} {root : Int} {z : OZ} (hS : SOE e) (h : OI e root z) (hn : nxT e z.1 < 0) (q : Int) (q0 : 0 ≤ q) (q1 : q < e.n) : z.1 q ≠ 0 ↔ conn e root q := by
  obtain ⟨⟨c1, c2⟩, h2, h3, h4, h5, h6, h7⟩ := h
  have hno : ∀ r, 0 ≤ r → r < e.n → z.1 r = 0 → ∀ l, 0 ≤ l → l < e.k → incP e.fr e.to r l → z.1 (othE e.fr e.to r l) = 0 := by
    intro r r0 r1 hr l l0 l1 hl
    by_cases y : z.1 (othE e.fr e.to r l) = 0
    · exact y
    · exfalso
      unfold nxT at hn
      rw [fst_lo (Int.le_refl _)] at hn
      refine hn r r0 r1 ⟨hr, ?_⟩
      unfold nbS
      rcases fst_spec (nbP e.fr e.to z.1 r) 0 e.k with ⟨a1, a2⟩ | ⟨a1, a2, a3, -⟩
      · exact absurd ⟨hl, y⟩ (a2 l l0 l1)
      · rw [if_neg (by omega)]; exact (oth_r hS r a1 a2).1
  constructor
  · intro y
    obtain ⟨i, i0, i1, i2⟩ := (h4 q q0 q1).mp y
    rw [← i2]
    exact h7 i i0 i1
  · intro hc
    have hroot : 0 ≤ root ∧ root < e.n := by rw [← h6]; exact h2 0 (by omega) (by omega)
    have hP : ∀ l, 0 ≤ l → l < e.k → ((fun r => z.1 r ≠ 0) (e.fr l) ↔ (fun r => z.1 r ≠ 0) (e.to l)) := by
      intro l l0 l1
      obtain ⟨hf, ht, -⟩ := hS.2 l l0 l1
      by_cases y : e.fr l = e.to l
      · rw [y]
      · constructor
        · intro a b
          have := hno (e.to l) ht.1 ht.2 b l l0 l1 ⟨Or.inr rfl, y⟩
          unfold othE at this
          rw [if_neg y] at this
          exact a this
        · intro a b
          have := hno (e.fr l) hf.1 hf.2 b l l0 l1 ⟨Or.inl rfl, y⟩
          unfold othE at this
          rw [if_pos rfl] at this
          exact a this
    exact ((hc (fun r => z.1 r ≠ 0) hP).mp ((h4 root hroot.1 hroot.2).mpr ⟨0, by omega, by omega, h6⟩))
