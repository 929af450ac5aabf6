/-! GROWING: the words -/
noncomputable def unE (e : SE) (p : PF) : Int := fst (fun r => p.ps r = 0) 0 e.n
noncomputable def eaE (e : SE) (p : PF) : Int := if cntP e.n p.ps = 0 then 0 else higS e.n p.ps p.xs + 2
noncomputable def gr1 (e : SE) (p : PF) : PF := if nxE e p < 0 then putF p (unE e p) (eaE e p) 0 0 else putF p (nxE e p) (fXE e p (nxE e p)) (fYE e p (nxE e p)) (fLE e p (nxE e p))
noncomputable def grN (e : SE) : Nat → PF → PF
  | 0, p => p
  | f + 1, p => grN e f (gr1 e p)
noncomputable def GR (e : SE) (p : PF) : PF := grN e (e.n - cntP e.n p.ps).toNat p
theorem sumI_1 {k : Int} : ∀ l, l ≤ k → sumI (fun _ => 1) l k = k - l := by
  refine up_ind (fun l hl ih => ?_)
  rcases Int.lt_or_le l k with h | h
  · rw [sumI_lt h, ih h]; omega
  · rw [sumI_ge h]; omega
theorem cnt_full {n : Int} {ps : Int → Int} (hn : 0 ≤ n) (h : ∀ r, 0 ≤ r → r < n → ps r ≠ 0) : cntP n ps = n := by
  unfold cntP
  rw [sumI_congr (c' := fun _ => 1) (fun j j0 j1 => by unfold cpl; rw [if_pos (h j j0 j1)]) 0 hn (Int.le_refl _), sumI_1 0 hn]
  omega
theorem un_spec {e : SE} {p : PF} (h : ¬ unE e p < 0) : (0 ≤ unE e p ∧ unE e p < e.n) ∧ p.ps (unE e p) = 0 := by
  unfold unE at *
  rcases fst_spec (fun r => p.ps r = 0) 0 e.n with ⟨a1, a2⟩ | ⟨a1, a2, a3, -⟩
  · omega
  · exact ⟨⟨a1, a2⟩, a3⟩
theorem un_all {e : SE} {p : PF} (h : unE e p < 0) : ∀ r, 0 ≤ r → r < e.n → p.ps r ≠ 0 := by
  unfold unE at h
  rw [fst_lo (Int.le_refl _)] at h
  exact h
theorem un_nx {e : SE} {p : PF} (h : ¬ nxE e p < 0) : ¬ unE e p < 0 := fun z => by
  obtain ⟨a, b, -⟩ := nx_spec h
  exact un_all z _ a.1 a.2 b
/-- the room that comes next -/
noncomputable def rmE (e : SE) (p : PF) : Int := if nxE e p < 0 then unE e p else nxE e p
theorem rm_spec {e : SE} {p : PF} (h : ¬ unE e p < 0) : (0 ≤ rmE e p ∧ rmE e p < e.n) ∧ p.ps (rmE e p) = 0 := by
  unfold rmE
  by_cases y : nxE e p < 0
  · rw [if_pos y]; exact un_spec h
  · rw [if_neg y]; obtain ⟨a, b, -⟩ := nx_spec y; exact ⟨a, b⟩
theorem gr1_ps (e : SE) (p : PF) : (gr1 e p).ps = fu p.ps (rmE e p) 1 := by
  unfold gr1 rmE
  by_cases y : nxE e p < 0
  · rw [if_pos y, if_pos y]; rfl
  · rw [if_neg y, if_neg y]; rfl
theorem GR_end {e : SE} (hS : SOE e) {p : PF} (h : unE e p < 0) : GR e p = p := by
  unfold GR
  rw [cnt_full hS.1.1 (un_all h), show (e.n - e.n).toNat = 0 by omega]
  rfl
theorem gr1_cnt {e : SE} {p : PF} (h : ¬ unE e p < 0) : cntP e.n (gr1 e p).ps = cntP e.n p.ps + 1 := by
  obtain ⟨a, b⟩ := rm_spec h
  rw [gr1_ps]
  exact cntP_put a.1 a.2 b
theorem GR_go {e : SE} (hS : SOE e) {p : PF} (h : ¬ unE e p < 0) : GR e p = GR e (gr1 e p) := by
  have h1 := gr1_cnt h
  have h2 := cntP_r hS.1.1 (gr1 e p).ps
  unfold GR
  rw [h1, show (e.n - cntP e.n p.ps).toNat = (e.n - (cntP e.n p.ps + 1)).toNat + 1 by omega]
  rfl
/-- what holds of every step holds at the end -/
theorem GR_ind {e : SE} (hS : SOE e) {R : PF → Prop} (hs : ∀ p, ¬ unE e p < 0 → R p → R (gr1 e p)) : ∀ p, R p → R (GR e p) := by
  have h : ∀ (f : Nat) (p : PF), e.n - cntP e.n p.ps = (f : Int) → R p → R (GR e p) := by
    intro f
    induction f with
    | zero =>
      intro p hf hp
      unfold GR
      rw [show (e.n - cntP e.n p.ps).toNat = 0 by omega]
      exact hp
    | succ f ih =>
      intro p hf hp
      by_cases y : unE e p < 0
      · rw [GR_end hS y]; exact hp
      · rw [GR_go hS y]
        have := gr1_cnt y
        exact ih _ (by omega) (hs p y hp)
  intro p hp
  have := cntP_r hS.1.1 p.ps
  exact h (e.n - cntP e.n p.ps).toNat p (by omega) hp
theorem GR_ps {e : SE} (hS : SOE e) (p : PF) : (∀ r, (GR e p).ps r = p.ps r ∨ ((GR e p).ps r = 1 ∧ 0 ≤ r ∧ r < e.n)) ∧ (∀ r, 0 ≤ r → r < e.n → (GR e p).ps r ≠ 0) := by
  constructor
  · refine GR_ind hS (R := fun q => ∀ r, q.ps r = p.ps r ∨ (q.ps r = 1 ∧ 0 ≤ r ∧ r < e.n)) (fun q hq hR r => ?_) p (fun r => Or.inl rfl)
    obtain ⟨a, b⟩ := rm_spec hq
    rw [gr1_ps]
    by_cases y : r = rmE e q
    · rw [y, fu_at]; exact Or.inr ⟨rfl, a.1, a.2⟩
    · rw [fu_ne y]; exact hR r
  · have h : ∀ (f : Nat) (p : PF), e.n - cntP e.n p.ps = (f : Int) → ∀ r, 0 ≤ r → r < e.n → (GR e p).ps r ≠ 0 := by
      intro f
      induction f with
      | zero =>
        intro p hf
        by_cases y : unE e p < 0
        · rw [GR_end hS y]; exact un_all y
        · exfalso
          have h1 := gr1_cnt y
          have h2 := cntP_r hS.1.1 (gr1 e p).ps
          omega
      | succ f ih =>
        intro p hf
        by_cases y : unE e p < 0
        · rw [GR_end hS y]; exact un_all y
        · rw [GR_go hS y]
          have := gr1_cnt y
          exact ih _ (by omega)
    have := cntP_r hS.1.1 p.ps
    exact h (e.n - cntP e.n p.ps).toNat p (by omega)
theorem sp1_gr {e : SE} {z : SPZ} (h : ¬ nxE e z.1 < 0) : (sp1 e z).1 = gr1 e z.1 := by
  unfold sp1 gr1
  rw [if_neg h]
theorem GR_spr {e : SE} (hS : SOE e) : ∀ (f : Nat) (z : SPZ), GR e (sprF e f z).1 = GR e z.1 := by
  intro f
  induction f with
  | zero => intro z; rfl
  | succ f ih =>
    intro z
    by_cases y : nxE e z.1 < 0
    · rw [sprF_end y]
    · rw [sprF_go y, ih, sp1_gr y, ← GR_go hS (un_nx y)]
theorem spr_sat {e : SE} (hS : SOE e) : ∀ (f : Nat) (z : SPZ), e.n - cntP e.n z.1.ps ≤ (f : Int) → nxE e (sprF e f z).1 < 0 := by
  intro f
  induction f with
  | zero =>
    intro z hf
    by_cases y : nxE e z.1 < 0
    · exact y
    · exfalso
      have h1 := gr1_cnt (un_nx y)
      have h2 := cntP_r hS.1.1 (gr1 e z.1).ps
      omega
  | succ f ih =>
    intro z hf
    by_cases y : nxE e z.1 < 0
    · rw [sprF_end y]; exact y
    · rw [sprF_go y]
      apply ih
      have h1 := gr1_cnt (un_nx y)
      rw [sp1_gr y]
      omega
/-- placed rooms stay placed in a spreading -/
theorem spr_ps {e : SE} : ∀ (f : Nat) (z : SPZ) (r : Int), z.1.ps r ≠ 0 → (sprF e f z).1.ps r ≠ 0 := by
  intro f
  induction f with
  | zero => intro z r h; exact h
  | succ f ih =>
    intro z r h
    by_cases y : nxE e z.1 < 0
    · rw [sprF_end y]; exact h
    · rw [sprF_go y]
      apply ih
      rw [sp1_gr y, gr1_ps]
      by_cases w : r = rmE e z.1
      · rw [w, fu_at]; decide
      · rw [fu_ne w]; exact h
theorem AG_hig {e : SE} (hn : 0 ≤ e.n) {p q : PF} (h : AG e.n p q) : itr (higStep p.ps p.xs) 0 e.n (0, 0) = itr (higStep q.ps q.xs) 0 e.n (0, 0) := by
  refine itr_rel (R := fun u v => u = v) (l0 := 0) (fun r u v r0 r1 huv => ?_) 0 hn _ _ (Int.le_refl _) rfl
  subst huv
  obtain ⟨a, b⟩ := h r r0 r1
  unfold higStep
  by_cases y : p.ps r ≠ 0
  · have y' : q.ps r ≠ 0 := by rw [← a]; exact y
    rw [if_pos y, if_pos y', (b y).1]
  · have y' : ¬ q.ps r ≠ 0 := by rw [← a]; exact y
    rw [if_neg y, if_neg y']
theorem AG_cnt {e : SE} (hn : 0 ≤ e.n) {p q : PF} (h : AG e.n p q) : cntP e.n p.ps = cntP e.n q.ps := by
  unfold cntP
  exact sumI_congr (fun j j0 j1 => by unfold cpl; rw [(h j j0 j1).1]) 0 hn (Int.le_refl _)
theorem AG_ea {e : SE} (hn : 0 ≤ e.n) {p q : PF} (h : AG e.n p q) : eaE e p = eaE e q := by
  unfold eaE higS
  rw [AG_cnt hn h, AG_hig hn h]
theorem AG_un {e : SE} {p q : PF} (h : AG e.n p q) : unE e p = unE e q := by
  unfold unE
  apply fst_congr
  intro r r0 r1
  rw [(h r r0 r1).1]
theorem AG_rmE {e : SE} (hS : SOE e) {p q : PF} (h : AG e.n p q) : rmE e p = rmE e q := by
  unfold rmE
  rw [AG_nx hS h, AG_un h]
/-- where the next room comes -/
noncomputable def gxE (e : SE) (p : PF) : Int := if nxE e p < 0 then eaE e p else fXE e p (nxE e p)
noncomputable def gyE (e : SE) (p : PF) : Int := if nxE e p < 0 then 0 else fYE e p (nxE e p)
noncomputable def glE (e : SE) (p : PF) : Int := if nxE e p < 0 then 0 else fLE e p (nxE e p)
theorem gr1_eq (e : SE) (p : PF) : gr1 e p = putF p (rmE e p) (gxE e p) (gyE e p) (glE e p) := by
  unfold gr1 rmE gxE gyE glE
  by_cases y : nxE e p < 0
  · rw [if_pos y, if_pos y, if_pos y, if_pos y, if_pos y]
  · rw [if_neg y, if_neg y, if_neg y, if_neg y, if_neg y]
theorem AG_g {e : SE} (hS : SOE e) {p q : PF} (h : AG e.n p q) : gxE e p = gxE e q ∧ gyE e p = gyE e q ∧ glE e p = glE e q := by
  unfold gxE gyE glE
  rw [← AG_nx hS h, ← AG_ea hS.1.1 h]
  by_cases y : nxE e p < 0
  · rw [if_pos y, if_pos y, if_pos y, if_pos y, if_pos y, if_pos y]; exact ⟨rfl, rfl, rfl⟩
  · rw [if_neg y, if_neg y, if_neg y, if_neg y, if_neg y, if_neg y]
    obtain ⟨-, -, hnb⟩ := nx_spec y
    exact AG_fc hS h hnb
theorem hig_p {n B : Int} {ps f : Int → Int} (hn : 0 ≤ n) (hB : 0 ≤ B) (hf : ∀ j, 0 ≤ j → j < n → ps j ≠ 0 → -B ≤ f j ∧ f j ≤ B) : -B ≤ higS n ps f ∧ higS n ps f ≤ B := by
  unfold higS
  refine itr_inv (F := higStep ps f) (k := n) (P := fun q : Int × Int => -B ≤ q.2 ∧ q.2 ≤ B) (l0 := 0) (fun l a h0 h1 hP => ?_) 0 hn (0, 0) (Int.le_refl _) (by simp only; omega)
  unfold higStep
  by_cases y : ps l ≠ 0
  · rw [if_pos y]
    have := hf l h0 h1 y
    show -B ≤ (if a.1 = 0 ∨ a.2 < f l then f l else a.2) ∧ (if a.1 = 0 ∨ a.2 < f l then f l else a.2) ≤ B
    split
    · exact this
    · exact hP
  · rw [if_neg y]; exact hP
theorem hig_1 {n : Int} {ps f : Int → Int} : ∀ l, l ≤ n → ∀ q : Int × Int, 0 ≤ l → ((itr (higStep ps f) l n q).1 = 0 ↔ q.1 = 0 ∧ sumI (cpl ps) l n = 0) := by
  refine up_ind (fun l hl ih q h0 => ?_)
  rcases Int.lt_or_le l n with h | h
  · rw [itr_lt h, sumI_lt h, ih h _ (by omega)]
    have hr := sumI_r (c := cpl ps) (k := n) (B := 1) (fun j _ _ => cpl_r ps j) (l + 1) h (by omega)
    unfold higStep cpl
    by_cases y : ps l ≠ 0
    · rw [if_pos y, if_pos y]
      constructor
      · rintro ⟨a, -⟩; exact absurd (show (1 : Int) = 0 from a) (by decide)
      · rintro ⟨-, b⟩
        have e1 : sumI (fun r => if ps r ≠ 0 then (1 : Int) else 0) (l + 1) n = sumI (cpl ps) (l + 1) n := rfl
        omega
    · rw [if_neg y, if_neg y, Int.zero_add]
  · rw [itr_ge h, sumI_ge h]
    exact ⟨fun z => ⟨z, rfl⟩, fun z => z.1⟩
theorem hig_0 {n : Int} (hn : 0 ≤ n) (ps f : Int → Int) : (itr (higStep ps f) 0 n (0, 0)).1 = 0 ↔ cntP n ps = 0 := by
  rw [hig_1 0 hn (0, 0) (Int.le_refl _)]
  exact ⟨fun z => z.2, fun z => ⟨rfl, z⟩⟩
theorem g_b {e : SE} {p : PF} {B : Int} (hS : SOE e) (hB0 : 0 ≤ B) (hB : BP e.n B p) : (-(B + 24) ≤ gxE e p ∧ gxE e p ≤ B + 24) ∧ (-(B + 24) ≤ gyE e p ∧ gyE e p ≤ B + 24) ∧ (-(B + 24) ≤ glE e p ∧ glE e p ≤ B + 24) := by
  unfold gxE gyE glE
  by_cases y : nxE e p < 0
  · rw [if_pos y, if_pos y, if_pos y]
    have := hig_p (n := e.n) (B := B) (ps := p.ps) (f := p.xs) hS.1.1 hB0 (fun j j0 j1 j2 => (hB j j0 j1 j2).1)
    unfold eaE
    refine ⟨?_, by omega, by omega⟩
    split <;> omega
  · rw [if_neg y, if_neg y, if_neg y]
    obtain ⟨-, -, hnb⟩ := nx_spec y
    exact fc_b hS hB hnb
