/-! STANDING BY a chance: what it does to the placing -/
def eM (t : Sto) (lim : Int) : SE := (t 2184 0, t 2188 0, t 35, t 36, t 37, t 38, t 50, t 2210 0, lim)
def pM (t : Sto) : PF := (t 46, t 47, t 48, t 49)
def keptM (w : Nat) : Prop := w ≠ 46 ∧ w ≠ 47 ∧ w ≠ 48 ∧ w ≠ 49 ∧ w ≠ 2207 ∧ w ≠ 2208 ∧ w ≠ 2209
theorem standM_ne (t : Sto) (r x y l : Int) {w : Nat} (h : w ≠ 46 ∧ w ≠ 47 ∧ w ≠ 48 ∧ w ≠ 49) : standM t r x y l w = t w := by
  unfold standM
  rw [su_ne h.2.2.2, su_ne h.2.2.1, su_ne h.2.1, su_ne h.1]
theorem standM_p (t : Sto) (r x y l : Int) : pM (standM t r x y l) = putF (pM t) r x y l := by
  have q46 : standM t r x y l 46 = fu (t 46) r 1 := by
    unfold standM
    rw [su_ne (by decide), su_ne (by decide), su_ne (by decide), su_row, sv_at]
  have q47 : standM t r x y l 47 = fu (t 47) r x := by
    unfold standM
    rw [su_ne (by decide), su_ne (by decide), su_row, sv_at, su_ne (by decide)]
  have q48 : standM t r x y l 48 = fu (t 48) r y := by
    unfold standM
    rw [su_ne (by decide), su_row, sv_at, su_ne (by decide), su_ne (by decide)]
  have q49 : standM t r x y l 49 = fu (t 49) r l := by
    unfold standM
    rw [su_row, sv_at, su_ne (by decide), su_ne (by decide), su_ne (by decide)]
  unfold pM
  rw [q46, q47, q48, q49]
  rfl
theorem cM3_p (t : Sto) (x y l : Int) : pM (cM3 t x y l) = pM t := by
  unfold pM
  rw [cM3_ne t _ _ _ (by decide), cM3_ne t _ _ _ (by decide), cM3_ne t _ _ _ (by decide), cM3_ne t _ _ _ (by decide)]
/-- where the j-th chance stands, or the spare place -/
noncomputable def sXJ (e : SE) (p : PF) (r j : Int) : Int := if 0 ≤ nth (cdE e p r) 0 (3 * e.k) j then cXE e p r (nth (cdE e p r) 0 (3 * e.k) j) else sXE e p r
noncomputable def sYJ (e : SE) (p : PF) (r j : Int) : Int := if 0 ≤ nth (cdE e p r) 0 (3 * e.k) j then cYE e p r (nth (cdE e p r) 0 (3 * e.k) j) else sYE e p r
noncomputable def sLJ (e : SE) (p : PF) (r j : Int) : Int := if 0 ≤ nth (cdE e p r) 0 (3 * e.k) j then cLE e p r (nth (cdE e p r) 0 (3 * e.k) j) else sLE e p r
def EM (e : SE) (t : Sto) : Prop := t 2184 0 = e.n ∧ t 2188 0 = e.k ∧ t 35 = e.fr ∧ t 36 = e.di ∧ t 37 = e.to ∧ t 38 = e.bo
theorem EM_SM {e : SE} {t : Sto} (hS : SOE e) (h : EM e t) : SM t := by
  obtain ⟨h1, h2, h3, h4, h5, h6⟩ := h
  unfold SM
  rw [h1, h2, h3, h4, h5, h6]
  exact hS
theorem EM_nth {e : SE} {t : Sto} (h : EM e t) (r j : Int) : nth (cdM t r) 0 (3 * t 2188 0) j = nth (cdE e (pM t) r) 0 (3 * e.k) j := by
  obtain ⟨h1, h2, h3, h4, h5, h6⟩ := h
  unfold cdM
  rw [h1, h2, h3, h4, h5]
  rfl
theorem sb_ok {e : SE} {t : Sto} (h : EM e t) (r j : Int) (hj : ¬ (nth (cdE e (pM t) r) 0 (3 * e.k) j < 0 ∧ 0 < j)) : pM (sbT t r j) = putF (pM t) r (sXJ e (pM t) r j) (sYJ e (pM t) r j) (sLJ e (pM t) r j) ∧ (∀ w, keptM w → sbT t r j w = t w) := by
  have e0 := EM_nth h r j
  have ex : sbX t r j = sXJ e (pM t) r j := by
    unfold sbX sXJ
    rw [e0]
    obtain ⟨h1, h2, h3, h4, h5, h6⟩ := h
    rw [h1, h2, h3, h4, h5]
    rfl
  have ey : sbY t r j = sYJ e (pM t) r j := by
    unfold sbY sYJ
    rw [e0]
    obtain ⟨h1, h2, h3, h4, h5, h6⟩ := h
    rw [h1, h2, h3, h4, h5]
    rfl
  have el : sbL t r j = sLJ e (pM t) r j := by
    unfold sbL sLJ
    rw [e0]
    obtain ⟨h1, h2, h3, h4, h5, h6⟩ := h
    rw [h2, h3, h4, h5]
    rfl
  unfold sbT
  rw [e0, if_neg hj, ex, ey, el]
  refine ⟨?_, fun w hw => ?_⟩
  · rw [standM_p, cM3_p]
  · rw [standM_ne _ _ _ _ _ ⟨hw.1, hw.2.1, hw.2.2.1, hw.2.2.2.1⟩, cM3_ne _ _ _ _ ⟨hw.2.2.2.2.1, hw.2.2.2.2.2.1, hw.2.2.2.2.2.2⟩]
/-- the first of the chances, or the spare place, is the first chance -/
theorem sJ_0 {e : SE} (hS : SOE e) (p : PF) (r : Int) : sXJ e p r 0 = fXE e p r ∧ sYJ e p r 0 = fYE e p r ∧ sLJ e p r 0 = fLE e p r := by
  have e0 : nth (cdE e p r) 0 (3 * e.k) 0 = fmE e p r := nth_0 0 (by have := hS.1; omega)
  unfold sXJ sYJ sLJ
  rw [e0]
  exact ⟨rfl, rfl, rfl⟩
