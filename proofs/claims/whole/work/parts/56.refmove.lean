/-! MOVING A PART: the reference -/
noncomputable def mpS (t : Sto) (i dx ly : Int) : Sto := sv (sv (sv (sv t 39 (onR i (t 50) (fun _ => 1) (t 39))) 40 (onR i (t 50) (fun q => t 53 q + dx) (t 40))) 41 (onR i (t 50) (fun q => t 54 q - ly) (t 41))) 42 (onR i (t 50) (t 55) (t 42))
theorem mpS_ne (t : Sto) (i dx ly : Int) {w : Nat} (h : w ≠ 39 ∧ w ≠ 40 ∧ w ≠ 41 ∧ w ≠ 42) : mpS t i dx ly w = t w := by
  unfold mpS
  rw [sv_ne h.2.2.2, sv_ne h.2.2.1, sv_ne h.2.1, sv_ne h.1]
theorem mpS_at (t : Sto) (i dx ly : Int) : mpS t i dx ly 39 = onR i (t 50) (fun _ => 1) (t 39) ∧ mpS t i dx ly 40 = onR i (t 50) (fun q => t 53 q + dx) (t 40) ∧ mpS t i dx ly 41 = onR i (t 50) (fun q => t 54 q - ly) (t 41) ∧ mpS t i dx ly 42 = onR i (t 50) (t 55) (t 42) := by
  unfold mpS
  refine ⟨?_, ?_, ?_, ?_⟩
  · rw [sv_ne (by decide), sv_ne (by decide), sv_ne (by decide), sv_at]
  · rw [sv_ne (by decide), sv_ne (by decide), sv_at]
  · rw [sv_ne (by decide), sv_at]
  · rw [sv_at]
theorem mpS_0 (t : Sto) (dx ly : Int) : mpS t 0 dx ly = t := by
  unfold mpS
  rw [onR_0 (Int.le_refl _), onR_0 (Int.le_refl _), onR_0 (Int.le_refl _), onR_0 (Int.le_refl _)]
  have h : ∀ (v : Nat) (u : Sto), u = t → sv u v (t v) = t := fun v u e => by rw [e, sv_id]
  exact h 42 _ (h 41 _ (h 40 _ (h 39 _ rfl)))
theorem mpS_step (t : Sto) {i dx ly : Int} (h0 : 0 ≤ i) : su (su (su (su (mpS t i dx ly) 39 (t 50 i) 1) 40 (t 50 i) (t 53 (t 50 i) + dx)) 41 (t 50 i) (t 54 (t 50 i) - ly)) 42 (t 50 i) (t 55 (t 50 i)) = mpS t (i + 1) dx ly := by
  obtain ⟨a1, a2, a3, a4⟩ := mpS_at t i dx ly
  obtain ⟨b1, b2, b3, b4⟩ := mpS_at t (i + 1) dx ly
  have s1 := onR_step h0 (t 50) (fun _ => 1) (t 39)
  have s2 := onR_step h0 (t 50) (fun q => t 53 q + dx) (t 40)
  have s3 := onR_step h0 (t 50) (fun q => t 54 q - ly) (t 41)
  have s4 := onR_step h0 (t 50) (t 55) (t 42)
  funext w
  by_cases h4 : w = 42
  · subst h4; rw [su_row, sv_at, su_ne (by decide), su_ne (by decide), su_ne (by decide), a4, b4, s4]
  · rw [su_ne h4]
    by_cases h3 : w = 41
    · subst h3; rw [su_row, sv_at, su_ne (by decide), su_ne (by decide), a3, b3, s3]
    · rw [su_ne h3]
      by_cases h2 : w = 40
      · subst h2; rw [su_row, sv_at, su_ne (by decide), a2, b2, s2]
      · rw [su_ne h2]
        by_cases h1 : w = 39
        · subst h1; rw [su_row, sv_at, a1, b1, s1]
        · rw [su_ne h1, mpS_ne t _ _ _ ⟨h1, h2, h3, h4⟩, mpS_ne t _ _ _ ⟨h1, h2, h3, h4⟩]
