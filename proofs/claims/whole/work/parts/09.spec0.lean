/-! WORDS of the maths: stores by variables, the first of a row, loops upwards -/
def sv (t : Sto) (v : Nat) (f : Int → Int) : Sto := fun w => if w = v then f else t w
def fu (f : Int → Int) (i x : Int) : Int → Int := fun j => if j = i then x else f j
theorem su_sv (t : Sto) (v : Nat) (i x : Int) : su t v i x = sv t v (fu (t v) i x) := by
  funext w j
  unfold su sv fu
  by_cases h : w = v
  · subst h; simp
  · simp [h]
theorem sv_at (t : Sto) (v : Nat) (f : Int → Int) : sv t v f v = f := by simp [sv]
theorem sv_ne {t : Sto} {v w : Nat} {f : Int → Int} (h : w ≠ v) : sv t v f w = t w := by simp [sv, h]
theorem sv_sv (t : Sto) (v : Nat) (f g : Int → Int) : sv (sv t v f) v g = sv t v g := by
  funext w
  unfold sv
  split <;> rfl
theorem sv_id (t : Sto) (v : Nat) : sv t v (t v) = t := by
  funext w
  unfold sv
  split
  · next h => rw [h]
  · rfl
theorem fu_at (f : Int → Int) (i x : Int) : fu f i x i = x := by simp [fu]
theorem fu_ne {f : Int → Int} {i j x : Int} (h : j ≠ i) : fu f i x j = f j := by simp [fu, h]
theorem fu_id (f : Int → Int) (i : Int) : fu f i (f i) = f := by
  funext j
  unfold fu
  split
  · next h => rw [h]
  · rfl
theorem bq0 {P : Prop} [Decidable P] : ((if P then (1 : Int) else 0) = 0) = ¬ P := by
  by_cases h : P <;> simp [h]
theorem bq1 {P : Prop} [Decidable P] : ((if P then (1 : Int) else 0) = 1) = P := by
  by_cases h : P <;> simp [h]
theorem bqr {P : Prop} [Decidable P] : (if P then (1 : Int) else 0) = 0 ∨ (if P then (1 : Int) else 0) = 1 := by
  by_cases h : P <;> simp [h]
/-- upwards to k -/
theorem up_ind {k : Int} {M : Int → Prop} (step : ∀ l, l ≤ k → (l < k → M (l + 1)) → M l) : ∀ l, l ≤ k → M l := by
  have h : ∀ (n : Nat) (l : Int), l ≤ k → (k - l).toNat = n → M l := by
    intro n
    induction n with
    | zero => intro l h1 h2; exact step l h1 (fun h => absurd h (by omega))
    | succ n ih => intro l h1 h2; exact step l h1 (fun h => ih (l + 1) (by omega) (by omega))
  exact fun l hl => h _ l hl rfl
/-- downwards from k to z -/
theorem down_ind {z : Int} {M : Int → Prop} (step : ∀ l, z ≤ l → (z < l → M (l - 1)) → M l) : ∀ l, z ≤ l → M l := by
  have h : ∀ (n : Nat) (l : Int), z ≤ l → (l - z).toNat = n → M l := by
    intro n
    induction n with
    | zero => intro l h1 h2; exact step l h1 (fun h => absurd h (by omega))
    | succ n ih => intro l h1 h2; exact step l h1 (fun h => ih (l - 1) (by omega) (by omega))
  exact fun l hl => h _ l hl rfl
noncomputable def fstN (P : Int → Prop) (l : Int) (n : Nat) : Int := match n with
  | 0 => -2
  | n + 1 => @ite _ (P l) (Classical.propDecidable _) l (fstN P (l + 1) n)
/-- the first of l .. k - 1 that P; -2 -/
noncomputable def fst (P : Int → Prop) (l k : Int) : Int := fstN P l (k - l).toNat
theorem fst_ge {P : Int → Prop} {l k : Int} (h : k ≤ l) : fst P l k = -2 := by
  unfold fst
  rw [show (k - l).toNat = 0 by omega]
  rfl
theorem fst_pos {P : Int → Prop} {l k : Int} (h : l < k) (hP : P l) : fst P l k = l := by
  unfold fst
  rw [show (k - l).toNat = (k - (l + 1)).toNat + 1 by omega]
  simp [fstN, hP]
theorem fst_neg {P : Int → Prop} {l k : Int} (h : l < k) (hP : ¬ P l) : fst P l k = fst P (l + 1) k := by
  unfold fst
  rw [show (k - l).toNat = (k - (l + 1)).toNat + 1 by omega]
  simp [fstN, hP]
theorem fst_spec (P : Int → Prop) (l k : Int) : (fst P l k = -2 ∧ ∀ j, l ≤ j → j < k → ¬ P j) ∨ (l ≤ fst P l k ∧ fst P l k < k ∧ P (fst P l k) ∧ ∀ j, l ≤ j → j < fst P l k → ¬ P j) := by
  rcases Int.le_total l k with hlk | hlk
  · refine up_ind (k := k) (M := fun l => (fst P l k = -2 ∧ ∀ j, l ≤ j → j < k → ¬ P j) ∨ (l ≤ fst P l k ∧ fst P l k < k ∧ P (fst P l k) ∧ ∀ j, l ≤ j → j < fst P l k → ¬ P j)) (fun l hl ih => ?_) l hlk
    rcases Int.lt_or_le l k with h | h
    · by_cases hP : P l
      · right
        rw [fst_pos h hP]
        exact ⟨Int.le_refl _, h, hP, fun j h1 h2 => by omega⟩
      · rw [fst_neg h hP]
        rcases ih h with ⟨a, b⟩ | ⟨a, b, c, e⟩
        · left
          refine ⟨a, fun j h1 h2 => ?_⟩
          by_cases hj : j = l
          · rw [hj]; exact hP
          · exact b j (by omega) h2
        · right
          refine ⟨by omega, b, c, fun j h1 h2 => ?_⟩
          by_cases hj : j = l
          · rw [hj]; exact hP
          · exact e j (by omega) h2
    · left
      exact ⟨fst_ge h, fun j h1 h2 => by omega⟩
  · left
    exact ⟨fst_ge hlk, fun j h1 h2 => by omega⟩
theorem fst_congr {P P' : Int → Prop} {l k : Int} (h : ∀ j, l ≤ j → j < k → (P j ↔ P' j)) : fst P l k = fst P' l k := by
  rcases fst_spec P l k with ⟨a, b⟩ | ⟨a, b, c, e⟩ <;> rcases fst_spec P' l k with ⟨a', b'⟩ | ⟨a', b', c', e'⟩
  · omega
  · exact absurd ((h _ a' b').mpr c') (b _ a' b')
  · exact absurd ((h _ a b).mp c) (b' _ a b)
  · rcases Int.lt_trichotomy (fst P l k) (fst P' l k) with q | q | q
    · exact absurd ((h _ a b).mp c) (e' _ a q)
    · exact q
    · exact absurd ((h _ a' b').mpr c') (e _ a' q)
theorem fst_uniq {P : Int → Prop} {l k x : Int} (h0 : l ≤ x) (h1 : x < k) (hP : P x) (hu : ∀ j, l ≤ j → j < k → P j → j = x) : fst P l k = x := by
  rcases fst_spec P l k with ⟨a, b⟩ | ⟨a, b, c, e⟩
  · exact absurd hP (b x h0 h1)
  · exact hu _ a b c
theorem fst_none {P : Int → Prop} {l k : Int} (h : ∀ j, l ≤ j → j < k → ¬ P j) : fst P l k = -2 := by
  rcases fst_spec P l k with ⟨a, b⟩ | ⟨a, b, c, e⟩
  · exact a
  · exact absurd c (h _ a b)
theorem fst_lo {P : Int → Prop} {l k : Int} (hl : 0 ≤ l) : (fst P l k < 0 ↔ ∀ j, l ≤ j → j < k → ¬ P j) := by
  rcases fst_spec P l k with ⟨a, b⟩ | ⟨a, b, c, e⟩
  · exact ⟨fun _ => b, fun _ => by omega⟩
  · exact ⟨fun h => by omega, fun h => absurd c (h _ a b)⟩
/-! the tables of directions -/
def oppI (d : Int) : Int := ([4, 5, 6, 7, 0, 1, 2, 3, 9, 8] : List Int).getD d.toNat 0
def eaI (d : Int) : Int := ([0, 1, 1, 1, 0, -1, -1, -1, 0, 0] : List Int).getD d.toNat 0
def soI (d : Int) : Int := ([-1, -1, 0, 1, 1, 1, 0, -1, 0, 0] : List Int).getD d.toNat 0
def riI (d : Int) : Int := ([0, 0, 0, 0, 0, 0, 0, 0, 1, -1] : List Int).getD d.toNat 0
theorem dir_cases {d : Int} (h : 0 ≤ d ∧ d ≤ 9) : d = 0 ∨ d = 1 ∨ d = 2 ∨ d = 3 ∨ d = 4 ∨ d = 5 ∨ d = 6 ∨ d = 7 ∨ d = 8 ∨ d = 9 := by omega
theorem oppI_r {d : Int} (h : 0 ≤ d ∧ d ≤ 9) : 0 ≤ oppI d ∧ oppI d ≤ 9 := by
  rcases dir_cases h with rfl | rfl | rfl | rfl | rfl | rfl | rfl | rfl | rfl | rfl <;> decide
theorem oppI_opp {d : Int} (h : 0 ≤ d ∧ d ≤ 9) : oppI (oppI d) = d := by
  rcases dir_cases h with rfl | rfl | rfl | rfl | rfl | rfl | rfl | rfl | rfl | rfl <;> decide
theorem eaI_r {d : Int} (h : 0 ≤ d ∧ d ≤ 9) : eaI d = -1 ∨ eaI d = 0 ∨ eaI d = 1 := by
  rcases dir_cases h with rfl | rfl | rfl | rfl | rfl | rfl | rfl | rfl | rfl | rfl <;> decide
theorem soI_r {d : Int} (h : 0 ≤ d ∧ d ≤ 9) : soI d = -1 ∨ soI d = 0 ∨ soI d = 1 := by
  rcases dir_cases h with rfl | rfl | rfl | rfl | rfl | rfl | rfl | rfl | rfl | rfl <;> decide
theorem riI_r {d : Int} (h : 0 ≤ d ∧ d ≤ 9) : riI d = -1 ∨ riI d = 0 ∨ riI d = 1 := by
  rcases dir_cases h with rfl | rfl | rfl | rfl | rfl | rfl | rfl | rfl | rfl | rfl <;> decide
/-! the story -/
def SOK (n k : Int) (fr di to bo : Int → Int) : Prop := (0 ≤ n ∧ n ≤ 24 ∧ 0 ≤ k ∧ k ≤ 60) ∧ ∀ l, 0 ≤ l → l < k → (0 ≤ fr l ∧ fr l < n) ∧ (0 ≤ to l ∧ to l < n) ∧ (0 ≤ di l ∧ di l ≤ 9) ∧ (bo l = 0 ∨ bo l = 1)
abbrev SC (t : Sto) : Prop := SOK (t 267 0) (t 272 0) (t 13) (t 14) (t 15) (t 16)
abbrev SM (t : Sto) : Prop := SOK (t 2184 0) (t 2188 0) (t 35) (t 36) (t 37) (t 38)
def outP (fr di to bo : Int → Int) (r w l : Int) : Prop := (fr l = r ∧ di l = w) ∨ (bo l ≠ 0 ∧ to l = r ∧ oppI (di l) = w)
/-- the link that leads out -/
noncomputable def outS (k : Int) (fr di to bo : Int → Int) (r w : Int) : Int := fst (outP fr di to bo r w) 0 k
theorem outS_r (k : Int) (fr di to bo : Int → Int) (r w : Int) : outS k fr di to bo r w = -2 ∨ (0 ≤ outS k fr di to bo r w ∧ outS k fr di to bo r w < k) := by
  rcases fst_spec (outP fr di to bo r w) 0 k with ⟨a, b⟩ | ⟨a, b, c, e⟩
  · exact Or.inl a
  · exact Or.inr ⟨a, b⟩
def endS (fr di to : Int → Int) (l r w : Int) : Int := if fr l = r ∧ di l = w then to l else fr l
noncomputable def beyS (k : Int) (fr di to bo : Int → Int) (r w : Int) : Int := if outS k fr di to bo r w < 0 then -2 else endS fr di to (outS k fr di to bo r w) r w
