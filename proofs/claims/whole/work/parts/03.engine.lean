/-! ENGINE: the machine over whole numbers. Values are ints, longs (whole numbers in range) and places; the store gives each variable (an array's place, or an object's int field) its elements. -/
abbrev Sto : Type := Nat → Int → Int
abbrev MV : Type := Int ⊕ (Nat ⊕ Int)
abbrev mI (x : Int) : MV := Sum.inl x
abbrev mP (q : Nat) : MV := Sum.inr (Sum.inl q)
abbrev mL (x : Int) : MV := Sum.inr (Sum.inr x)
def mval (ad : Nat → Nat) (v : MV) : Value := match v with
  | Sum.inl x => .int (Int32.ofInt x)
  | Sum.inr (Sum.inl q) => .ref (ad q)
  | Sum.inr (Sum.inr x) => .long (Int64.ofInt x)
def inR (x : Int) : Prop := -2147483648 ≤ x ∧ x ≤ 2147483647
def inL (x : Int) : Prop := -9223372036854775808 ≤ x ∧ x ≤ 9223372036854775807
def okV (v : MV) : Prop := match v with
  | Sum.inl x => inR x
  | Sum.inr (Sum.inl _) => True
  | Sum.inr (Sum.inr x) => inL x
def su (t : Sto) (v : Nat) (i x : Int) : Sto := fun w j => if w = v ∧ j = i then x else t w j
theorem su_ne {t : Sto} {v w : Nat} {i x : Int} (h : w ≠ v) : su t v i x w = t w := by funext j; simp [su, h]
theorem su_at (t : Sto) (v : Nat) (i x : Int) : su t v i x v i = x := by simp [su]
theorem su_same (t : Sto) (v : Nat) (i x j : Int) : su t v i x v j = if j = i then x else t v j := by simp [su]
def okS (t : Sto) : Prop := ∀ v i, inR (t v i)
theorem okS_su {t : Sto} (h : okS t) {v : Nat} {i x : Int} (hx : inR x) : okS (su t v i x) := by
  intro w j
  unfold su
  split
  · exact hx
  · exact h w j
-- numbers
theorem io_toInt {x : Int} (h : inR x) : (Int32.ofInt x).toInt = x := Int32.toInt_ofInt_of_le (by unfold inR at h; omega) (by unfold inR at h; omega)
theorem io_eq {x y : Int} (hx : inR x) (hy : inR y) : Int32.ofInt x = Int32.ofInt y ↔ x = y := by
  constructor
  · intro h
    rw [← io_toInt hx, ← io_toInt hy, h]
  · intro h; rw [h]
theorem io_lt {x y : Int} (hx : inR x) (hy : inR y) : Int32.ofInt x < Int32.ofInt y ↔ x < y := by
  rw [Int32.lt_iff_toInt_lt, io_toInt hx, io_toInt hy]
theorem io_le {x y : Int} (hx : inR x) (hy : inR y) : Int32.ofInt x ≤ Int32.ofInt y ↔ x ≤ y := by
  rw [Int32.le_iff_toInt_le, io_toInt hx, io_toInt hy]
theorem io_0 : (0 : Int32) = Int32.ofInt 0 := rfl
theorem inR_0 : inR 0 := ⟨by decide, by decide⟩
theorem io_in {i : Int} {n : Nat} (hi : inR i) (h0 : 0 ≤ i) (h1 : i < n) : vp_in (Int32.ofInt i) n := by
  unfold vp_in
  rw [io_0, io_lt hi inR_0, Int32.toNatClampNeg_ofInt_of_le (by unfold inR at hi; omega) (by unfold inR at hi; omega)]
  omega
theorem io_nat {i : Int} (hi : inR i) : (Int32.ofInt i).toNatClampNeg = i.toNat := Int32.toNatClampNeg_ofInt_of_le (by unfold inR at hi; omega) (by unfold inR at hi; omega)
-- the shapes of the places
def NP : Nat := 57
def arS (k : Nat) : Option (Bool × Nat) := match k with
  | 10 => some (false, 24)
  | 11 => some (false, 24)
  | 12 => some (false, 24)
  | 13 => some (false, 60)
  | 14 => some (false, 60)
  | 15 => some (false, 60)
  | 16 => some (true, 60)
  | 17 => some (false, 24)
  | 18 => some (false, 24)
  | 19 => some (false, 24)
  | 20 => some (false, 24)
  | 21 => some (true, 24)
  | 22 => some (false, 24)
  | 23 => some (false, 24)
  | 24 => some (false, 24)
  | 25 => some (true, 24)
  | 26 => some (false, 24)
  | 27 => some (true, 24)
  | 28 => some (false, 25)
  | 29 => some (false, 120)
  | 30 => some (false, 24)
  | 32 => some (false, 24)
  | 33 => some (false, 24)
  | 34 => some (false, 24)
  | 35 => some (false, 60)
  | 36 => some (false, 60)
  | 37 => some (false, 60)
  | 38 => some (true, 60)
  | 39 => some (true, 24)
  | 40 => some (false, 24)
  | 41 => some (false, 24)
  | 42 => some (false, 24)
  | 43 => some (true, 24)
  | 44 => some (false, 24)
  | 45 => some (false, 24)
  | 46 => some (true, 24)
  | 47 => some (false, 24)
  | 48 => some (false, 24)
  | 49 => some (false, 24)
  | 50 => some (false, 24)
  | 51 => some (true, 24)
  | 52 => some (false, 24)
  | 53 => some (false, 24)
  | 54 => some (false, 24)
  | 55 => some (false, 24)
  | 56 => some (false, 24)
  | _ => none
def ocS (k : Nat) : Nat := match k with
  | 0 => 8
  | 1 => 5
  | 2 => 1
  | 3 => 2
  | 4 => 2
  | 5 => 3
  | 6 => 6
  | 7 => 0
  | 8 => 7
  | 9 => 4
  | 31 => 9
  | _ => 0
def fkS (k : Nat) : List (Nat ⊕ Nat) := match k with
  | 0 => [Sum.inr 1, Sum.inr 2, Sum.inr 3, Sum.inr 5, Sum.inr 8, Sum.inr 9]
  | 1 => [Sum.inr 10, Sum.inr 11, Sum.inr 12, Sum.inl 267, Sum.inr 13, Sum.inr 14, Sum.inr 15, Sum.inr 16, Sum.inl 272]
  | 2 => [Sum.inr 17]
  | 3 => [Sum.inr 1, Sum.inr 18, Sum.inr 19, Sum.inr 20, Sum.inr 21]
  | 4 => [Sum.inr 1, Sum.inr 22, Sum.inr 23, Sum.inr 24, Sum.inr 25]
  | 5 => [Sum.inr 1, Sum.inr 2, Sum.inr 3, Sum.inr 4, Sum.inr 6, Sum.inr 7, Sum.inr 26, Sum.inl 527, Sum.inr 27, Sum.inl 529, Sum.inl 530, Sum.inl 531, Sum.inl 532, Sum.inl 533, Sum.inl 534]
  | 6 => [Sum.inr 28, Sum.inr 29]
  | 7 => [Sum.inr 1, Sum.inr 6, Sum.inl 650, Sum.inl 651, Sum.inl 652]
  | 8 => [Sum.inr 1, Sum.inr 30]
  | 9 => [Sum.inr 1, Sum.inr 3, Sum.inl 778, Sum.inl 779]
  | 31 => [Sum.inl 2184, Sum.inr 32, Sum.inr 33, Sum.inr 34, Sum.inl 2188, Sum.inr 35, Sum.inr 36, Sum.inr 37, Sum.inr 38, Sum.inr 39, Sum.inr 40, Sum.inr 41, Sum.inr 42, Sum.inl 2197, Sum.inl 2198, Sum.inr 43, Sum.inr 44, Sum.inl 2201, Sum.inr 45, Sum.inr 46, Sum.inr 47, Sum.inr 48, Sum.inr 49, Sum.inl 2207, Sum.inl 2208, Sum.inl 2209, Sum.inl 2210, Sum.inr 50, Sum.inr 51, Sum.inr 52, Sum.inr 53, Sum.inr 54, Sum.inr 55, Sum.inl 2217, Sum.inr 56]
  | _ => []
/-- the static rows: class, name, contents -/
def stS : List (String × String × List Int) := [("MapDrawer", "OPPOSITE", [4, 5, 6, 7, 0, 1, 2, 3, 9, 8]), ("MapDrawer", "EAST", [0, 1, 1, 1, 0, (-1), (-1), (-1), 0, 0]), ("MapDrawer", "SOUTH", [(-1), (-1), 0, 1, 1, 1, 0, (-1), 0, 0]), ("MapDrawer", "RISE", [0, 0, 0, 0, 0, 0, 0, 0, 1, (-1)]), ("MapDrawer$Sheet", "LINE", [124, 47, 45, 92, 124, 47, 45, 92])]
def fvS (ad : Nat → Nat) (t : Sto) (f : Nat ⊕ Nat) : Value := match f with
  | Sum.inl v => .int (Int32.ofInt (t v 0))
  | Sum.inr q => .ref (ad q)
def entS (cy : Bool → ClassId) (ad : Nat → Nat) (t : Sto) (k : Nat) : va_E := match arS k with
  | some (b, n) => .inl (cy b, n, .inl (fun j => Int32.ofInt (t k (j : Int))))
  | none => .inr (ocS k, (fkS k).map (fvS ad t))
def wd (cy : Bool → ClassId) (ad : Nat → Nat) (t : Sto) : va_W := (List.range NP).map (fun k => (ad k, entS cy ad t k))
theorem wd_at {cy : Bool → ClassId} {ad : Nat → Nat} {t : Sto} {k : Nat} (h : k < NP) : (wd cy ad t)[k]? = some (ad k, entS cy ad t k) := by
  simp [wd, h]
theorem wd_len {cy : Bool → ClassId} {ad : Nat → Nat} {t : Sto} : (wd cy ad t).length = NP := by simp [wd]
theorem wd_arr {cy : Bool → ClassId} {ad : Nat → Nat} {t : Sto} {k n : Nat} {b : Bool} (ha : arS k = some (b, n)) (h : k < NP) : (wd cy ad t)[k]? = some (ad k, .inl (cy b, n, .inl (fun j => Int32.ofInt (t k (j : Int))))) := by
  rw [wd_at h]; simp [entS, ha]
theorem wd_obj {cy : Bool → ClassId} {ad : Nat → Nat} {t : Sto} {k : Nat} (ha : arS k = none) (h : k < NP) : (wd cy ad t)[k]? = some (ad k, .inr (ocS k, (fkS k).map (fvS ad t))) := by
  rw [wd_at h]; simp [entS, ha]
def fkCheck : Bool := (List.range NP).all fun k => (List.range (fkS k).length).all fun f => match (fkS k)[f]? with
  | some (Sum.inl v) => v == 200 + 64 * k + f && decide (f < 64)
  | _ => true
theorem fk_ok : fkCheck = true := by decide +kernel
theorem fk_var {k f v : Nat} (hk : k < NP) (h : (fkS k)[f]? = some (Sum.inl v)) : v = 200 + 64 * k + f ∧ f < 64 := by
  have h1 := List.all_eq_true.mp fk_ok k (List.mem_range.mpr hk)
  have hf : f < (fkS k).length := (List.getElem?_eq_some_iff.mp h).1
  have h2 := List.all_eq_true.mp h1 f (List.mem_range.mpr hf)
  rw [h] at h2
  simpa using h2
theorem fvS_ne {ad : Nat → Nat} {t : Sto} {v : Nat} {i x : Int} {f : Nat ⊕ Nat} (h : f ≠ Sum.inl v) : fvS ad (su t v i x) f = fvS ad t f := by
  cases f with
  | inl w =>
    have hw : w ≠ v := fun e => h (by rw [e])
    simp [fvS, su_ne hw]
  | inr q => rfl
theorem wd_set_arr {cy : Bool → ClassId} {ad : Nat → Nat} {t : Sto} {k n : Nat} {b : Bool} {i x : Int} (ha : arS k = some (b, n)) (hk : k < NP) (h0 : 0 ≤ i) :
    (wd cy ad t).set k (ad k, .inl (cy b, n, .inl (upd (fun j => Int32.ofInt (t k (j : Int))) i.toNat (Int32.ofInt x)))) = wd cy ad (su t k i x) := by
  apply List.ext_getElem?
  intro j
  rw [List.getElem?_set]
  by_cases hj : k = j
  · subst hj
    simp only [wd_len, hk, if_true]
    rw [wd_arr ha hk]
    congr 6
    funext q
    unfold upd
    by_cases hq : q = i.toNat
    · subst hq
      have : ((i.toNat : Nat) : Int) = i := Int.toNat_of_nonneg h0
      rw [if_pos rfl, this, su_at]
    · have hne : ¬ ((q : Int) = i) := fun e => hq (by omega)
      simp [hq, su_same, hne]
  · rw [if_neg hj]
    by_cases hjN : j < NP
    · rw [wd_at hjN, wd_at hjN]
      congr 2
      unfold entS
      cases hA : arS j with
      | some q =>
        obtain ⟨b2, n2⟩ := q
        simp only [su_ne (Ne.symm hj)]
      | none =>
        show Sum.inr _ = Sum.inr _
        congr 2
        apply List.map_congr_left
        intro f hf
        apply Eq.symm
        apply fvS_ne
        intro e
        obtain ⟨fi, hfi⟩ := List.getElem?_of_mem hf
        rw [e] at hfi
        have := (fk_var hjN hfi).1
        unfold NP at hk
        omega
    · rw [List.getElem?_eq_none (by rw [wd_len]; omega), List.getElem?_eq_none (by rw [wd_len]; omega)]
theorem wd_set_fld {cy : Bool → ClassId} {ad : Nat → Nat} {t : Sto} {k f v : Nat} {x : Int} (ha : arS k = none) (hk : k < NP) (hf : (fkS k)[f]? = some (Sum.inl v)) :
    (wd cy ad t).set k (ad k, .inr (ocS k, ((fkS k).map (fvS ad t)).set f (.int (Int32.ofInt x)))) = wd cy ad (su t v 0 x) := by
  have hv := (fk_var hk hf).1
  apply List.ext_getElem?
  intro j
  rw [List.getElem?_set]
  by_cases hj : k = j
  · subst hj
    simp only [wd_len, hk, if_true]
    rw [wd_obj ha hk]
    congr 4
    apply List.ext_getElem?
    intro g
    rw [List.getElem?_set, List.getElem?_map, List.getElem?_map]
    by_cases hg : f = g
    · subst hg
      have hlt := (List.getElem?_eq_some_iff.mp hf).1
      rw [if_pos rfl, List.length_map, if_pos hlt, hf]
      simp [fvS, su_at]
    · rw [if_neg hg]
      cases hq : (fkS k)[g]? with
      | none => rfl
      | some w =>
        simp only [Option.map_some]
        rw [fvS_ne]
        intro e
        rw [e] at hq
        have := (fk_var hk hq).1
        omega
  · rw [if_neg hj]
    by_cases hjN : j < NP
    · rw [wd_at hjN, wd_at hjN]
      congr 2
      unfold entS
      cases hA : arS j with
      | some q =>
        obtain ⟨b2, n2⟩ := q
        have : j ≠ v := by unfold NP at hjN; omega
        simp only [su_ne this]
      | none =>
        show Sum.inr _ = Sum.inr _
        congr 2
        apply List.map_congr_left
        intro fe hfe
        apply Eq.symm
        apply fvS_ne
        intro e
        obtain ⟨fi, hfi⟩ := List.getElem?_of_mem hfe
        rw [e] at hfi
        have h3 := (fk_var hjN hfi)
        have h4 := (fk_var hk hf)
        omega
    · rw [List.getElem?_eq_none (by rw [wd_len]; omega), List.getElem?_eq_none (by rw [wd_len]; omega)]
-- the world's addresses
def Aw (ad : Nat → Nat) : Nat → Prop := fun q => ∃ k, k < NP ∧ q = ad k
def apartW (ad : Nat → Nat) : Prop := ∀ i j, i < NP → j < NP → ad i = ad j → i = j
theorem wd_D {cy : Bool → ClassId} {ad : Nat → Nat} {t : Sto} (h : apartW ad) : va_D (Aw ad) (wd cy ad t) := by
  refine ⟨fun i j p q hp hq e => ?_, fun k q hq => ?_⟩
  · have hi : i < NP := by have := (List.getElem?_eq_some_iff.mp hp).1; rwa [wd_len] at this
    have hj : j < NP := by have := (List.getElem?_eq_some_iff.mp hq).1; rwa [wd_len] at this
    rw [wd_at hi] at hp
    rw [wd_at hj] at hq
    cases hp
    cases hq
    exact h i j hi hj e
  · have hk : k < NP := by have := (List.getElem?_eq_some_iff.mp hq).1; rwa [wd_len] at this
    rw [wd_at hk] at hq
    cases hq
    exact ⟨k, hk, rfl⟩
