/-! PARTS -/
def iterI {α : Type} (F : Int → α → α) (l : Int) (n : Nat) (a : α) : α := match n with
  | 0 => a
  | n + 1 => iterI F (l + 1) n (F l a)
/-- F at l, l + 1, .. k - 1 -/
def itr {α : Type} (F : Int → α → α) (l k : Int) (a : α) : α := iterI F l (k - l).toNat a
theorem itr_ge {α : Type} {F : Int → α → α} {l k : Int} {a : α} (h : k ≤ l) : itr F l k a = a := by
  unfold itr
  rw [show (k - l).toNat = 0 by omega]
  rfl
theorem itr_lt {α : Type} {F : Int → α → α} {l k : Int} {a : α} (h : l < k) : itr F l k a = itr F (l + 1) k (F l a) := by
  unfold itr
  rw [show (k - l).toNat = (k - (l + 1)).toNat + 1 by omega]
  rfl
theorem itr_right {α : Type} {F : Int → α → α} {k : Int} : ∀ l, l ≤ k → ∀ a, itr F l (k + 1) a = F k (itr F l k a) := by
  refine up_ind (fun l hl ih a => ?_)
  rcases Int.lt_or_le l k with h | h
  · rw [itr_lt (by omega), itr_lt h]
    exact ih h _
  · have : l = k := by omega
    subst this
    rw [itr_lt (by omega), itr_ge (by omega), itr_ge (by omega)]
theorem itr_inv {α : Type} {F : Int → α → α} {k : Int} {P : α → Prop} {l0 : Int} (hs : ∀ l a, l0 ≤ l → l < k → P a → P (F l a)) : ∀ l, l ≤ k → ∀ a, l0 ≤ l → P a → P (itr F l k a) := by
  refine up_ind (fun l hl ih a h0 hP => ?_)
  rcases Int.lt_or_le l k with h | h
  · rw [itr_lt h]
    exact ih h _ (by omega) (hs l a h0 h hP)
  · rw [itr_ge h]; exact hP
theorem itr_fix {α : Type} {F : α → α} {k : Int} {a : α} (h : F a = a) : ∀ l, l ≤ k → itr (fun _ => F) l k a = a := by
  refine up_ind (fun l hl ih => ?_)
  rcases Int.lt_or_le l k with h1 | h1
  · rw [itr_lt h1, h]; exact ih h1
  · rw [itr_ge h1]
def glue (n : Int) (s f : Int → Int) : Int → Int := fun j => if 0 ≤ j ∧ j < n then s j else f j
theorem glue_at {n : Int} {s f : Int → Int} {i : Int} (h : 0 ≤ i ∧ i < n) : glue n s f i = s i := by unfold glue; rw [if_pos h]
theorem glue_fu {n : Int} {s f : Int → Int} {i x : Int} (h : 0 ≤ i ∧ i < n) : fu (glue n s f) i x = glue n (fu s i x) f := by
  funext j
  unfold fu glue
  by_cases hj : j = i
  · subst hj; simp [h]
  · simp [hj]
theorem glue_0 (s f : Int → Int) : glue 0 s f = f := by
  funext j
  unfold glue
  rw [if_neg (by omega)]
theorem glue_succ {n : Int} (h : 0 ≤ n) (s f : Int → Int) : fu (glue n s f) n (s n) = glue (n + 1) s f := by
  funext j
  unfold fu glue
  by_cases hj : j = n
  · subst hj; rw [if_pos rfl, if_pos (by omega)]
  · rw [if_neg hj]
    by_cases h2 : 0 ≤ j ∧ j < n
    · rw [if_pos h2, if_pos (by omega)]
    · rw [if_neg h2, if_neg (by omega)]
theorem glue_congr {n : Int} {s s' f : Int → Int} (h : ∀ j, 0 ≤ j → j < n → s j = s' j) : glue n s f = glue n s' f := by
  funext j
  unfold glue
  split
  · next q => exact h j q.1 q.2
  · rfl
theorem glue_out {n : Int} {s f : Int → Int} {i : Int} (h : ¬ (0 ≤ i ∧ i < n)) : glue n s f i = f i := by unfold glue; rw [if_neg h]
theorem glue_glue (n : Int) (s s' f : Int → Int) : glue n s (glue n s' f) = glue n s f := by
  funext j
  unfold glue
  split <;> rfl
def minI (x y : Int) : Int := if x < y then x else y
/-- both ends of a link get the lesser label -/
def lkF (fr to : Int → Int) (l : Int) (s : Int → Int) : Int → Int := fu (fu s (fr l) (minI (s (fr l)) (s (to l)))) (to l) (minI (s (fr l)) (s (to l)))
def passF (k : Int) (fr to : Int → Int) (s : Int → Int) : Int → Int := itr (lkF fr to) 0 k s
/-- the label of a room: the least room of its part -/
def leastS (n k : Int) (fr to : Int → Int) : Int → Int := itr (fun _ => passF k fr to) 0 n (fun j => j)
theorem lk_same {fr to : Int → Int} {l : Int} {s : Int → Int} (h : s (fr l) = s (to l)) : lkF fr to l s = s := by
  unfold lkF minI
  funext j
  unfold fu
  split
  · next q => rw [q]; split <;> omega
  · split
    · next q => rw [q]; split <;> omega
    · rfl
def LbP (n : Int) (s : Int → Int) : Prop := ∀ j, 0 ≤ j → j < n → 0 ≤ s j ∧ s j ≤ j
theorem LP_lk {n : Int} {fr to : Int → Int} {l : Int} {s : Int → Int} (h1 : 0 ≤ fr l ∧ fr l < n) (h2 : 0 ≤ to l ∧ to l < n) (h : LbP n s) : LbP n (lkF fr to l s) := by
  intro j hj0 hjn
  have a := h (fr l) h1.1 h1.2
  have b := h (to l) h2.1 h2.2
  have c := h j hj0 hjn
  unfold lkF minI fu
  split
  · split <;> omega
  · split
    · split <;> omega
    · exact c
theorem LP_pass {n k : Int} {fr to : Int → Int} (hk : 0 ≤ k) (hS : ∀ l, 0 ≤ l → l < k → (0 ≤ fr l ∧ fr l < n) ∧ (0 ≤ to l ∧ to l < n)) {s : Int → Int} (h : LbP n s) : LbP n (passF k fr to s) :=
  itr_inv (P := LbP n) (l0 := 0) (fun l a h0 h1 hP => LP_lk (hS l h0 h1).1 (hS l h0 h1).2 hP) 0 hk s (Int.le_refl _) h
theorem LP_least {n k : Int} {fr to : Int → Int} (hn : 0 ≤ n) (hk : 0 ≤ k) (hS : ∀ l, 0 ≤ l → l < k → (0 ≤ fr l ∧ fr l < n) ∧ (0 ≤ to l ∧ to l < n)) : LbP n (leastS n k fr to) :=
  itr_inv (P := LbP n) (l0 := 0) (fun l a h0 h1 hP => LP_pass hk hS hP) 0 hn _ (Int.le_refl _) (fun j h1 h2 => ⟨h1, Int.le_refl _⟩)
/-- counting parts: how many so far, and each room's -/
def pcStep (A : Int → Int) (r : Int) (q : Int × (Int → Int)) : Int × (Int → Int) := if A r = r then (q.1 + 1, fu q.2 r q.1) else (q.1, fu q.2 r (q.2 (A r)))
def pcS (A : Int → Int) (r : Int) : Int × (Int → Int) := itr (pcStep A) 0 r (0, fun _ => 0)
theorem pcS_succ (A : Int → Int) {r : Int} (h : 0 ≤ r) : pcS A (r + 1) = pcStep A r (pcS A r) := itr_right 0 h _
theorem pcS_bound (A : Int → Int) (n : Int) : ∀ r, 0 ≤ r → 0 ≤ (pcS A r).1 ∧ (pcS A r).1 ≤ r := by
  refine down_ind (z := 0) (fun r hr ih => ?_)
  rcases Int.lt_or_le 0 r with h | h
  · have e := pcS_succ A (r := r - 1) (by omega)
    rw [show r - 1 + 1 = r by omega] at e
    rw [e]
    have := ih h
    unfold pcStep
    split <;> (show 0 ≤ _ ∧ _ ≤ r; simp only; omega)
  · have : r = 0 := by omega
    subst this
    unfold pcS
    rw [itr_ge (by omega)]
    simp
noncomputable def cntS (n k : Int) (fr to : Int → Int) : Int := (pcS (leastS n k fr to) n).1
noncomputable def parS (n k : Int) (fr to : Int → Int) : Int → Int := (pcS (leastS n k fr to) n).2
theorem c_X1_sinkToLeastRooms_1 (t : Sto) (s f : Int → Int) (hS : SC t) (hs : t 17 = glue (t 267 0) s f) : CT yX1_sinkToLeastRooms cX1_sinkToLeastRooms 6 (some .boolean) 1 [mP 2, mP 1] t (fun a t' => ∃ x, a = some (mI x) ∧ ((x = 0 ∨ x = 1) ∧ (x = 0 → passF (t 272 0) (t 13) (t 15) s = s) ∧ t' = sv t 17 (glue (t 267 0) (passF (t 272 0) (t 13) (t 15) s) f))) := by
  refine CT_of rfl rfl (Nat.le_of_ble_eq_true rfl) (fun E ht has => ?_)
  obtain ⟨hb, hS⟩ := hS
  have loop : ∀ l, l ≤ t 272 0 → ∀ (u : Int → Int) (c : Int) (o4 o5 : Option MV), 0 ≤ l → (c = 0 ∨ c = 1) → (c = 0 → u = s) → itr (lkF (t 13) (t 15)) l (t 272 0) u = passF (t 272 0) (t 13) (t 15) s → G E cX1_sinkToLeastRooms RX1 (some .boolean) 1 4 [some (mP 2), some (mP 1), some (mI c), some (mI l), o4, o5] [] (sv t 17 (glue (t 267 0) u f)) (fun a t' => ∃ x, a = some (mI x) ∧ ((x = 0 ∨ x = 1) ∧ (x = 0 → passF (t 272 0) (t 13) (t 15) s = s) ∧ t' = sv t 17 (glue (t 267 0) (passF (t 272 0) (t 13) (t 15) s) f))) := by
    refine up_ind (fun l hl ih u c o4 o5 h0 hc hu hX => ?_)
    refine G_iload_n (pc := 4) dX1_sinkToLeastRooms_4 rfl ?_
    refine G_aload_n (pc := 5) dX1_sinkToLeastRooms_5 rfl ?_
    refine G_getI (pc := 6) dX1_sinkToLeastRooms_6 fk_X1_29 rfl rfl rfl ?_
    try simp (disch := decide) only [su_ne, su_at, su_same, sv_ne, sv_at]
    refine G_icmp_ge (pc := 9) (tgt := 91) dX1_sinkToLeastRooms_9 rfl (fun h_9 => ?_) (fun h_9 => ?_)
    · refine G_iload_n (pc := 91) dX1_sinkToLeastRooms_91 rfl ?_
      exact G_zreturn (pc := 92) dX1_sinkToLeastRooms_92 (by exact hc) (by rw [itr_ge (by omega)] at hX; subst hX; exact ⟨_, rfl, hc, hu, rfl⟩)
    · obtain ⟨hfr, hto, -, -⟩ := hS l h0 (by omega)
      refine G_aload_n (pc := 12) dX1_sinkToLeastRooms_12 rfl ?_
      refine G_getP (pc := 13) dX1_sinkToLeastRooms_13 fk_X1_32 rfl rfl rfl ?_
      refine G_iload_n (pc := 16) dX1_sinkToLeastRooms_16 rfl ?_
      refine G_iaload (pc := 17) dX1_sinkToLeastRooms_17 rfl rfl (by omega) ?_
      try simp (disch := decide) only [su_ne, su_at, su_same, sv_ne, sv_at]
      refine G_istore (pc := 18) dX1_sinkToLeastRooms_18 (Nat.le_of_ble_eq_true rfl) rfl ?_
      refine G_aload_n (pc := 20) dX1_sinkToLeastRooms_20 rfl ?_
      refine G_getP (pc := 21) dX1_sinkToLeastRooms_21 fk_X1_35 rfl rfl rfl ?_
      refine G_iload_n (pc := 24) dX1_sinkToLeastRooms_24 rfl ?_
      refine G_iaload (pc := 25) dX1_sinkToLeastRooms_25 rfl rfl (by omega) ?_
      try simp (disch := decide) only [su_ne, su_at, su_same, sv_ne, sv_at]
      refine G_istore (pc := 26) dX1_sinkToLeastRooms_26 (Nat.le_of_ble_eq_true rfl) rfl ?_
      refine G_aload_n (pc := 28) dX1_sinkToLeastRooms_28 rfl ?_
      refine G_getP (pc := 29) dX1_sinkToLeastRooms_29 fk_X1_9 rfl rfl rfl ?_
      refine G_iload (pc := 32) dX1_sinkToLeastRooms_32 rfl ?_
      refine G_iaload (pc := 34) dX1_sinkToLeastRooms_34 rfl rfl (by omega) ?_
      try simp (disch := decide) only [su_ne, su_at, su_same, sv_ne, sv_at]
      refine G_aload_n (pc := 35) dX1_sinkToLeastRooms_35 rfl ?_
      refine G_getP (pc := 36) dX1_sinkToLeastRooms_36 fk_X1_9 rfl rfl rfl ?_
      refine G_iload (pc := 39) dX1_sinkToLeastRooms_39 rfl ?_
      refine G_iaload (pc := 41) dX1_sinkToLeastRooms_41 rfl rfl (by omega) ?_
      try simp (disch := decide) only [su_ne, su_at, su_same, sv_ne, sv_at]
      rw [glue_at hfr, glue_at hto]
      refine G_icmp_eq (pc := 42) (tgt := 85) dX1_sinkToLeastRooms_42 rfl (fun h_42 => ?_) (fun h_42 => ?_)
      · have e := lk_same (fr := t 13) (to := t 15) (l := l) (s := u) h_42
        refine G_iinc (pc := 85) dX1_sinkToLeastRooms_85 rfl rfl (by omega) ?_
        refine G_goto (pc := 88) (tgt := 4) dX1_sinkToLeastRooms_88 rfl ?_
        refine ih (by omega) u c _ _ (by omega) hc hu ?_
        rw [← hX, itr_lt (l := l) (by omega), e]
        skip
      · refine G_aload_n (pc := 45) dX1_sinkToLeastRooms_45 rfl ?_
        refine G_getP (pc := 46) dX1_sinkToLeastRooms_46 fk_X1_9 rfl rfl rfl ?_
        refine G_iload (pc := 49) dX1_sinkToLeastRooms_49 rfl ?_
        refine G_aload_n (pc := 51) dX1_sinkToLeastRooms_51 rfl ?_
        refine G_getP (pc := 52) dX1_sinkToLeastRooms_52 fk_X1_9 rfl rfl rfl ?_
        refine G_iload (pc := 55) dX1_sinkToLeastRooms_55 rfl ?_
        refine G_iaload (pc := 57) dX1_sinkToLeastRooms_57 rfl rfl (by omega) ?_
        try simp (disch := decide) only [su_ne, su_at, su_same, sv_ne, sv_at]
        refine G_aload_n (pc := 58) dX1_sinkToLeastRooms_58 rfl ?_
        refine G_getP (pc := 59) dX1_sinkToLeastRooms_59 fk_X1_9 rfl rfl rfl ?_
        refine G_iload (pc := 62) dX1_sinkToLeastRooms_62 rfl ?_
        refine G_iaload (pc := 64) dX1_sinkToLeastRooms_64 rfl rfl (by omega) ?_
        try simp (disch := decide) only [su_ne, su_at, su_same, sv_ne, sv_at]
        rw [glue_at hfr, glue_at hto]
        refine G_min (pc := 65) dX1_sinkToLeastRooms_65 ml_X1_38 (by decide) (Nat.le_of_ble_eq_true rfl) ?_
        refine G_iastore (pc := 68) dX1_sinkToLeastRooms_68 rfl rfl (by omega) ?_
        refine G_aload_n (pc := 69) dX1_sinkToLeastRooms_69 rfl ?_
        refine G_getP (pc := 70) dX1_sinkToLeastRooms_70 fk_X1_9 rfl rfl rfl ?_
        refine G_iload (pc := 73) dX1_sinkToLeastRooms_73 rfl ?_
        refine G_aload_n (pc := 75) dX1_sinkToLeastRooms_75 rfl ?_
        refine G_getP (pc := 76) dX1_sinkToLeastRooms_76 fk_X1_9 rfl rfl rfl ?_
        refine G_iload (pc := 79) dX1_sinkToLeastRooms_79 rfl ?_
        refine G_iaload (pc := 81) dX1_sinkToLeastRooms_81 rfl rfl (by omega) ?_
        try simp (disch := decide) only [su_ne, su_at, su_same, sv_ne, sv_at]
        refine G_iastore (pc := 82) dX1_sinkToLeastRooms_82 rfl rfl (by omega) ?_
        refine G_iconst (pc := 83) dX1_sinkToLeastRooms_83 (by decide) ?_
        refine G_istore_n (pc := 84) dX1_sinkToLeastRooms_84 (Nat.le_of_ble_eq_true rfl) rfl ?_
        refine G_iinc (pc := 85) dX1_sinkToLeastRooms_85 rfl rfl (by omega) ?_
        refine G_goto (pc := 88) (tgt := 4) dX1_sinkToLeastRooms_88 rfl ?_
        have e : su (su (sv t 17 (glue (t 267 0) u f)) 17 (t 13 l) (if u (t 15 l) < u (t 13 l) then u (t 15 l) else u (t 13 l))) 17 (t 15 l) (if u (t 15 l) < u (t 13 l) then u (t 15 l) else u (t 13 l)) = sv t 17 (glue (t 267 0) (lkF (t 13) (t 15) l u) f) := by
          rw [su_sv, su_sv, sv_at, sv_sv, sv_at, sv_sv, glue_fu hfr, glue_fu hto]
          unfold lkF
          have em : (if u (t 15 l) < u (t 13 l) then u (t 15 l) else u (t 13 l)) = minI (u (t 13 l)) (u (t 15 l)) := by unfold minI; split <;> split <;> omega
          rw [em]
        rw [e]
        refine ih (by omega) _ 1 _ _ (by omega) (Or.inr rfl) (fun q => by omega) ?_
        rw [← hX, itr_lt (l := l) (by omega)]
  refine G_iconst (pc := 0) dX1_sinkToLeastRooms_0 (by decide) ?_
  refine G_istore_n (pc := 1) dX1_sinkToLeastRooms_1 (Nat.le_of_ble_eq_true rfl) rfl ?_
  refine G_iconst (pc := 2) dX1_sinkToLeastRooms_2 (by decide) ?_
  refine G_istore_n (pc := 3) dX1_sinkToLeastRooms_3 (Nat.le_of_ble_eq_true rfl) rfl ?_
  have h := loop 0 (by omega) s 0 none none (by omega) (Or.inl rfl) (fun _ => rfl) rfl
  rw [← hs, sv_id] at h
  exact h
theorem SC_sv {t : Sto} {v : Nat} {f : Int → Int} (hv : (v != 267 && v != 272 && v != 13 && v != 14 && v != 15 && v != 16) = true) (h : SC t) : SC (sv t v f) := by
  simp only [Bool.and_eq_true, bne_iff_ne, ne_eq] at hv
  obtain ⟨⟨⟨⟨⟨h1, h2⟩, h3⟩, h4⟩, h5⟩, h6⟩ := hv
  unfold SC
  rw [sv_ne (Ne.symm h1), sv_ne (Ne.symm h2), sv_ne (Ne.symm h3), sv_ne (Ne.symm h4), sv_ne (Ne.symm h5), sv_ne (Ne.symm h6)]
  exact h
theorem SM_sv {t : Sto} {v : Nat} {f : Int → Int} (hv : (v != 2184 && v != 2188 && v != 35 && v != 36 && v != 37 && v != 38) = true) (h : SM t) : SM (sv t v f) := by
  simp only [Bool.and_eq_true, bne_iff_ne, ne_eq] at hv
  obtain ⟨⟨⟨⟨⟨h1, h2⟩, h3⟩, h4⟩, h5⟩, h6⟩ := hv
  unfold SM
  rw [sv_ne (Ne.symm h1), sv_ne (Ne.symm h2), sv_ne (Ne.symm h3), sv_ne (Ne.symm h4), sv_ne (Ne.symm h5), sv_ne (Ne.symm h6)]
  exact h
theorem glue_step {r : Int} (h : 0 ≤ r) (X A : Int → Int) (c : Int) : fu (glue r X A) r c = glue (r + 1) (fu X r c) A := by
  funext j
  unfold fu glue
  by_cases hj : j = r
  · subst hj
    rw [if_pos rfl, if_pos (by omega)]
    simp
  · rw [if_neg hj]
    by_cases h2 : 0 ≤ j ∧ j < r
    · rw [if_pos h2, if_pos (by omega)]
      simp [hj]
    · rw [if_neg h2, if_neg (by omega)]
theorem c_X1_countUp (t : Sto) (n : Int) (A f : Int → Int) (hn : 0 ≤ n ∧ n ≤ 24) (hA : t 17 = glue n A f) (hL : LbP n A) : CT yX1_countUp cX1_countUp 4 (some .int) 0 [mP 2, mI n] t (fun a t' => a = some (mI (pcS A n).1) ∧ t' = sv t 17 (glue n (pcS A n).2 f)) := by
  refine CT_of rfl rfl (Nat.le_of_ble_eq_true rfl) (fun E ht has => ?_)
  have loop : ∀ r, r ≤ n → 0 ≤ r → G E cX1_countUp RX1 (some .int) 0 4 [some (mP 2), some (mI n), some (mI (pcS A r).1), some (mI r)] [] (sv t 17 (glue n (glue r (pcS A r).2 A) f)) (fun a t' => a = some (mI (pcS A n).1) ∧ t' = sv t 17 (glue n (pcS A n).2 f)) := by
    refine up_ind (fun r hr ih h0 => ?_)
    have hpb := pcS_bound A n r h0
    have hps := pcS_succ A h0
    refine G_iload_n (pc := 4) dX1_countUp_4 rfl ?_
    refine G_iload_n (pc := 5) dX1_countUp_5 rfl ?_
    refine G_icmp_ge (pc := 6) (tgt := 49) dX1_countUp_6 rfl (fun h_6 => ?_) (fun h_6 => ?_)
    · have hrn : r = n := by omega
      subst hrn
      have e9 : glue r (glue r (pcS A r).2 A) f = glue r (pcS A r).2 f := glue_congr (fun j h1 h2 => glue_at ⟨h1, h2⟩)
      rw [e9]
      refine G_iload_n (pc := 49) dX1_countUp_49 rfl ?_
      exact G_ireturn (pc := 50) dX1_countUp_50 ⟨rfl, rfl⟩
    · have hAr := hL r h0 (by omega)
      have er : glue n (glue r (pcS A r).2 A) f r = A r := by rw [glue_at (by omega), glue_out (by omega)]
      refine G_aload_n (pc := 9) dX1_countUp_9 rfl ?_
      refine G_getP (pc := 10) dX1_countUp_10 fk_X1_9 rfl rfl rfl ?_
      refine G_iload_n (pc := 13) dX1_countUp_13 rfl ?_
      refine G_aload_n (pc := 14) dX1_countUp_14 rfl ?_
      refine G_getP (pc := 15) dX1_countUp_15 fk_X1_9 rfl rfl rfl ?_
      refine G_iload_n (pc := 18) dX1_countUp_18 rfl ?_
      refine G_iaload (pc := 19) dX1_countUp_19 rfl rfl (by omega) ?_
      try simp (disch := decide) only [su_ne, su_at, su_same, sv_ne, sv_at]
      rw [er]
      refine G_iload_n (pc := 20) dX1_countUp_20 rfl ?_
      refine G_icmp_ne (pc := 21) (tgt := 31) dX1_countUp_21 rfl (fun h_21 => ?_) (fun h_21 => ?_)
      · unfold pcStep at hps; rw [if_neg h_21] at hps
        have er2 : glue n (glue r (pcS A r).2 A) f (A r) = (pcS A r).2 (A r) := by rw [glue_at (by omega), glue_at (by omega)]
        refine G_aload_n (pc := 31) dX1_countUp_31 rfl ?_
        refine G_getP (pc := 32) dX1_countUp_32 fk_X1_9 rfl rfl rfl ?_
        refine G_aload_n (pc := 35) dX1_countUp_35 rfl ?_
        refine G_getP (pc := 36) dX1_countUp_36 fk_X1_9 rfl rfl rfl ?_
        refine G_iload_n (pc := 39) dX1_countUp_39 rfl ?_
        refine G_iaload (pc := 40) dX1_countUp_40 rfl rfl (by omega) ?_
        try simp (disch := decide) only [su_ne, su_at, su_same, sv_ne, sv_at]
        rw [er]
        refine G_iaload (pc := 41) dX1_countUp_41 rfl rfl (by omega) ?_
        try simp (disch := decide) only [su_ne, su_at, su_same, sv_ne, sv_at]
        refine G_iastore (pc := 42) dX1_countUp_42 rfl rfl (by omega) ?_
        refine G_iinc (pc := 43) dX1_countUp_43 rfl rfl (by omega) ?_
        refine G_goto (pc := 46) (tgt := 4) dX1_countUp_46 rfl ?_
        have h := ih (by omega) (by omega)
        rw [hps] at h
        rw [su_sv, sv_at, sv_sv, glue_fu (by omega)]
        first | (rw [er2, glue_step h0]; exact h) | (rw [glue_step h0]; exact h)
      · unfold pcStep at hps; rw [if_pos h_21] at hps
        refine G_iload_n (pc := 24) dX1_countUp_24 rfl ?_
        refine G_iinc (pc := 25) dX1_countUp_25 rfl rfl (by omega) ?_
        refine G_goto (pc := 28) (tgt := 42) dX1_countUp_28 rfl ?_
        refine G_iastore (pc := 42) dX1_countUp_42 rfl rfl (by omega) ?_
        refine G_iinc (pc := 43) dX1_countUp_43 rfl rfl (by omega) ?_
        refine G_goto (pc := 46) (tgt := 4) dX1_countUp_46 rfl ?_
        have h := ih (by omega) (by omega)
        rw [hps] at h
        rw [su_sv, sv_at, sv_sv, glue_fu (by omega)]
        first | (rw [er2, glue_step h0]; exact h) | (rw [glue_step h0]; exact h)
  refine G_iconst (pc := 0) dX1_countUp_0 (by decide) ?_
  refine G_istore_n (pc := 1) dX1_countUp_1 (Nat.le_of_ble_eq_true rfl) rfl ?_
  refine G_iconst (pc := 2) dX1_countUp_2 (by decide) ?_
  refine G_istore_n (pc := 3) dX1_countUp_3 (Nat.le_of_ble_eq_true rfl) rfl ?_
  have h := loop 0 (by omega) (by omega)
  have e0 : pcS A 0 = (0, fun _ => 0) := by unfold pcS; rw [itr_ge (by omega)]
  rw [e0, glue_0, ← hA, sv_id] at h
  exact h
theorem c_X1_find_1 (t : Sto) (hS : SC t) : CT yX1_find cX1_find 4 (some .int) 2 [mP 2, mP 1] t (fun a t' => a = some (mI (cntS (t 267 0) (t 272 0) (t 13) (t 15))) ∧ t' = sv t 17 (glue (t 267 0) (parS (t 267 0) (t 272 0) (t 13) (t 15)) (t 17))) := by
  refine CT_of rfl rfl (Nat.le_of_ble_eq_true rfl) (fun E ht has => ?_)
  have hb := hS.1
  have hL := LP_least (n := t 267 0) (k := t 272 0) (fr := t 13) (to := t 15) (by omega) (by omega) (fun l h0 h1 => ⟨(hS.2 l h0 h1).1, (hS.2 l h0 h1).2.1⟩)
  have loop2 : ∀ i, i ≤ t 267 0 → ∀ (u : Int → Int) (c : Int), 0 ≤ i → (c = 0 → passF (t 272 0) (t 13) (t 15) u = u) → itr (fun _ => passF (t 272 0) (t 13) (t 15)) i (t 267 0) u = leastS (t 267 0) (t 272 0) (t 13) (t 15) → G E cX1_find RX1 (some .int) 2 27 [some (mP 2), some (mP 1), some (mI c), some (mI i)] [] (sv t 17 (glue (t 267 0) u (t 17))) (fun a t' => a = some (mI (cntS (t 267 0) (t 272 0) (t 13) (t 15))) ∧ t' = sv t 17 (glue (t 267 0) (parS (t 267 0) (t 272 0) (t 13) (t 15)) (t 17))) := by
    refine up_ind (fun i hi ih u c h0 hc hX => ?_)
    have hend : u = leastS (t 267 0) (t 272 0) (t 13) (t 15) → G E cX1_find RX1 (some .int) 2 51 [some (mP 2), some (mP 1), some (mI c), some (mI i)] [] (sv t 17 (glue (t 267 0) u (t 17))) (fun a t' => a = some (mI (cntS (t 267 0) (t 272 0) (t 13) (t 15))) ∧ t' = sv t 17 (glue (t 267 0) (parS (t 267 0) (t 272 0) (t 13) (t 15)) (t 17))) := by
      intro hu
      subst hu
      refine G_aload_n (pc := 51) dX1_find_51 rfl ?_
      refine G_aload_n (pc := 52) dX1_find_52 rfl ?_
      refine G_getI (pc := 53) dX1_find_53 fk_X1_15 rfl rfl rfl ?_
      try simp (disch := decide) only [su_ne, su_at, su_same, sv_ne, sv_at]
      refine G_cV1 (pc := 56) (c_X1_countUp _ _ (_) (_) (by omega) (by exact sv_at _ _ _) (by exact hL)) dX1_find_56 ml_X1_25 rfl rfl rfl (by decide) (Nat.le_of_ble_eq_true rfl) ?_
      rw [sv_sv]
      exact G_ireturn (pc := 59) dX1_find_59 ⟨rfl, rfl⟩
    refine G_iload_n (pc := 27) dX1_find_27 rfl ?_
    refine G_aload_n (pc := 28) dX1_find_28 rfl ?_
    refine G_getI (pc := 29) dX1_find_29 fk_X1_15 rfl rfl rfl ?_
    try simp (disch := decide) only [su_ne, su_at, su_same, sv_ne, sv_at]
    refine G_icmp_ge (pc := 32) (tgt := 51) dX1_find_32 rfl (fun h_32 => ?_) (fun h_32 => ?_)
    · first | exact hend (by rw [← hX, itr_ge (by omega)]) | exact hend (by rw [← hX, itr_fix (hc h_36) i hi])
    · refine G_iload_n (pc := 35) dX1_find_35 rfl ?_
      refine G_if_eq (pc := 36) (tgt := 51) dX1_find_36 rfl (fun h_36 => ?_) (fun h_36 => ?_)
      · try simp only [bq0, ne_eq, Classical.not_not] at h_36
        first | exact hend (by rw [← hX, itr_ge (by omega)]) | exact hend (by rw [← hX, itr_fix (hc h_36) i hi])
      · try simp only [bq0, ne_eq, Classical.not_not] at h_36
        refine G_aload_n (pc := 39) dX1_find_39 rfl ?_
        refine G_aload_n (pc := 40) dX1_find_40 rfl ?_
        refine G_cVg1 (pc := 41) (c_X1_sinkToLeastRooms_1 _ u (t 17) (by exact SC_sv rfl hS) (by rw [sv_at, sv_ne (by decide)])) dX1_find_41 ml_X1_21 rfl rfl rfl (by decide) (Nat.le_of_ble_eq_true rfl) (fun r_41 t_41 hq_41 => ?_)
        simp (disch := decide) only [sv_ne, sv_at, sv_sv] at hq_41
        obtain ⟨hx01, hx0, rfl⟩ := hq_41
        refine G_istore_n (pc := 44) dX1_find_44 (Nat.le_of_ble_eq_true rfl) rfl ?_
        refine G_iinc (pc := 45) dX1_find_45 rfl rfl (by omega) ?_
        refine G_goto (pc := 48) (tgt := 27) dX1_find_48 rfl ?_
        refine ih (by omega) _ r_41 (by omega) (fun q => by rw [hx0 q]; exact hx0 q) ?_
        rw [← hX, itr_lt (l := i) (by omega)]
  have loop1 : ∀ r, r ≤ t 267 0 → ∀ o3 : Option MV, 0 ≤ r → G E cX1_find RX1 (some .int) 2 2 [some (mP 2), some (mP 1), some (mI r), o3] [] (sv t 17 (glue r (fun j => j) (t 17))) (fun a t' => a = some (mI (cntS (t 267 0) (t 272 0) (t 13) (t 15))) ∧ t' = sv t 17 (glue (t 267 0) (parS (t 267 0) (t 272 0) (t 13) (t 15)) (t 17))) := by
    refine up_ind (fun r hr ih o3 h0 => ?_)
    refine G_iload_n (pc := 2) dX1_find_2 rfl ?_
    refine G_aload_n (pc := 3) dX1_find_3 rfl ?_
    refine G_getI (pc := 4) dX1_find_4 fk_X1_15 rfl rfl rfl ?_
    try simp (disch := decide) only [su_ne, su_at, su_same, sv_ne, sv_at]
    refine G_icmp_ge (pc := 7) (tgt := 23) dX1_find_7 rfl (fun h_7 => ?_) (fun h_7 => ?_)
    · refine G_iconst (pc := 23) dX1_find_23 (by decide) ?_
      refine G_istore_n (pc := 24) dX1_find_24 (Nat.le_of_ble_eq_true rfl) rfl ?_
      refine G_iconst (pc := 25) dX1_find_25 (by decide) ?_
      refine G_istore_n (pc := 26) dX1_find_26 (Nat.le_of_ble_eq_true rfl) rfl ?_
      have hrn : r = t 267 0 := by omega
      subst hrn
      exact loop2 0 (by omega) _ 1 (by omega) (fun q => by omega) rfl
    · refine G_aload_n (pc := 10) dX1_find_10 rfl ?_
      refine G_getP (pc := 11) dX1_find_11 fk_X1_9 rfl rfl rfl ?_
      refine G_iload_n (pc := 14) dX1_find_14 rfl ?_
      refine G_iload_n (pc := 15) dX1_find_15 rfl ?_
      refine G_iastore (pc := 16) dX1_find_16 rfl rfl (by omega) ?_
      refine G_iinc (pc := 17) dX1_find_17 rfl rfl (by omega) ?_
      refine G_goto (pc := 20) (tgt := 2) dX1_find_20 rfl ?_
      rw [su_sv, sv_at, sv_sv, glue_succ h0]
      exact ih (by omega) _ (by omega)
  refine G_iconst (pc := 0) dX1_find_0 (by decide) ?_
  refine G_istore_n (pc := 1) dX1_find_1 (Nat.le_of_ble_eq_true rfl) rfl ?_
  have h := loop1 0 (by omega) none (by omega)
  rw [glue_0, sv_id] at h
  exact h
noncomputable def partR (n k : Int) (fr to : Int → Int) (r : Int) : Int := if 0 ≤ r ∧ r < n then parS n k fr to r else -1
theorem c_X8_part (t : Sto) (r : Int) (hS : SC t) : CT yX8_part cX8_part 2 (some .int) 3 [mP 0, mI r] t (fun a t' => ∃ x, a = some (mI x) ∧ (x = partR (t 267 0) (t 272 0) (t 13) (t 15) r ∧ ∃ f, t' = sv t 17 f)) := by
  refine CT_of rfl rfl (Nat.le_of_ble_eq_true rfl) (fun E ht has => ?_)
  have hb := hS.1
  refine G_aload_n (pc := 0) dX8_part_0 rfl ?_
  refine G_getP (pc := 1) dX8_part_1 fk_X8_10 rfl rfl rfl ?_
  refine G_iload_n (pc := 4) dX8_part_4 rfl ?_
  refine G_cV1 (pc := 5) (c_X5_isRoom _ _) dX8_part_5 ml_X8_69 rfl rfl rfl (by decide) (Nat.le_of_ble_eq_true rfl) ?_
  refine G_if_ne (pc := 8) (tgt := 13) dX8_part_8 rfl (fun h_8 => ?_) (fun h_8 => ?_)
  · try simp only [bq0, ne_eq, Classical.not_not] at h_8
    refine G_aload_n (pc := 13) dX8_part_13 rfl ?_
    refine G_getP (pc := 14) dX8_part_14 fk_X8_19 rfl rfl rfl ?_
    refine G_aload_n (pc := 17) dX8_part_17 rfl ?_
    refine G_getP (pc := 18) dX8_part_18 fk_X8_10 rfl rfl rfl ?_
    refine G_cV1 (pc := 21) (c_X1_find_1 _ (by exact hS)) dX8_part_21 ml_X8_133 rfl rfl rfl (by decide) (Nat.le_of_ble_eq_true rfl) ?_
    refine G_pop (pc := 24) dX8_part_24 rfl ?_
    refine G_aload_n (pc := 25) dX8_part_25 rfl ?_
    refine G_getP (pc := 26) dX8_part_26 fk_X8_19 rfl rfl rfl ?_
    refine G_getP (pc := 29) dX8_part_29 fk_X8_137 rfl rfl rfl ?_
    refine G_iload_n (pc := 32) dX8_part_32 rfl ?_
    refine G_iaload (pc := 33) dX8_part_33 rfl rfl (by omega) ?_
    try simp (disch := decide) only [su_ne, su_at, su_same, sv_ne, sv_at]
    rw [glue_at h_8]
    exact G_ireturn (pc := 34) dX8_part_34 ⟨_, rfl, by unfold partR; rw [if_pos h_8], _, rfl⟩
  · try simp only [bq0, ne_eq, Classical.not_not] at h_8
    refine G_iconst (pc := 11) dX8_part_11 (by decide) ?_
    exact G_ireturn (pc := 12) dX8_part_12 ⟨_, rfl, by unfold partR; rw [if_neg h_8], t 17, (sv_id t 17).symm⟩
