/-! PLACES: free places, distances, straight links -/
section SLR
variable {E : Ev} {cc : ByteArray} {own : String} {ret : Option FieldType} {d pc : Nat} {ls : List (Option MV)} {st : List MV} {t : Sto} {Q : Option MV → Sto → Prop}
def lineI (d : Int) : Int := ([124, 47, 45, 92, 124, 47, 45, 92] : List Int).getD d.toNat 0
theorem G_sl0 {i : Int} (hd : decode cc pc = .ok (.iaload, 1)) (hi : 0 ≤ i ∧ i ≤ 9) (kk : G E cc own ret d (pc + 1) ls (mI (oppI i) :: st) t Q) : G E cc own ret d pc ls (mI i :: mP 100 :: st) t Q :=
  G_sload (k := 0) (xs := [4, 5, 6, 7, 0, 1, 2, 3, 9, 8]) hd rfl rfl (by simp only [List.length_cons, List.length_nil]; omega) kk
theorem G_sl1 {i : Int} (hd : decode cc pc = .ok (.iaload, 1)) (hi : 0 ≤ i ∧ i ≤ 9) (kk : G E cc own ret d (pc + 1) ls (mI (eaI i) :: st) t Q) : G E cc own ret d pc ls (mI i :: mP 101 :: st) t Q :=
  G_sload (k := 1) (xs := [0, 1, 1, 1, 0, -1, -1, -1, 0, 0]) hd rfl rfl (by simp only [List.length_cons, List.length_nil]; omega) kk
theorem G_sl2 {i : Int} (hd : decode cc pc = .ok (.iaload, 1)) (hi : 0 ≤ i ∧ i ≤ 9) (kk : G E cc own ret d (pc + 1) ls (mI (soI i) :: st) t Q) : G E cc own ret d pc ls (mI i :: mP 102 :: st) t Q :=
  G_sload (k := 2) (xs := [-1, -1, 0, 1, 1, 1, 0, -1, 0, 0]) hd rfl rfl (by simp only [List.length_cons, List.length_nil]; omega) kk
theorem G_sl3 {i : Int} (hd : decode cc pc = .ok (.iaload, 1)) (hi : 0 ≤ i ∧ i ≤ 9) (kk : G E cc own ret d (pc + 1) ls (mI (riI i) :: st) t Q) : G E cc own ret d pc ls (mI i :: mP 103 :: st) t Q :=
  G_sload (k := 3) (xs := [0, 0, 0, 0, 0, 0, 0, 0, 1, -1]) hd rfl rfl (by simp only [List.length_cons, List.length_nil]; omega) kk
theorem G_sl4 {i : Int} (hd : decode cc pc = .ok (.iaload, 1)) (hi : 0 ≤ i ∧ i ≤ 7) (kk : G E cc own ret d (pc + 1) ls (mI (lineI i) :: st) t Q) : G E cc own ret d pc ls (mI i :: mP 104 :: st) t Q :=
  G_sload (k := 4) (xs := [124, 47, 45, 92, 124, 47, 45, 92]) hd rfl rfl (by simp only [List.length_cons, List.length_nil]; omega) kk
end SLR
def atP (ps xs ys ls : Int → Int) (x y l r : Int) : Prop := ps r ≠ 0 ∧ xs r = x ∧ ys r = y ∧ ls r = l
/-- the room at a place; -2 -/
noncomputable def atS (n : Int) (ps xs ys ls : Int → Int) (x y l : Int) : Int := fst (atP ps xs ys ls x y l) 0 n
def BD (f : Int → Int) : Prop := ∀ j, -1000000 ≤ f j ∧ f j ≤ 1000000
def dlS (xs ys : Int → Int) (a w b : Int) : Int := if eaI w = 0 then (ys b - ys a) * soI w else (xs b - xs a) * eaI w
/-- at which distance b lies by w from a; 0 -/
def distS (xs ys ls : Int → Int) (a w b : Int) : Int := if ls b - ls a ≠ riI w then 0 else if 8 ≤ w then (if xs b - xs a = 0 ∧ ys b - ys a = 0 then 1 else 0) else if 0 < dlS xs ys a w b ∧ dlS xs ys a w b ≤ 60 ∧ xs b - xs a = dlS xs ys a w b * eaI w ∧ ys b - ys a = dlS xs ys a w b * soI w then dlS xs ys a w b else 0
theorem distS_r (xs ys ls : Int → Int) (a w b : Int) : 0 ≤ distS xs ys ls a w b ∧ distS xs ys ls a w b ≤ 60 := by
  unfold distS
  split
  · omega
  · split
    · split <;> omega
    · split <;> omega
def nearP (ps xs ys ls : Int → Int) (a w d r : Int) : Prop := ps r ≠ 0 ∧ 0 < distS xs ys ls a w r ∧ distS xs ys ls a w r < d
/-- the d of a straight link; 0 -/
noncomputable def strS (n : Int) (ps xs ys ls : Int → Int) (a w b : Int) : Int := if 1 < distS xs ys ls a w b ∧ 0 ≤ fst (nearP ps xs ys ls a w (distS xs ys ls a w b)) 0 n then 0 else distS xs ys ls a w b
theorem strS_r (n : Int) (ps xs ys ls : Int → Int) (a w b : Int) : 0 ≤ strS n ps xs ys ls a w b ∧ strS n ps xs ys ls a w b ≤ 60 := by
  have := distS_r xs ys ls a w b
  unfold strS
  split <;> omega
theorem mul_r {x e : Int} {B : Int} (he : e = -1 ∨ e = 0 ∨ e = 1) (hx : -B ≤ x ∧ x ≤ B) : -B ≤ x * e ∧ x * e ≤ B := by
  rcases he with h | h | h <;> rw [h] <;> omega
theorem c_X2_clear_3 (t : Sto) (hn : 0 ≤ t 267 0 ∧ t 267 0 ≤ 24) : CT yX2_clear cX2_clear 2 none 0 [mP 3] t (fun a t' => a = none ∧ t' = sv t 21 (glue (t 267 0) (fun _ => 0) (t 21))) := by
  refine CT_of rfl rfl (Nat.le_of_ble_eq_true rfl) (fun E ht has => ?_)
  have loop : ∀ r, r ≤ t 267 0 → 0 ≤ r → G E cX2_clear RX2 none 0 2 [some (mP 3), some (mI r)] [] (sv t 21 (glue r (fun _ => 0) (t 21))) (fun a t' => a = none ∧ t' = sv t 21 (glue (t 267 0) (fun _ => 0) (t 21))) := by
    refine up_ind (fun r hr ih h0 => ?_)
    refine G_iload_n (pc := 2) dX2_clear_2 rfl ?_
    refine G_aload_n (pc := 3) dX2_clear_3 rfl ?_
    refine G_getP (pc := 4) dX2_clear_4 fk_X2_25 rfl rfl rfl ?_
    refine G_getI (pc := 7) dX2_clear_7 fk_X2_29 rfl rfl rfl ?_
    try simp (disch := decide) only [su_ne, su_at, su_same, sv_ne, sv_at]
    refine G_icmp_ge (pc := 10) (tgt := 26) dX2_clear_10 rfl (fun h_10 => ?_) (fun h_10 => ?_)
    · have hrn : r = t 267 0 := by omega
      subst hrn
      exact G_return (pc := 26) dX2_clear_26 ⟨rfl, rfl⟩
    · refine G_aload_n (pc := 13) dX2_clear_13 rfl ?_
      refine G_getP (pc := 14) dX2_clear_14 fk_X2_21 rfl rfl rfl ?_
      refine G_iload_n (pc := 17) dX2_clear_17 rfl ?_
      refine G_iconst (pc := 18) dX2_clear_18 (by decide) ?_
      refine G_bastore (pc := 19) dX2_clear_19 rfl rfl (by omega) (by first | exact Or.inl rfl | exact Or.inr rfl | omega) ?_
      refine G_iinc (pc := 20) dX2_clear_20 rfl rfl (by omega) ?_
      refine G_goto (pc := 23) (tgt := 2) dX2_clear_23 rfl ?_
      rw [su_sv, sv_at, sv_sv, glue_succ h0 (fun _ => 0)]
      exact ih (by omega) (by omega)
  refine G_iconst (pc := 0) dX2_clear_0 (by decide) ?_
  refine G_istore_n (pc := 1) dX2_clear_1 (Nat.le_of_ble_eq_true rfl) rfl ?_
  have h := loop 0 (by omega) (by omega)
  rw [glue_0, sv_id] at h
  exact h
def putC_3 (t : Sto) (r x y l : Int) : Sto := su (su (su (su t 18 r x) 19 r y) 20 r l) 21 r 1
theorem c_X2_put_3 (t : Sto) (r x y l : Int) (hr : 0 ≤ r ∧ r < 24) : CT yX2_put cX2_put 5 none 0 [mP 3, mI r, mI x, mI y, mI l] t (fun a t' => a = none ∧ t' = putC_3 t r x y l) := by
  refine CT_of rfl rfl (Nat.le_of_ble_eq_true rfl) (fun E ht has => ?_)
  refine G_aload_n (pc := 0) dX2_put_0 rfl ?_
  refine G_getP (pc := 1) dX2_put_1 fk_X2_11 rfl rfl rfl ?_
  refine G_iload_n (pc := 4) dX2_put_4 rfl ?_
  refine G_iload_n (pc := 5) dX2_put_5 rfl ?_
  refine G_iastore (pc := 6) dX2_put_6 rfl rfl (by omega) ?_
  refine G_aload_n (pc := 7) dX2_put_7 rfl ?_
  refine G_getP (pc := 8) dX2_put_8 fk_X2_15 rfl rfl rfl ?_
  refine G_iload_n (pc := 11) dX2_put_11 rfl ?_
  refine G_iload_n (pc := 12) dX2_put_12 rfl ?_
  refine G_iastore (pc := 13) dX2_put_13 rfl rfl (by omega) ?_
  refine G_aload_n (pc := 14) dX2_put_14 rfl ?_
  refine G_getP (pc := 15) dX2_put_15 fk_X2_18 rfl rfl rfl ?_
  refine G_iload_n (pc := 18) dX2_put_18 rfl ?_
  refine G_iload (pc := 19) dX2_put_19 rfl ?_
  refine G_iastore (pc := 21) dX2_put_21 rfl rfl (by omega) ?_
  refine G_aload_n (pc := 22) dX2_put_22 rfl ?_
  refine G_getP (pc := 23) dX2_put_23 fk_X2_21 rfl rfl rfl ?_
  refine G_iload_n (pc := 26) dX2_put_26 rfl ?_
  refine G_iconst (pc := 27) dX2_put_27 (by decide) ?_
  refine G_bastore (pc := 28) dX2_put_28 rfl rfl (by omega) (by first | exact Or.inl rfl | exact Or.inr rfl | omega) ?_
  exact G_return (pc := 29) dX2_put_29 ⟨rfl, rfl⟩
theorem c_X2_lift_3 (t : Sto) (r : Int) (hr : 0 ≤ r ∧ r < 24) : CT yX2_lift cX2_lift 2 none 0 [mP 3, mI r] t (fun a t' => a = none ∧ t' = su t 21 r 0) := by
  refine CT_of rfl rfl (Nat.le_of_ble_eq_true rfl) (fun E ht has => ?_)
  refine G_aload_n (pc := 0) dX2_lift_0 rfl ?_
  refine G_getP (pc := 1) dX2_lift_1 fk_X2_21 rfl rfl rfl ?_
  refine G_iload_n (pc := 4) dX2_lift_4 rfl ?_
  refine G_iconst (pc := 5) dX2_lift_5 (by decide) ?_
  refine G_bastore (pc := 6) dX2_lift_6 rfl rfl (by omega) (by first | exact Or.inl rfl | exact Or.inr rfl | omega) ?_
  exact G_return (pc := 7) dX2_lift_7 ⟨rfl, rfl⟩
theorem c_X2_isFree_3 (t : Sto) (x y l : Int) (hn : 0 ≤ t 267 0 ∧ t 267 0 ≤ 24) : CT yX2_isFree cX2_isFree 5 (some .boolean) 0 [mP 3, mI x, mI y, mI l] t (fun a t' => a = some (mI (if atS (t 267 0) (t 21) (t 18) (t 19) (t 20) x y l < 0 then 1 else 0)) ∧ t' = t) := by
  refine CT_of rfl rfl (Nat.le_of_ble_eq_true rfl) (fun E ht has => ?_)
  have loop : ∀ r, r ≤ t 267 0 → 0 ≤ r → fst (atP (t 21) (t 18) (t 19) (t 20) x y l) r (t 267 0) = atS (t 267 0) (t 21) (t 18) (t 19) (t 20) x y l → G E cX2_isFree RX2 (some .boolean) 0 3 [some (mP 3), some (mI x), some (mI y), some (mI l), some (mI r)] [] t (fun a t' => a = some (mI (if atS (t 267 0) (t 21) (t 18) (t 19) (t 20) x y l < 0 then 1 else 0)) ∧ t' = t) := by
    refine up_ind (fun r hr ih h0 hX => ?_)
    refine G_iload (pc := 3) dX2_isFree_3 rfl ?_
    refine G_aload_n (pc := 5) dX2_isFree_5 rfl ?_
    refine G_getP (pc := 6) dX2_isFree_6 fk_X2_25 rfl rfl rfl ?_
    refine G_getI (pc := 9) dX2_isFree_9 fk_X2_29 rfl rfl rfl ?_
    refine G_icmp_ge (pc := 12) (tgt := 66) dX2_isFree_12 rfl (fun h_12 => ?_) (fun h_12 => ?_)
    · refine G_iconst (pc := 66) dX2_isFree_66 (by decide) ?_
      exact G_zreturn (pc := 67) dX2_isFree_67 (by first | exact Or.inl rfl | exact Or.inr rfl | omega | (split <;> first | exact Or.inl rfl | exact Or.inr rfl)) (qeq (by rw [fst_ge (by omega)] at hX; rw [← hX, if_pos (by omega)]))
    · refine G_aload_n (pc := 15) dX2_isFree_15 rfl ?_
      refine G_getP (pc := 16) dX2_isFree_16 fk_X2_21 rfl rfl rfl ?_
      refine G_iload (pc := 19) dX2_isFree_19 rfl ?_
      refine G_baload (pc := 21) dX2_isFree_21 rfl rfl (by omega) ?_
      refine G_if_eq (pc := 22) (tgt := 60) dX2_isFree_22 rfl (fun h_22 => ?_) (fun h_22 => ?_)
      · try simp only [bq0, ne_eq, Classical.not_not] at h_22
        refine G_iinc (pc := 60) dX2_isFree_60 rfl rfl (by omega) ?_
        refine G_goto (pc := 63) (tgt := 3) dX2_isFree_63 rfl ?_
        exact ih (by omega) (by omega) ((fst_neg (by omega) (by unfold atP; omega)).symm.trans hX)
      · try simp only [bq0, ne_eq, Classical.not_not] at h_22
        refine G_aload_n (pc := 25) dX2_isFree_25 rfl ?_
        refine G_getP (pc := 26) dX2_isFree_26 fk_X2_11 rfl rfl rfl ?_
        refine G_iload (pc := 29) dX2_isFree_29 rfl ?_
        refine G_iaload (pc := 31) dX2_isFree_31 rfl rfl (by omega) ?_
        refine G_iload_n (pc := 32) dX2_isFree_32 rfl ?_
        refine G_icmp_ne (pc := 33) (tgt := 60) dX2_isFree_33 rfl (fun h_33 => ?_) (fun h_33 => ?_)
        · refine G_iinc (pc := 60) dX2_isFree_60 rfl rfl (by omega) ?_
          refine G_goto (pc := 63) (tgt := 3) dX2_isFree_63 rfl ?_
          exact ih (by omega) (by omega) ((fst_neg (by omega) (by unfold atP; omega)).symm.trans hX)
        · refine G_aload_n (pc := 36) dX2_isFree_36 rfl ?_
          refine G_getP (pc := 37) dX2_isFree_37 fk_X2_15 rfl rfl rfl ?_
          refine G_iload (pc := 40) dX2_isFree_40 rfl ?_
          refine G_iaload (pc := 42) dX2_isFree_42 rfl rfl (by omega) ?_
          refine G_iload_n (pc := 43) dX2_isFree_43 rfl ?_
          refine G_icmp_ne (pc := 44) (tgt := 60) dX2_isFree_44 rfl (fun h_44 => ?_) (fun h_44 => ?_)
          · refine G_iinc (pc := 60) dX2_isFree_60 rfl rfl (by omega) ?_
            refine G_goto (pc := 63) (tgt := 3) dX2_isFree_63 rfl ?_
            exact ih (by omega) (by omega) ((fst_neg (by omega) (by unfold atP; omega)).symm.trans hX)
          · refine G_aload_n (pc := 47) dX2_isFree_47 rfl ?_
            refine G_getP (pc := 48) dX2_isFree_48 fk_X2_18 rfl rfl rfl ?_
            refine G_iload (pc := 51) dX2_isFree_51 rfl ?_
            refine G_iaload (pc := 53) dX2_isFree_53 rfl rfl (by omega) ?_
            refine G_iload_n (pc := 54) dX2_isFree_54 rfl ?_
            refine G_icmp_ne (pc := 55) (tgt := 60) dX2_isFree_55 rfl (fun h_55 => ?_) (fun h_55 => ?_)
            · refine G_iinc (pc := 60) dX2_isFree_60 rfl rfl (by omega) ?_
              refine G_goto (pc := 63) (tgt := 3) dX2_isFree_63 rfl ?_
              exact ih (by omega) (by omega) ((fst_neg (by omega) (by unfold atP; omega)).symm.trans hX)
            · refine G_iconst (pc := 58) dX2_isFree_58 (by decide) ?_
              exact G_zreturn (pc := 59) dX2_isFree_59 (by first | exact Or.inl rfl | exact Or.inr rfl | omega | (split <;> first | exact Or.inl rfl | exact Or.inr rfl)) (qeq (by rw [fst_pos (by omega) (by unfold atP; exact ⟨h_22, h_33, h_44, h_55⟩)] at hX; rw [← hX, if_neg (by omega)]))
  refine G_iconst (pc := 0) dX2_isFree_0 (by decide) ?_
  refine G_istore (pc := 1) dX2_isFree_1 (Nat.le_of_ble_eq_true rfl) rfl ?_
  exact loop 0 (by omega) (by omega) rfl
theorem c_X2_hasBothEnds_3 (t : Sto) (l : Int) (hS : SC t) (hl : 0 ≤ l ∧ l < t 272 0) : CT yX2_hasBothEnds cX2_hasBothEnds 2 (some .boolean) 0 [mP 3, mI l] t (fun a t' => a = some (mI (if t 21 (t 13 l) ≠ 0 ∧ t 21 (t 15 l) ≠ 0 then 1 else 0)) ∧ t' = t) := by
  refine CT_of rfl rfl (Nat.le_of_ble_eq_true rfl) (fun E ht has => ?_)
  have hb := hS.1
  obtain ⟨hfr, hto, -, -⟩ := hS.2 l hl.1 hl.2
  refine G_aload_n (pc := 0) dX2_hasBothEnds_0 rfl ?_
  refine G_getP (pc := 1) dX2_hasBothEnds_1 fk_X2_21 rfl rfl rfl ?_
  refine G_aload_n (pc := 4) dX2_hasBothEnds_4 rfl ?_
  refine G_getP (pc := 5) dX2_hasBothEnds_5 fk_X2_25 rfl rfl rfl ?_
  refine G_getP (pc := 8) dX2_hasBothEnds_8 fk_X2_35 rfl rfl rfl ?_
  refine G_iload_n (pc := 11) dX2_hasBothEnds_11 rfl ?_
  refine G_iaload (pc := 12) dX2_hasBothEnds_12 rfl rfl (by omega) ?_
  refine G_baload (pc := 13) dX2_hasBothEnds_13 rfl rfl (by omega) ?_
  refine G_if_eq (pc := 14) (tgt := 38) dX2_hasBothEnds_14 rfl (fun h_14 => ?_) (fun h_14 => ?_)
  · try simp only [bq0, ne_eq, Classical.not_not] at h_14
    refine G_iconst (pc := 38) dX2_hasBothEnds_38 (by decide) ?_
    exact G_zreturn (pc := 39) dX2_hasBothEnds_39 (by first | exact Or.inl rfl | exact Or.inr rfl | omega | (split <;> first | exact Or.inl rfl | exact Or.inr rfl)) (qeq (by grind))
  · try simp only [bq0, ne_eq, Classical.not_not] at h_14
    refine G_aload_n (pc := 17) dX2_hasBothEnds_17 rfl ?_
    refine G_getP (pc := 18) dX2_hasBothEnds_18 fk_X2_21 rfl rfl rfl ?_
    refine G_aload_n (pc := 21) dX2_hasBothEnds_21 rfl ?_
    refine G_getP (pc := 22) dX2_hasBothEnds_22 fk_X2_25 rfl rfl rfl ?_
    refine G_getP (pc := 25) dX2_hasBothEnds_25 fk_X2_38 rfl rfl rfl ?_
    refine G_iload_n (pc := 28) dX2_hasBothEnds_28 rfl ?_
    refine G_iaload (pc := 29) dX2_hasBothEnds_29 rfl rfl (by omega) ?_
    refine G_baload (pc := 30) dX2_hasBothEnds_30 rfl rfl (by omega) ?_
    refine G_if_eq (pc := 31) (tgt := 38) dX2_hasBothEnds_31 rfl (fun h_31 => ?_) (fun h_31 => ?_)
    · try simp only [bq0, ne_eq, Classical.not_not] at h_31
      refine G_iconst (pc := 38) dX2_hasBothEnds_38 (by decide) ?_
      exact G_zreturn (pc := 39) dX2_hasBothEnds_39 (by first | exact Or.inl rfl | exact Or.inr rfl | omega | (split <;> first | exact Or.inl rfl | exact Or.inr rfl)) (qeq (by grind))
    · try simp only [bq0, ne_eq, Classical.not_not] at h_31
      refine G_iconst (pc := 34) dX2_hasBothEnds_34 (by decide) ?_
      refine G_goto (pc := 35) (tgt := 39) dX2_hasBothEnds_35 rfl ?_
      exact G_zreturn (pc := 39) dX2_hasBothEnds_39 (by first | exact Or.inl rfl | exact Or.inr rfl | omega | (split <;> first | exact Or.inl rfl | exact Or.inr rfl)) (qeq (by grind))
set_option maxHeartbeats 1000000 in
theorem c_X2_distance_3 (t : Sto) (a w b : Int) (ha : 0 ≤ a ∧ a < 24) (hw : 0 ≤ w ∧ w ≤ 9) (hb : 0 ≤ b ∧ b < 24) (hX : BD (t 18)) (hY : BD (t 19)) (hL : BD (t 20)) : CT yX2_distance cX2_distance 8 (some .int) 0 [mP 3, mI a, mI w, mI b] t (fun r t' => r = some (mI (distS (t 18) (t 19) (t 20) a w b)) ∧ t' = t) := by
  refine CT_of rfl rfl (Nat.le_of_ble_eq_true rfl) (fun E ht has => ?_)
  have hxa := hX a
  have hxb := hX b
  have hya := hY a
  have hyb := hY b
  have hla := hL a
  have hlb := hL b
  have hdx := mul_r (x := t 18 b - t 18 a) (B := 2000000) (eaI_r hw) (by omega)
  have hdy := mul_r (x := t 19 b - t 19 a) (B := 2000000) (soI_r hw) (by omega)
  refine G_aload_n (pc := 0) dX2_distance_0 rfl ?_
  refine G_getP (pc := 1) dX2_distance_1 fk_X2_11 rfl rfl rfl ?_
  refine G_iload_n (pc := 4) dX2_distance_4 rfl ?_
  refine G_iaload (pc := 5) dX2_distance_5 rfl rfl (by omega) ?_
  refine G_aload_n (pc := 6) dX2_distance_6 rfl ?_
  refine G_getP (pc := 7) dX2_distance_7 fk_X2_11 rfl rfl rfl ?_
  refine G_iload_n (pc := 10) dX2_distance_10 rfl ?_
  refine G_iaload (pc := 11) dX2_distance_11 rfl rfl (by omega) ?_
  refine G_isub (pc := 12) dX2_distance_12 (by omega) ?_
  refine G_istore (pc := 13) dX2_distance_13 (Nat.le_of_ble_eq_true rfl) rfl ?_
  refine G_aload_n (pc := 15) dX2_distance_15 rfl ?_
  refine G_getP (pc := 16) dX2_distance_16 fk_X2_15 rfl rfl rfl ?_
  refine G_iload_n (pc := 19) dX2_distance_19 rfl ?_
  refine G_iaload (pc := 20) dX2_distance_20 rfl rfl (by omega) ?_
  refine G_aload_n (pc := 21) dX2_distance_21 rfl ?_
  refine G_getP (pc := 22) dX2_distance_22 fk_X2_15 rfl rfl rfl ?_
  refine G_iload_n (pc := 25) dX2_distance_25 rfl ?_
  refine G_iaload (pc := 26) dX2_distance_26 rfl rfl (by omega) ?_
  refine G_isub (pc := 27) dX2_distance_27 (by omega) ?_
  refine G_istore (pc := 28) dX2_distance_28 (Nat.le_of_ble_eq_true rfl) rfl ?_
  refine G_aload_n (pc := 30) dX2_distance_30 rfl ?_
  refine G_getP (pc := 31) dX2_distance_31 fk_X2_18 rfl rfl rfl ?_
  refine G_iload_n (pc := 34) dX2_distance_34 rfl ?_
  refine G_iaload (pc := 35) dX2_distance_35 rfl rfl (by omega) ?_
  refine G_aload_n (pc := 36) dX2_distance_36 rfl ?_
  refine G_getP (pc := 37) dX2_distance_37 fk_X2_18 rfl rfl rfl ?_
  refine G_iload_n (pc := 40) dX2_distance_40 rfl ?_
  refine G_iaload (pc := 41) dX2_distance_41 rfl rfl (by omega) ?_
  refine G_isub (pc := 42) dX2_distance_42 (by omega) ?_
  refine G_getstatic (pc := 43) dX2_distance_43 sk_X2_76 ?_
  refine G_iload_n (pc := 46) dX2_distance_46 rfl ?_
  refine G_sl3 (pc := 47) dX2_distance_47 (by omega) ?_
  refine G_icmp_eq (pc := 48) (tgt := 53) dX2_distance_48 rfl (fun h_48 => ?_) (fun h_48 => ?_)
  · refine G_iload_n (pc := 53) dX2_distance_53 rfl ?_
    refine G_bipush (pc := 54) (x := 8) dX2_distance_54 rfl (by decide) ?_
    refine G_icmp_lt (pc := 56) (tgt := 75) dX2_distance_56 rfl (fun h_56 => ?_) (fun h_56 => ?_)
    · refine G_join (pc := 75) (P := fun v => v = dlS (t 18) (t 19) a w b) 102 (fun v_102 hv_102 => ?_) (fun j_102 => ?_)
      · refine G_istore (pc := 102) dX2_distance_102 (Nat.le_of_ble_eq_true rfl) rfl ?_
        refine G_iload (pc := 104) dX2_distance_104 rfl ?_
        refine G_if_le (pc := 106) (tgt := 146) dX2_distance_106 rfl (fun h_106 => ?_) (fun h_106 => ?_)
        · refine G_iconst (pc := 146) dX2_distance_146 (by decide) ?_
          refine G_istore (pc := 147) dX2_distance_147 (Nat.le_of_ble_eq_true rfl) rfl ?_
          refine G_iload (pc := 149) dX2_distance_149 rfl ?_
          refine G_if_eq (pc := 151) (tgt := 159) dX2_distance_151 rfl (fun h_151 => ?_) (fun h_151 => ?_)
          · try simp only [bq0, ne_eq, Classical.not_not] at h_151
            refine G_iconst (pc := 159) dX2_distance_159 (by decide) ?_
            exact G_ireturn (pc := 160) dX2_distance_160 (qeq (by unfold distS; grind))
          · try simp only [bq0, ne_eq, Classical.not_not] at h_151
            refine G_iload (pc := 154) dX2_distance_154 rfl ?_
            refine G_goto (pc := 156) (tgt := 160) dX2_distance_156 rfl ?_
            exact G_ireturn (pc := 160) dX2_distance_160 (qeq (by unfold distS; grind))
        · refine G_iload (pc := 109) dX2_distance_109 rfl ?_
          refine G_bipush (pc := 111) (x := 60) dX2_distance_111 rfl (by decide) ?_
          refine G_icmp_gt (pc := 113) (tgt := 146) dX2_distance_113 rfl (fun h_113 => ?_) (fun h_113 => ?_)
          · refine G_iconst (pc := 146) dX2_distance_146 (by decide) ?_
            refine G_istore (pc := 147) dX2_distance_147 (Nat.le_of_ble_eq_true rfl) rfl ?_
            refine G_iload (pc := 149) dX2_distance_149 rfl ?_
            refine G_if_eq (pc := 151) (tgt := 159) dX2_distance_151 rfl (fun h_151 => ?_) (fun h_151 => ?_)
            · try simp only [bq0, ne_eq, Classical.not_not] at h_151
              refine G_iconst (pc := 159) dX2_distance_159 (by decide) ?_
              exact G_ireturn (pc := 160) dX2_distance_160 (qeq (by unfold distS; grind))
            · try simp only [bq0, ne_eq, Classical.not_not] at h_151
              refine G_iload (pc := 154) dX2_distance_154 rfl ?_
              refine G_goto (pc := 156) (tgt := 160) dX2_distance_156 rfl ?_
              exact G_ireturn (pc := 160) dX2_distance_160 (qeq (by unfold distS; grind))
          · refine G_iload (pc := 116) dX2_distance_116 rfl ?_
            refine G_iload (pc := 118) dX2_distance_118 rfl ?_
            refine G_getstatic (pc := 120) dX2_distance_120 sk_X2_79 ?_
            refine G_iload_n (pc := 123) dX2_distance_123 rfl ?_
            refine G_sl1 (pc := 124) dX2_distance_124 (by omega) ?_
            refine G_imul (pc := 125) dX2_distance_125 (by have := mul_r (x := v_102) (B := 60) (eaI_r hw) (by omega); omega) ?_
            refine G_icmp_ne (pc := 126) (tgt := 146) dX2_distance_126 rfl (fun h_126 => ?_) (fun h_126 => ?_)
            · refine G_iconst (pc := 146) dX2_distance_146 (by decide) ?_
              refine G_istore (pc := 147) dX2_distance_147 (Nat.le_of_ble_eq_true rfl) rfl ?_
              refine G_iload (pc := 149) dX2_distance_149 rfl ?_
              refine G_if_eq (pc := 151) (tgt := 159) dX2_distance_151 rfl (fun h_151 => ?_) (fun h_151 => ?_)
              · try simp only [bq0, ne_eq, Classical.not_not] at h_151
                refine G_iconst (pc := 159) dX2_distance_159 (by decide) ?_
                exact G_ireturn (pc := 160) dX2_distance_160 (qeq (by unfold distS; grind))
              · try simp only [bq0, ne_eq, Classical.not_not] at h_151
                refine G_iload (pc := 154) dX2_distance_154 rfl ?_
                refine G_goto (pc := 156) (tgt := 160) dX2_distance_156 rfl ?_
                exact G_ireturn (pc := 160) dX2_distance_160 (qeq (by unfold distS; grind))
            · refine G_iload (pc := 129) dX2_distance_129 rfl ?_
              refine G_iload (pc := 131) dX2_distance_131 rfl ?_
              refine G_getstatic (pc := 133) dX2_distance_133 sk_X2_82 ?_
              refine G_iload_n (pc := 136) dX2_distance_136 rfl ?_
              refine G_sl2 (pc := 137) dX2_distance_137 (by omega) ?_
              refine G_imul (pc := 138) dX2_distance_138 (by have := mul_r (x := v_102) (B := 60) (soI_r hw) (by omega); omega) ?_
              refine G_icmp_ne (pc := 139) (tgt := 146) dX2_distance_139 rfl (fun h_139 => ?_) (fun h_139 => ?_)
              · refine G_iconst (pc := 146) dX2_distance_146 (by decide) ?_
                refine G_istore (pc := 147) dX2_distance_147 (Nat.le_of_ble_eq_true rfl) rfl ?_
                refine G_iload (pc := 149) dX2_distance_149 rfl ?_
                refine G_if_eq (pc := 151) (tgt := 159) dX2_distance_151 rfl (fun h_151 => ?_) (fun h_151 => ?_)
                · try simp only [bq0, ne_eq, Classical.not_not] at h_151
                  refine G_iconst (pc := 159) dX2_distance_159 (by decide) ?_
                  exact G_ireturn (pc := 160) dX2_distance_160 (qeq (by unfold distS; grind))
                · try simp only [bq0, ne_eq, Classical.not_not] at h_151
                  refine G_iload (pc := 154) dX2_distance_154 rfl ?_
                  refine G_goto (pc := 156) (tgt := 160) dX2_distance_156 rfl ?_
                  exact G_ireturn (pc := 160) dX2_distance_160 (qeq (by unfold distS; grind))
              · refine G_iconst (pc := 142) dX2_distance_142 (by decide) ?_
                refine G_goto (pc := 143) (tgt := 147) dX2_distance_143 rfl ?_
                refine G_istore (pc := 147) dX2_distance_147 (Nat.le_of_ble_eq_true rfl) rfl ?_
                refine G_iload (pc := 149) dX2_distance_149 rfl ?_
                refine G_if_eq (pc := 151) (tgt := 159) dX2_distance_151 rfl (fun h_151 => ?_) (fun h_151 => ?_)
                · try simp only [bq0, ne_eq, Classical.not_not] at h_151
                  refine G_iconst (pc := 159) dX2_distance_159 (by decide) ?_
                  exact G_ireturn (pc := 160) dX2_distance_160 (qeq (by unfold distS; grind))
                · try simp only [bq0, ne_eq, Classical.not_not] at h_151
                  refine G_iload (pc := 154) dX2_distance_154 rfl ?_
                  refine G_goto (pc := 156) (tgt := 160) dX2_distance_156 rfl ?_
                  exact G_ireturn (pc := 160) dX2_distance_160 (qeq (by unfold distS; grind))
      · refine G_getstatic (pc := 75) dX2_distance_75 sk_X2_79 ?_
        refine G_iload_n (pc := 78) dX2_distance_78 rfl ?_
        refine G_sl1 (pc := 79) dX2_distance_79 (by omega) ?_
        refine G_if_eq (pc := 80) (tgt := 94) dX2_distance_80 rfl (fun h_80 => ?_) (fun h_80 => ?_)
        · try simp only [bq0, ne_eq, Classical.not_not] at h_80
          refine G_iload (pc := 94) dX2_distance_94 rfl ?_
          refine G_getstatic (pc := 96) dX2_distance_96 sk_X2_82 ?_
          refine G_iload_n (pc := 99) dX2_distance_99 rfl ?_
          refine G_sl2 (pc := 100) dX2_distance_100 (by omega) ?_
          refine G_imul (pc := 101) dX2_distance_101 (by omega) ?_
          exact j_102 _ (by unfold dlS; grind)
        · try simp only [bq0, ne_eq, Classical.not_not] at h_80
          refine G_iload (pc := 83) dX2_distance_83 rfl ?_
          refine G_getstatic (pc := 85) dX2_distance_85 sk_X2_79 ?_
          refine G_iload_n (pc := 88) dX2_distance_88 rfl ?_
          refine G_sl1 (pc := 89) dX2_distance_89 (by omega) ?_
          refine G_imul (pc := 90) dX2_distance_90 (by omega) ?_
          refine G_goto (pc := 91) (tgt := 102) dX2_distance_91 rfl ?_
          exact j_102 _ (by unfold dlS; grind)
    · refine G_iload (pc := 59) dX2_distance_59 rfl ?_
      refine G_if_ne (pc := 61) (tgt := 73) dX2_distance_61 rfl (fun h_61 => ?_) (fun h_61 => ?_)
      · try simp only [bq0, ne_eq, Classical.not_not] at h_61
        refine G_iconst (pc := 73) dX2_distance_73 (by decide) ?_
        exact G_ireturn (pc := 74) dX2_distance_74 (qeq (by unfold distS; grind))
      · try simp only [bq0, ne_eq, Classical.not_not] at h_61
        refine G_iload (pc := 64) dX2_distance_64 rfl ?_
        refine G_if_ne (pc := 66) (tgt := 73) dX2_distance_66 rfl (fun h_66 => ?_) (fun h_66 => ?_)
        · try simp only [bq0, ne_eq, Classical.not_not] at h_66
          refine G_iconst (pc := 73) dX2_distance_73 (by decide) ?_
          exact G_ireturn (pc := 74) dX2_distance_74 (qeq (by unfold distS; grind))
        · try simp only [bq0, ne_eq, Classical.not_not] at h_66
          refine G_iconst (pc := 69) dX2_distance_69 (by decide) ?_
          refine G_goto (pc := 70) (tgt := 74) dX2_distance_70 rfl ?_
          exact G_ireturn (pc := 74) dX2_distance_74 (qeq (by unfold distS; grind))
  · refine G_iconst (pc := 51) dX2_distance_51 (by decide) ?_
    exact G_ireturn (pc := 52) dX2_distance_52 (qeq (by unfold distS; grind))
theorem c_X2_straightLength_3 (t : Sto) (l : Int) (hS : SC t) (hl : 0 ≤ l ∧ l < t 272 0) (hX : BD (t 18)) (hY : BD (t 19)) (hL : BD (t 20)) : CT yX2_straightLength cX2_straightLength 7 (some .int) 1 [mP 3, mI l] t (fun a t' => a = some (mI (strS (t 267 0) (t 21) (t 18) (t 19) (t 20) (t 13 l) (t 14 l) (t 15 l))) ∧ t' = t) := by
  refine CT_of rfl rfl (Nat.le_of_ble_eq_true rfl) (fun E ht has => ?_)
  have hb := hS.1
  obtain ⟨hfr, hto, hdi, -⟩ := hS.2 l hl.1 hl.2
  obtain ⟨d, hd⟩ : ∃ d, d = distS (t 18) (t 19) (t 20) (t 13 l) (t 14 l) (t 15 l) := ⟨_, rfl⟩
  obtain ⟨res, hres⟩ : ∃ res, res = strS (t 267 0) (t 21) (t 18) (t 19) (t 20) (t 13 l) (t 14 l) (t 15 l) := ⟨_, rfl⟩
  have hres2 := hres
  unfold strS at hres2
  rw [← hd] at hres2
  rw [← hres]
  have loop : ∀ r, r ≤ t 267 0 → ∀ o6 : Option MV, 0 ≤ r → fst (nearP (t 21) (t 18) (t 19) (t 20) (t 13 l) (t 14 l) d) r (t 267 0) = fst (nearP (t 21) (t 18) (t 19) (t 20) (t 13 l) (t 14 l) d) 0 (t 267 0) → G E cX2_straightLength RX2 (some .int) 1 40 [some (mP 3), some (mI l), some (mI (t 13 l)), some (mI (t 14 l)), some (mI d), some (mI r), o6] [] t (fun a t' => a = some (mI res) ∧ t' = t) := by
    refine up_ind (fun r hr ih o6 h0 hF => ?_)
    refine G_iload (pc := 40) dX2_straightLength_40 rfl ?_
    refine G_aload_n (pc := 42) dX2_straightLength_42 rfl ?_
    refine G_getP (pc := 43) dX2_straightLength_43 fk_X2_25 rfl rfl rfl ?_
    refine G_getI (pc := 46) dX2_straightLength_46 fk_X2_29 rfl rfl rfl ?_
    refine G_icmp_ge (pc := 49) (tgt := 102) dX2_straightLength_49 rfl (fun h_49 => ?_) (fun h_49 => ?_)
    · refine G_iload (pc := 102) dX2_straightLength_102 rfl ?_
      exact G_ireturn (pc := 104) dX2_straightLength_104 (qeq (by
        rw [hres2, if_neg]
        intro q
        rw [← hF] at q
        rcases Int.lt_or_le r (t 267 0) with h9 | h9
        · omega
        · rw [fst_ge h9] at q; omega))
    · refine G_iload (pc := 52) dX2_straightLength_52 rfl ?_
      refine G_iconst (pc := 54) dX2_straightLength_54 (by decide) ?_
      refine G_icmp_le (pc := 55) (tgt := 102) dX2_straightLength_55 rfl (fun h_55 => ?_) (fun h_55 => ?_)
      · refine G_iload (pc := 102) dX2_straightLength_102 rfl ?_
        exact G_ireturn (pc := 104) dX2_straightLength_104 (qeq (by
          rw [hres2, if_neg]
          intro q
          rw [← hF] at q
          rcases Int.lt_or_le r (t 267 0) with h9 | h9
          · omega
          · rw [fst_ge h9] at q; omega))
      · refine G_join (pc := 58) (P := fun v => v = (if t 21 r ≠ 0 then distS (t 18) (t 19) (t 20) (t 13 l) (t 14 l) r else 0)) 80 (fun v_80 hv_80 => ?_) (fun j_80 => ?_)
        · refine G_istore (pc := 80) dX2_straightLength_80 (Nat.le_of_ble_eq_true rfl) rfl ?_
          refine G_iload (pc := 82) dX2_straightLength_82 rfl ?_
          refine G_if_le (pc := 84) (tgt := 96) dX2_straightLength_84 rfl (fun h_84 => ?_) (fun h_84 => ?_)
          · refine G_iinc (pc := 96) dX2_straightLength_96 rfl rfl (by omega) ?_
            refine G_goto (pc := 99) (tgt := 40) dX2_straightLength_99 rfl ?_
            exact ih (by omega) _ (by omega) ((fst_neg (by omega) (by unfold nearP; rw [hv_80] at *; grind)).symm.trans hF)
          · refine G_iload (pc := 87) dX2_straightLength_87 rfl ?_
            refine G_iload (pc := 89) dX2_straightLength_89 rfl ?_
            refine G_icmp_ge (pc := 91) (tgt := 96) dX2_straightLength_91 rfl (fun h_91 => ?_) (fun h_91 => ?_)
            · refine G_iinc (pc := 96) dX2_straightLength_96 rfl rfl (by omega) ?_
              refine G_goto (pc := 99) (tgt := 40) dX2_straightLength_99 rfl ?_
              exact ih (by omega) _ (by omega) ((fst_neg (by omega) (by unfold nearP; rw [hv_80] at *; grind)).symm.trans hF)
            · refine G_iconst (pc := 94) dX2_straightLength_94 (by decide) ?_
              exact G_ireturn (pc := 95) dX2_straightLength_95 (qeq (by
                have hN : nearP (t 21) (t 18) (t 19) (t 20) (t 13 l) (t 14 l) d r := by unfold nearP; grind
                rw [fst_pos (by omega) hN] at hF
                rw [hres2, if_pos ⟨by omega, by omega⟩]))
        · refine G_aload_n (pc := 58) dX2_straightLength_58 rfl ?_
          refine G_getP (pc := 59) dX2_straightLength_59 fk_X2_21 rfl rfl rfl ?_
          refine G_iload (pc := 62) dX2_straightLength_62 rfl ?_
          refine G_baload (pc := 64) dX2_straightLength_64 rfl rfl (by omega) ?_
          refine G_if_eq (pc := 65) (tgt := 79) dX2_straightLength_65 rfl (fun h_65 => ?_) (fun h_65 => ?_)
          · try simp only [bq0, ne_eq, Classical.not_not] at h_65
            refine G_iconst (pc := 79) dX2_straightLength_79 (by decide) ?_
            exact j_80 _ (by grind)
          · try simp only [bq0, ne_eq, Classical.not_not] at h_65
            refine G_aload_n (pc := 68) dX2_straightLength_68 rfl ?_
            refine G_iload_n (pc := 69) dX2_straightLength_69 rfl ?_
            refine G_iload_n (pc := 70) dX2_straightLength_70 rfl ?_
            refine G_iload (pc := 71) dX2_straightLength_71 rfl ?_
            refine G_cV1 (pc := 73) (c_X2_distance_3 _ _ _ _ (by omega) (by omega) (by omega) (by exact hX) (by exact hY) (by exact hL)) dX2_straightLength_73 ml_X2_44 rfl rfl rfl (by decide) (Nat.le_of_ble_eq_true rfl) ?_
            refine G_goto (pc := 76) (tgt := 80) dX2_straightLength_76 rfl ?_
            exact j_80 _ (by grind)
  refine G_aload_n (pc := 0) dX2_straightLength_0 rfl ?_
  refine G_getP (pc := 1) dX2_straightLength_1 fk_X2_25 rfl rfl rfl ?_
  refine G_getP (pc := 4) dX2_straightLength_4 fk_X2_35 rfl rfl rfl ?_
  refine G_iload_n (pc := 7) dX2_straightLength_7 rfl ?_
  refine G_iaload (pc := 8) dX2_straightLength_8 rfl rfl (by omega) ?_
  refine G_istore_n (pc := 9) dX2_straightLength_9 (Nat.le_of_ble_eq_true rfl) rfl ?_
  refine G_aload_n (pc := 10) dX2_straightLength_10 rfl ?_
  refine G_getP (pc := 11) dX2_straightLength_11 fk_X2_25 rfl rfl rfl ?_
  refine G_getP (pc := 14) dX2_straightLength_14 fk_X2_41 rfl rfl rfl ?_
  refine G_iload_n (pc := 17) dX2_straightLength_17 rfl ?_
  refine G_iaload (pc := 18) dX2_straightLength_18 rfl rfl (by omega) ?_
  refine G_istore_n (pc := 19) dX2_straightLength_19 (Nat.le_of_ble_eq_true rfl) rfl ?_
  refine G_aload_n (pc := 20) dX2_straightLength_20 rfl ?_
  refine G_iload_n (pc := 21) dX2_straightLength_21 rfl ?_
  refine G_iload_n (pc := 22) dX2_straightLength_22 rfl ?_
  refine G_aload_n (pc := 23) dX2_straightLength_23 rfl ?_
  refine G_getP (pc := 24) dX2_straightLength_24 fk_X2_25 rfl rfl rfl ?_
  refine G_getP (pc := 27) dX2_straightLength_27 fk_X2_38 rfl rfl rfl ?_
  refine G_iload_n (pc := 30) dX2_straightLength_30 rfl ?_
  refine G_iaload (pc := 31) dX2_straightLength_31 rfl rfl (by omega) ?_
  refine G_cV1 (pc := 32) (c_X2_distance_3 _ _ _ _ (by omega) (by omega) (by omega) (by exact hX) (by exact hY) (by exact hL)) dX2_straightLength_32 ml_X2_44 rfl rfl rfl (by decide) (Nat.le_of_ble_eq_true rfl) ?_
  rw [← hd]
  refine G_istore (pc := 35) dX2_straightLength_35 (Nat.le_of_ble_eq_true rfl) rfl ?_
  refine G_iconst (pc := 37) dX2_straightLength_37 (by decide) ?_
  refine G_istore (pc := 38) dX2_straightLength_38 (Nat.le_of_ble_eq_true rfl) rfl ?_
  exact loop 0 (by omega) _ (by omega) rfl
theorem c_X2_isWeighed_3 (t : Sto) (l : Int) (hS : SC t) (hl : 0 ≤ l ∧ l < t 272 0) : CT yX2_isWeighed cX2_isWeighed 2 (some .boolean) 1 [mP 3, mI l] t (fun a t' => a = some (mI (if t 13 l ≠ t 15 l ∧ t 21 (t 13 l) ≠ 0 ∧ t 21 (t 15 l) ≠ 0 then 1 else 0)) ∧ t' = t) := by
  refine CT_of rfl rfl (Nat.le_of_ble_eq_true rfl) (fun E ht has => ?_)
  have hb := hS.1
  refine G_aload_n (pc := 0) dX2_isWeighed_0 rfl ?_
  refine G_getP (pc := 1) dX2_isWeighed_1 fk_X2_25 rfl rfl rfl ?_
  refine G_iload_n (pc := 4) dX2_isWeighed_4 rfl ?_
  refine G_cV1 (pc := 5) (c_X5_isLoop _ _ (by omega)) dX2_isWeighed_5 ml_X2_70 rfl rfl rfl (by decide) (Nat.le_of_ble_eq_true rfl) ?_
  refine G_if_ne (pc := 8) (tgt := 23) dX2_isWeighed_8 rfl (fun h_8 => ?_) (fun h_8 => ?_)
  · try simp only [bq0, ne_eq, Classical.not_not] at h_8
    refine G_iconst (pc := 23) dX2_isWeighed_23 (by decide) ?_
    exact G_zreturn (pc := 24) dX2_isWeighed_24 (by first | exact Or.inl rfl | exact Or.inr rfl | omega | (split <;> first | exact Or.inl rfl | exact Or.inr rfl)) (qeq (by grind))
  · try simp only [bq0, ne_eq, Classical.not_not] at h_8
    refine G_aload_n (pc := 11) dX2_isWeighed_11 rfl ?_
    refine G_iload_n (pc := 12) dX2_isWeighed_12 rfl ?_
    refine G_cV1 (pc := 13) (c_X2_hasBothEnds_3 _ _ (by exact hS) (by omega)) dX2_isWeighed_13 ml_X2_73 rfl rfl rfl (by decide) (Nat.le_of_ble_eq_true rfl) ?_
    refine G_if_eq (pc := 16) (tgt := 23) dX2_isWeighed_16 rfl (fun h_16 => ?_) (fun h_16 => ?_)
    · try simp only [bq0, ne_eq, Classical.not_not] at h_16
      refine G_iconst (pc := 23) dX2_isWeighed_23 (by decide) ?_
      exact G_zreturn (pc := 24) dX2_isWeighed_24 (by first | exact Or.inl rfl | exact Or.inr rfl | omega | (split <;> first | exact Or.inl rfl | exact Or.inr rfl)) (qeq (by grind))
    · try simp only [bq0, ne_eq, Classical.not_not] at h_16
      refine G_iconst (pc := 19) dX2_isWeighed_19 (by decide) ?_
      refine G_goto (pc := 20) (tgt := 24) dX2_isWeighed_20 rfl ?_
      exact G_zreturn (pc := 24) dX2_isWeighed_24 (by first | exact Or.inl rfl | exact Or.inr rfl | omega | (split <;> first | exact Or.inl rfl | exact Or.inr rfl)) (qeq (by grind))
theorem c_X2_clear_4 (t : Sto) (hn : 0 ≤ t 267 0 ∧ t 267 0 ≤ 24) : CT yX2_clear cX2_clear 2 none 0 [mP 4] t (fun a t' => a = none ∧ t' = sv t 25 (glue (t 267 0) (fun _ => 0) (t 25))) := by
  refine CT_of rfl rfl (Nat.le_of_ble_eq_true rfl) (fun E ht has => ?_)
  have loop : ∀ r, r ≤ t 267 0 → 0 ≤ r → G E cX2_clear RX2 none 0 2 [some (mP 4), some (mI r)] [] (sv t 25 (glue r (fun _ => 0) (t 25))) (fun a t' => a = none ∧ t' = sv t 25 (glue (t 267 0) (fun _ => 0) (t 25))) := by
    refine up_ind (fun r hr ih h0 => ?_)
    refine G_iload_n (pc := 2) dX2_clear_2 rfl ?_
    refine G_aload_n (pc := 3) dX2_clear_3 rfl ?_
    refine G_getP (pc := 4) dX2_clear_4 fk_X2_25 rfl rfl rfl ?_
    refine G_getI (pc := 7) dX2_clear_7 fk_X2_29 rfl rfl rfl ?_
    try simp (disch := decide) only [su_ne, su_at, su_same, sv_ne, sv_at]
    refine G_icmp_ge (pc := 10) (tgt := 26) dX2_clear_10 rfl (fun h_10 => ?_) (fun h_10 => ?_)
    · have hrn : r = t 267 0 := by omega
      subst hrn
      exact G_return (pc := 26) dX2_clear_26 ⟨rfl, rfl⟩
    · refine G_aload_n (pc := 13) dX2_clear_13 rfl ?_
      refine G_getP (pc := 14) dX2_clear_14 fk_X2_21 rfl rfl rfl ?_
      refine G_iload_n (pc := 17) dX2_clear_17 rfl ?_
      refine G_iconst (pc := 18) dX2_clear_18 (by decide) ?_
      refine G_bastore (pc := 19) dX2_clear_19 rfl rfl (by omega) (by first | exact Or.inl rfl | exact Or.inr rfl | omega) ?_
      refine G_iinc (pc := 20) dX2_clear_20 rfl rfl (by omega) ?_
      refine G_goto (pc := 23) (tgt := 2) dX2_clear_23 rfl ?_
      rw [su_sv, sv_at, sv_sv, glue_succ h0 (fun _ => 0)]
      exact ih (by omega) (by omega)
  refine G_iconst (pc := 0) dX2_clear_0 (by decide) ?_
  refine G_istore_n (pc := 1) dX2_clear_1 (Nat.le_of_ble_eq_true rfl) rfl ?_
  have h := loop 0 (by omega) (by omega)
  rw [glue_0, sv_id] at h
  exact h
def putC_4 (t : Sto) (r x y l : Int) : Sto := su (su (su (su t 22 r x) 23 r y) 24 r l) 25 r 1
theorem c_X2_put_4 (t : Sto) (r x y l : Int) (hr : 0 ≤ r ∧ r < 24) : CT yX2_put cX2_put 5 none 0 [mP 4, mI r, mI x, mI y, mI l] t (fun a t' => a = none ∧ t' = putC_4 t r x y l) := by
  refine CT_of rfl rfl (Nat.le_of_ble_eq_true rfl) (fun E ht has => ?_)
  refine G_aload_n (pc := 0) dX2_put_0 rfl ?_
  refine G_getP (pc := 1) dX2_put_1 fk_X2_11 rfl rfl rfl ?_
  refine G_iload_n (pc := 4) dX2_put_4 rfl ?_
  refine G_iload_n (pc := 5) dX2_put_5 rfl ?_
  refine G_iastore (pc := 6) dX2_put_6 rfl rfl (by omega) ?_
  refine G_aload_n (pc := 7) dX2_put_7 rfl ?_
  refine G_getP (pc := 8) dX2_put_8 fk_X2_15 rfl rfl rfl ?_
  refine G_iload_n (pc := 11) dX2_put_11 rfl ?_
  refine G_iload_n (pc := 12) dX2_put_12 rfl ?_
  refine G_iastore (pc := 13) dX2_put_13 rfl rfl (by omega) ?_
  refine G_aload_n (pc := 14) dX2_put_14 rfl ?_
  refine G_getP (pc := 15) dX2_put_15 fk_X2_18 rfl rfl rfl ?_
  refine G_iload_n (pc := 18) dX2_put_18 rfl ?_
  refine G_iload (pc := 19) dX2_put_19 rfl ?_
  refine G_iastore (pc := 21) dX2_put_21 rfl rfl (by omega) ?_
  refine G_aload_n (pc := 22) dX2_put_22 rfl ?_
  refine G_getP (pc := 23) dX2_put_23 fk_X2_21 rfl rfl rfl ?_
  refine G_iload_n (pc := 26) dX2_put_26 rfl ?_
  refine G_iconst (pc := 27) dX2_put_27 (by decide) ?_
  refine G_bastore (pc := 28) dX2_put_28 rfl rfl (by omega) (by first | exact Or.inl rfl | exact Or.inr rfl | omega) ?_
  exact G_return (pc := 29) dX2_put_29 ⟨rfl, rfl⟩
theorem c_X2_lift_4 (t : Sto) (r : Int) (hr : 0 ≤ r ∧ r < 24) : CT yX2_lift cX2_lift 2 none 0 [mP 4, mI r] t (fun a t' => a = none ∧ t' = su t 25 r 0) := by
  refine CT_of rfl rfl (Nat.le_of_ble_eq_true rfl) (fun E ht has => ?_)
  refine G_aload_n (pc := 0) dX2_lift_0 rfl ?_
  refine G_getP (pc := 1) dX2_lift_1 fk_X2_21 rfl rfl rfl ?_
  refine G_iload_n (pc := 4) dX2_lift_4 rfl ?_
  refine G_iconst (pc := 5) dX2_lift_5 (by decide) ?_
  refine G_bastore (pc := 6) dX2_lift_6 rfl rfl (by omega) (by first | exact Or.inl rfl | exact Or.inr rfl | omega) ?_
  exact G_return (pc := 7) dX2_lift_7 ⟨rfl, rfl⟩
theorem c_X2_isFree_4 (t : Sto) (x y l : Int) (hn : 0 ≤ t 267 0 ∧ t 267 0 ≤ 24) : CT yX2_isFree cX2_isFree 5 (some .boolean) 0 [mP 4, mI x, mI y, mI l] t (fun a t' => a = some (mI (if atS (t 267 0) (t 25) (t 22) (t 23) (t 24) x y l < 0 then 1 else 0)) ∧ t' = t) := by
  refine CT_of rfl rfl (Nat.le_of_ble_eq_true rfl) (fun E ht has => ?_)
  have loop : ∀ r, r ≤ t 267 0 → 0 ≤ r → fst (atP (t 25) (t 22) (t 23) (t 24) x y l) r (t 267 0) = atS (t 267 0) (t 25) (t 22) (t 23) (t 24) x y l → G E cX2_isFree RX2 (some .boolean) 0 3 [some (mP 4), some (mI x), some (mI y), some (mI l), some (mI r)] [] t (fun a t' => a = some (mI (if atS (t 267 0) (t 25) (t 22) (t 23) (t 24) x y l < 0 then 1 else 0)) ∧ t' = t) := by
    refine up_ind (fun r hr ih h0 hX => ?_)
    refine G_iload (pc := 3) dX2_isFree_3 rfl ?_
    refine G_aload_n (pc := 5) dX2_isFree_5 rfl ?_
    refine G_getP (pc := 6) dX2_isFree_6 fk_X2_25 rfl rfl rfl ?_
    refine G_getI (pc := 9) dX2_isFree_9 fk_X2_29 rfl rfl rfl ?_
    refine G_icmp_ge (pc := 12) (tgt := 66) dX2_isFree_12 rfl (fun h_12 => ?_) (fun h_12 => ?_)
    · refine G_iconst (pc := 66) dX2_isFree_66 (by decide) ?_
      exact G_zreturn (pc := 67) dX2_isFree_67 (by first | exact Or.inl rfl | exact Or.inr rfl | omega | (split <;> first | exact Or.inl rfl | exact Or.inr rfl)) (qeq (by rw [fst_ge (by omega)] at hX; rw [← hX, if_pos (by omega)]))
    · refine G_aload_n (pc := 15) dX2_isFree_15 rfl ?_
      refine G_getP (pc := 16) dX2_isFree_16 fk_X2_21 rfl rfl rfl ?_
      refine G_iload (pc := 19) dX2_isFree_19 rfl ?_
      refine G_baload (pc := 21) dX2_isFree_21 rfl rfl (by omega) ?_
      refine G_if_eq (pc := 22) (tgt := 60) dX2_isFree_22 rfl (fun h_22 => ?_) (fun h_22 => ?_)
      · try simp only [bq0, ne_eq, Classical.not_not] at h_22
        refine G_iinc (pc := 60) dX2_isFree_60 rfl rfl (by omega) ?_
        refine G_goto (pc := 63) (tgt := 3) dX2_isFree_63 rfl ?_
        exact ih (by omega) (by omega) ((fst_neg (by omega) (by unfold atP; omega)).symm.trans hX)
      · try simp only [bq0, ne_eq, Classical.not_not] at h_22
        refine G_aload_n (pc := 25) dX2_isFree_25 rfl ?_
        refine G_getP (pc := 26) dX2_isFree_26 fk_X2_11 rfl rfl rfl ?_
        refine G_iload (pc := 29) dX2_isFree_29 rfl ?_
        refine G_iaload (pc := 31) dX2_isFree_31 rfl rfl (by omega) ?_
        refine G_iload_n (pc := 32) dX2_isFree_32 rfl ?_
        refine G_icmp_ne (pc := 33) (tgt := 60) dX2_isFree_33 rfl (fun h_33 => ?_) (fun h_33 => ?_)
        · refine G_iinc (pc := 60) dX2_isFree_60 rfl rfl (by omega) ?_
          refine G_goto (pc := 63) (tgt := 3) dX2_isFree_63 rfl ?_
          exact ih (by omega) (by omega) ((fst_neg (by omega) (by unfold atP; omega)).symm.trans hX)
        · refine G_aload_n (pc := 36) dX2_isFree_36 rfl ?_
          refine G_getP (pc := 37) dX2_isFree_37 fk_X2_15 rfl rfl rfl ?_
          refine G_iload (pc := 40) dX2_isFree_40 rfl ?_
          refine G_iaload (pc := 42) dX2_isFree_42 rfl rfl (by omega) ?_
          refine G_iload_n (pc := 43) dX2_isFree_43 rfl ?_
          refine G_icmp_ne (pc := 44) (tgt := 60) dX2_isFree_44 rfl (fun h_44 => ?_) (fun h_44 => ?_)
          · refine G_iinc (pc := 60) dX2_isFree_60 rfl rfl (by omega) ?_
            refine G_goto (pc := 63) (tgt := 3) dX2_isFree_63 rfl ?_
            exact ih (by omega) (by omega) ((fst_neg (by omega) (by unfold atP; omega)).symm.trans hX)
          · refine G_aload_n (pc := 47) dX2_isFree_47 rfl ?_
            refine G_getP (pc := 48) dX2_isFree_48 fk_X2_18 rfl rfl rfl ?_
            refine G_iload (pc := 51) dX2_isFree_51 rfl ?_
            refine G_iaload (pc := 53) dX2_isFree_53 rfl rfl (by omega) ?_
            refine G_iload_n (pc := 54) dX2_isFree_54 rfl ?_
            refine G_icmp_ne (pc := 55) (tgt := 60) dX2_isFree_55 rfl (fun h_55 => ?_) (fun h_55 => ?_)
            · refine G_iinc (pc := 60) dX2_isFree_60 rfl rfl (by omega) ?_
              refine G_goto (pc := 63) (tgt := 3) dX2_isFree_63 rfl ?_
              exact ih (by omega) (by omega) ((fst_neg (by omega) (by unfold atP; omega)).symm.trans hX)
            · refine G_iconst (pc := 58) dX2_isFree_58 (by decide) ?_
              exact G_zreturn (pc := 59) dX2_isFree_59 (by first | exact Or.inl rfl | exact Or.inr rfl | omega | (split <;> first | exact Or.inl rfl | exact Or.inr rfl)) (qeq (by rw [fst_pos (by omega) (by unfold atP; exact ⟨h_22, h_33, h_44, h_55⟩)] at hX; rw [← hX, if_neg (by omega)]))
  refine G_iconst (pc := 0) dX2_isFree_0 (by decide) ?_
  refine G_istore (pc := 1) dX2_isFree_1 (Nat.le_of_ble_eq_true rfl) rfl ?_
  exact loop 0 (by omega) (by omega) rfl
theorem c_X2_hasBothEnds_4 (t : Sto) (l : Int) (hS : SC t) (hl : 0 ≤ l ∧ l < t 272 0) : CT yX2_hasBothEnds cX2_hasBothEnds 2 (some .boolean) 0 [mP 4, mI l] t (fun a t' => a = some (mI (if t 25 (t 13 l) ≠ 0 ∧ t 25 (t 15 l) ≠ 0 then 1 else 0)) ∧ t' = t) := by
  refine CT_of rfl rfl (Nat.le_of_ble_eq_true rfl) (fun E ht has => ?_)
  have hb := hS.1
  obtain ⟨hfr, hto, -, -⟩ := hS.2 l hl.1 hl.2
  refine G_aload_n (pc := 0) dX2_hasBothEnds_0 rfl ?_
  refine G_getP (pc := 1) dX2_hasBothEnds_1 fk_X2_21 rfl rfl rfl ?_
  refine G_aload_n (pc := 4) dX2_hasBothEnds_4 rfl ?_
  refine G_getP (pc := 5) dX2_hasBothEnds_5 fk_X2_25 rfl rfl rfl ?_
  refine G_getP (pc := 8) dX2_hasBothEnds_8 fk_X2_35 rfl rfl rfl ?_
  refine G_iload_n (pc := 11) dX2_hasBothEnds_11 rfl ?_
  refine G_iaload (pc := 12) dX2_hasBothEnds_12 rfl rfl (by omega) ?_
  refine G_baload (pc := 13) dX2_hasBothEnds_13 rfl rfl (by omega) ?_
  refine G_if_eq (pc := 14) (tgt := 38) dX2_hasBothEnds_14 rfl (fun h_14 => ?_) (fun h_14 => ?_)
  · try simp only [bq0, ne_eq, Classical.not_not] at h_14
    refine G_iconst (pc := 38) dX2_hasBothEnds_38 (by decide) ?_
    exact G_zreturn (pc := 39) dX2_hasBothEnds_39 (by first | exact Or.inl rfl | exact Or.inr rfl | omega | (split <;> first | exact Or.inl rfl | exact Or.inr rfl)) (qeq (by grind))
  · try simp only [bq0, ne_eq, Classical.not_not] at h_14
    refine G_aload_n (pc := 17) dX2_hasBothEnds_17 rfl ?_
    refine G_getP (pc := 18) dX2_hasBothEnds_18 fk_X2_21 rfl rfl rfl ?_
    refine G_aload_n (pc := 21) dX2_hasBothEnds_21 rfl ?_
    refine G_getP (pc := 22) dX2_hasBothEnds_22 fk_X2_25 rfl rfl rfl ?_
    refine G_getP (pc := 25) dX2_hasBothEnds_25 fk_X2_38 rfl rfl rfl ?_
    refine G_iload_n (pc := 28) dX2_hasBothEnds_28 rfl ?_
    refine G_iaload (pc := 29) dX2_hasBothEnds_29 rfl rfl (by omega) ?_
    refine G_baload (pc := 30) dX2_hasBothEnds_30 rfl rfl (by omega) ?_
    refine G_if_eq (pc := 31) (tgt := 38) dX2_hasBothEnds_31 rfl (fun h_31 => ?_) (fun h_31 => ?_)
    · try simp only [bq0, ne_eq, Classical.not_not] at h_31
      refine G_iconst (pc := 38) dX2_hasBothEnds_38 (by decide) ?_
      exact G_zreturn (pc := 39) dX2_hasBothEnds_39 (by first | exact Or.inl rfl | exact Or.inr rfl | omega | (split <;> first | exact Or.inl rfl | exact Or.inr rfl)) (qeq (by grind))
    · try simp only [bq0, ne_eq, Classical.not_not] at h_31
      refine G_iconst (pc := 34) dX2_hasBothEnds_34 (by decide) ?_
      refine G_goto (pc := 35) (tgt := 39) dX2_hasBothEnds_35 rfl ?_
      exact G_zreturn (pc := 39) dX2_hasBothEnds_39 (by first | exact Or.inl rfl | exact Or.inr rfl | omega | (split <;> first | exact Or.inl rfl | exact Or.inr rfl)) (qeq (by grind))
set_option maxHeartbeats 1000000 in
theorem c_X2_distance_4 (t : Sto) (a w b : Int) (ha : 0 ≤ a ∧ a < 24) (hw : 0 ≤ w ∧ w ≤ 9) (hb : 0 ≤ b ∧ b < 24) (hX : BD (t 22)) (hY : BD (t 23)) (hL : BD (t 24)) : CT yX2_distance cX2_distance 8 (some .int) 0 [mP 4, mI a, mI w, mI b] t (fun r t' => r = some (mI (distS (t 22) (t 23) (t 24) a w b)) ∧ t' = t) := by
  refine CT_of rfl rfl (Nat.le_of_ble_eq_true rfl) (fun E ht has => ?_)
  have hxa := hX a
  have hxb := hX b
  have hya := hY a
  have hyb := hY b
  have hla := hL a
  have hlb := hL b
  have hdx := mul_r (x := t 22 b - t 22 a) (B := 2000000) (eaI_r hw) (by omega)
  have hdy := mul_r (x := t 23 b - t 23 a) (B := 2000000) (soI_r hw) (by omega)
  refine G_aload_n (pc := 0) dX2_distance_0 rfl ?_
  refine G_getP (pc := 1) dX2_distance_1 fk_X2_11 rfl rfl rfl ?_
  refine G_iload_n (pc := 4) dX2_distance_4 rfl ?_
  refine G_iaload (pc := 5) dX2_distance_5 rfl rfl (by omega) ?_
  refine G_aload_n (pc := 6) dX2_distance_6 rfl ?_
  refine G_getP (pc := 7) dX2_distance_7 fk_X2_11 rfl rfl rfl ?_
  refine G_iload_n (pc := 10) dX2_distance_10 rfl ?_
  refine G_iaload (pc := 11) dX2_distance_11 rfl rfl (by omega) ?_
  refine G_isub (pc := 12) dX2_distance_12 (by omega) ?_
  refine G_istore (pc := 13) dX2_distance_13 (Nat.le_of_ble_eq_true rfl) rfl ?_
  refine G_aload_n (pc := 15) dX2_distance_15 rfl ?_
  refine G_getP (pc := 16) dX2_distance_16 fk_X2_15 rfl rfl rfl ?_
  refine G_iload_n (pc := 19) dX2_distance_19 rfl ?_
  refine G_iaload (pc := 20) dX2_distance_20 rfl rfl (by omega) ?_
  refine G_aload_n (pc := 21) dX2_distance_21 rfl ?_
  refine G_getP (pc := 22) dX2_distance_22 fk_X2_15 rfl rfl rfl ?_
  refine G_iload_n (pc := 25) dX2_distance_25 rfl ?_
  refine G_iaload (pc := 26) dX2_distance_26 rfl rfl (by omega) ?_
  refine G_isub (pc := 27) dX2_distance_27 (by omega) ?_
  refine G_istore (pc := 28) dX2_distance_28 (Nat.le_of_ble_eq_true rfl) rfl ?_
  refine G_aload_n (pc := 30) dX2_distance_30 rfl ?_
  refine G_getP (pc := 31) dX2_distance_31 fk_X2_18 rfl rfl rfl ?_
  refine G_iload_n (pc := 34) dX2_distance_34 rfl ?_
  refine G_iaload (pc := 35) dX2_distance_35 rfl rfl (by omega) ?_
  refine G_aload_n (pc := 36) dX2_distance_36 rfl ?_
  refine G_getP (pc := 37) dX2_distance_37 fk_X2_18 rfl rfl rfl ?_
  refine G_iload_n (pc := 40) dX2_distance_40 rfl ?_
  refine G_iaload (pc := 41) dX2_distance_41 rfl rfl (by omega) ?_
  refine G_isub (pc := 42) dX2_distance_42 (by omega) ?_
  refine G_getstatic (pc := 43) dX2_distance_43 sk_X2_76 ?_
  refine G_iload_n (pc := 46) dX2_distance_46 rfl ?_
  refine G_sl3 (pc := 47) dX2_distance_47 (by omega) ?_
  refine G_icmp_eq (pc := 48) (tgt := 53) dX2_distance_48 rfl (fun h_48 => ?_) (fun h_48 => ?_)
  · refine G_iload_n (pc := 53) dX2_distance_53 rfl ?_
    refine G_bipush (pc := 54) (x := 8) dX2_distance_54 rfl (by decide) ?_
    refine G_icmp_lt (pc := 56) (tgt := 75) dX2_distance_56 rfl (fun h_56 => ?_) (fun h_56 => ?_)
    · refine G_join (pc := 75) (P := fun v => v = dlS (t 22) (t 23) a w b) 102 (fun v_102 hv_102 => ?_) (fun j_102 => ?_)
      · refine G_istore (pc := 102) dX2_distance_102 (Nat.le_of_ble_eq_true rfl) rfl ?_
        refine G_iload (pc := 104) dX2_distance_104 rfl ?_
        refine G_if_le (pc := 106) (tgt := 146) dX2_distance_106 rfl (fun h_106 => ?_) (fun h_106 => ?_)
        · refine G_iconst (pc := 146) dX2_distance_146 (by decide) ?_
          refine G_istore (pc := 147) dX2_distance_147 (Nat.le_of_ble_eq_true rfl) rfl ?_
          refine G_iload (pc := 149) dX2_distance_149 rfl ?_
          refine G_if_eq (pc := 151) (tgt := 159) dX2_distance_151 rfl (fun h_151 => ?_) (fun h_151 => ?_)
          · try simp only [bq0, ne_eq, Classical.not_not] at h_151
            refine G_iconst (pc := 159) dX2_distance_159 (by decide) ?_
            exact G_ireturn (pc := 160) dX2_distance_160 (qeq (by unfold distS; grind))
          · try simp only [bq0, ne_eq, Classical.not_not] at h_151
            refine G_iload (pc := 154) dX2_distance_154 rfl ?_
            refine G_goto (pc := 156) (tgt := 160) dX2_distance_156 rfl ?_
            exact G_ireturn (pc := 160) dX2_distance_160 (qeq (by unfold distS; grind))
        · refine G_iload (pc := 109) dX2_distance_109 rfl ?_
          refine G_bipush (pc := 111) (x := 60) dX2_distance_111 rfl (by decide) ?_
          refine G_icmp_gt (pc := 113) (tgt := 146) dX2_distance_113 rfl (fun h_113 => ?_) (fun h_113 => ?_)
          · refine G_iconst (pc := 146) dX2_distance_146 (by decide) ?_
            refine G_istore (pc := 147) dX2_distance_147 (Nat.le_of_ble_eq_true rfl) rfl ?_
            refine G_iload (pc := 149) dX2_distance_149 rfl ?_
            refine G_if_eq (pc := 151) (tgt := 159) dX2_distance_151 rfl (fun h_151 => ?_) (fun h_151 => ?_)
            · try simp only [bq0, ne_eq, Classical.not_not] at h_151
              refine G_iconst (pc := 159) dX2_distance_159 (by decide) ?_
              exact G_ireturn (pc := 160) dX2_distance_160 (qeq (by unfold distS; grind))
            · try simp only [bq0, ne_eq, Classical.not_not] at h_151
              refine G_iload (pc := 154) dX2_distance_154 rfl ?_
              refine G_goto (pc := 156) (tgt := 160) dX2_distance_156 rfl ?_
              exact G_ireturn (pc := 160) dX2_distance_160 (qeq (by unfold distS; grind))
          · refine G_iload (pc := 116) dX2_distance_116 rfl ?_
            refine G_iload (pc := 118) dX2_distance_118 rfl ?_
            refine G_getstatic (pc := 120) dX2_distance_120 sk_X2_79 ?_
            refine G_iload_n (pc := 123) dX2_distance_123 rfl ?_
            refine G_sl1 (pc := 124) dX2_distance_124 (by omega) ?_
            refine G_imul (pc := 125) dX2_distance_125 (by have := mul_r (x := v_102) (B := 60) (eaI_r hw) (by omega); omega) ?_
            refine G_icmp_ne (pc := 126) (tgt := 146) dX2_distance_126 rfl (fun h_126 => ?_) (fun h_126 => ?_)
            · refine G_iconst (pc := 146) dX2_distance_146 (by decide) ?_
              refine G_istore (pc := 147) dX2_distance_147 (Nat.le_of_ble_eq_true rfl) rfl ?_
              refine G_iload (pc := 149) dX2_distance_149 rfl ?_
              refine G_if_eq (pc := 151) (tgt := 159) dX2_distance_151 rfl (fun h_151 => ?_) (fun h_151 => ?_)
              · try simp only [bq0, ne_eq, Classical.not_not] at h_151
                refine G_iconst (pc := 159) dX2_distance_159 (by decide) ?_
                exact G_ireturn (pc := 160) dX2_distance_160 (qeq (by unfold distS; grind))
              · try simp only [bq0, ne_eq, Classical.not_not] at h_151
                refine G_iload (pc := 154) dX2_distance_154 rfl ?_
                refine G_goto (pc := 156) (tgt := 160) dX2_distance_156 rfl ?_
                exact G_ireturn (pc := 160) dX2_distance_160 (qeq (by unfold distS; grind))
            · refine G_iload (pc := 129) dX2_distance_129 rfl ?_
              refine G_iload (pc := 131) dX2_distance_131 rfl ?_
              refine G_getstatic (pc := 133) dX2_distance_133 sk_X2_82 ?_
              refine G_iload_n (pc := 136) dX2_distance_136 rfl ?_
              refine G_sl2 (pc := 137) dX2_distance_137 (by omega) ?_
              refine G_imul (pc := 138) dX2_distance_138 (by have := mul_r (x := v_102) (B := 60) (soI_r hw) (by omega); omega) ?_
              refine G_icmp_ne (pc := 139) (tgt := 146) dX2_distance_139 rfl (fun h_139 => ?_) (fun h_139 => ?_)
              · refine G_iconst (pc := 146) dX2_distance_146 (by decide) ?_
                refine G_istore (pc := 147) dX2_distance_147 (Nat.le_of_ble_eq_true rfl) rfl ?_
                refine G_iload (pc := 149) dX2_distance_149 rfl ?_
                refine G_if_eq (pc := 151) (tgt := 159) dX2_distance_151 rfl (fun h_151 => ?_) (fun h_151 => ?_)
                · try simp only [bq0, ne_eq, Classical.not_not] at h_151
                  refine G_iconst (pc := 159) dX2_distance_159 (by decide) ?_
                  exact G_ireturn (pc := 160) dX2_distance_160 (qeq (by unfold distS; grind))
                · try simp only [bq0, ne_eq, Classical.not_not] at h_151
                  refine G_iload (pc := 154) dX2_distance_154 rfl ?_
                  refine G_goto (pc := 156) (tgt := 160) dX2_distance_156 rfl ?_
                  exact G_ireturn (pc := 160) dX2_distance_160 (qeq (by unfold distS; grind))
              · refine G_iconst (pc := 142) dX2_distance_142 (by decide) ?_
                refine G_goto (pc := 143) (tgt := 147) dX2_distance_143 rfl ?_
                refine G_istore (pc := 147) dX2_distance_147 (Nat.le_of_ble_eq_true rfl) rfl ?_
                refine G_iload (pc := 149) dX2_distance_149 rfl ?_
                refine G_if_eq (pc := 151) (tgt := 159) dX2_distance_151 rfl (fun h_151 => ?_) (fun h_151 => ?_)
                · try simp only [bq0, ne_eq, Classical.not_not] at h_151
                  refine G_iconst (pc := 159) dX2_distance_159 (by decide) ?_
                  exact G_ireturn (pc := 160) dX2_distance_160 (qeq (by unfold distS; grind))
                · try simp only [bq0, ne_eq, Classical.not_not] at h_151
                  refine G_iload (pc := 154) dX2_distance_154 rfl ?_
                  refine G_goto (pc := 156) (tgt := 160) dX2_distance_156 rfl ?_
                  exact G_ireturn (pc := 160) dX2_distance_160 (qeq (by unfold distS; grind))
      · refine G_getstatic (pc := 75) dX2_distance_75 sk_X2_79 ?_
        refine G_iload_n (pc := 78) dX2_distance_78 rfl ?_
        refine G_sl1 (pc := 79) dX2_distance_79 (by omega) ?_
        refine G_if_eq (pc := 80) (tgt := 94) dX2_distance_80 rfl (fun h_80 => ?_) (fun h_80 => ?_)
        · try simp only [bq0, ne_eq, Classical.not_not] at h_80
          refine G_iload (pc := 94) dX2_distance_94 rfl ?_
          refine G_getstatic (pc := 96) dX2_distance_96 sk_X2_82 ?_
          refine G_iload_n (pc := 99) dX2_distance_99 rfl ?_
          refine G_sl2 (pc := 100) dX2_distance_100 (by omega) ?_
          refine G_imul (pc := 101) dX2_distance_101 (by omega) ?_
          exact j_102 _ (by unfold dlS; grind)
        · try simp only [bq0, ne_eq, Classical.not_not] at h_80
          refine G_iload (pc := 83) dX2_distance_83 rfl ?_
          refine G_getstatic (pc := 85) dX2_distance_85 sk_X2_79 ?_
          refine G_iload_n (pc := 88) dX2_distance_88 rfl ?_
          refine G_sl1 (pc := 89) dX2_distance_89 (by omega) ?_
          refine G_imul (pc := 90) dX2_distance_90 (by omega) ?_
          refine G_goto (pc := 91) (tgt := 102) dX2_distance_91 rfl ?_
          exact j_102 _ (by unfold dlS; grind)
    · refine G_iload (pc := 59) dX2_distance_59 rfl ?_
      refine G_if_ne (pc := 61) (tgt := 73) dX2_distance_61 rfl (fun h_61 => ?_) (fun h_61 => ?_)
      · try simp only [bq0, ne_eq, Classical.not_not] at h_61
        refine G_iconst (pc := 73) dX2_distance_73 (by decide) ?_
        exact G_ireturn (pc := 74) dX2_distance_74 (qeq (by unfold distS; grind))
      · try simp only [bq0, ne_eq, Classical.not_not] at h_61
        refine G_iload (pc := 64) dX2_distance_64 rfl ?_
        refine G_if_ne (pc := 66) (tgt := 73) dX2_distance_66 rfl (fun h_66 => ?_) (fun h_66 => ?_)
        · try simp only [bq0, ne_eq, Classical.not_not] at h_66
          refine G_iconst (pc := 73) dX2_distance_73 (by decide) ?_
          exact G_ireturn (pc := 74) dX2_distance_74 (qeq (by unfold distS; grind))
        · try simp only [bq0, ne_eq, Classical.not_not] at h_66
          refine G_iconst (pc := 69) dX2_distance_69 (by decide) ?_
          refine G_goto (pc := 70) (tgt := 74) dX2_distance_70 rfl ?_
          exact G_ireturn (pc := 74) dX2_distance_74 (qeq (by unfold distS; grind))
  · refine G_iconst (pc := 51) dX2_distance_51 (by decide) ?_
    exact G_ireturn (pc := 52) dX2_distance_52 (qeq (by unfold distS; grind))
theorem c_X2_straightLength_4 (t : Sto) (l : Int) (hS : SC t) (hl : 0 ≤ l ∧ l < t 272 0) (hX : BD (t 22)) (hY : BD (t 23)) (hL : BD (t 24)) : CT yX2_straightLength cX2_straightLength 7 (some .int) 1 [mP 4, mI l] t (fun a t' => a = some (mI (strS (t 267 0) (t 25) (t 22) (t 23) (t 24) (t 13 l) (t 14 l) (t 15 l))) ∧ t' = t) := by
  refine CT_of rfl rfl (Nat.le_of_ble_eq_true rfl) (fun E ht has => ?_)
  have hb := hS.1
  obtain ⟨hfr, hto, hdi, -⟩ := hS.2 l hl.1 hl.2
  obtain ⟨d, hd⟩ : ∃ d, d = distS (t 22) (t 23) (t 24) (t 13 l) (t 14 l) (t 15 l) := ⟨_, rfl⟩
  obtain ⟨res, hres⟩ : ∃ res, res = strS (t 267 0) (t 25) (t 22) (t 23) (t 24) (t 13 l) (t 14 l) (t 15 l) := ⟨_, rfl⟩
  have hres2 := hres
  unfold strS at hres2
  rw [← hd] at hres2
  rw [← hres]
  have loop : ∀ r, r ≤ t 267 0 → ∀ o6 : Option MV, 0 ≤ r → fst (nearP (t 25) (t 22) (t 23) (t 24) (t 13 l) (t 14 l) d) r (t 267 0) = fst (nearP (t 25) (t 22) (t 23) (t 24) (t 13 l) (t 14 l) d) 0 (t 267 0) → G E cX2_straightLength RX2 (some .int) 1 40 [some (mP 4), some (mI l), some (mI (t 13 l)), some (mI (t 14 l)), some (mI d), some (mI r), o6] [] t (fun a t' => a = some (mI res) ∧ t' = t) := by
    refine up_ind (fun r hr ih o6 h0 hF => ?_)
    refine G_iload (pc := 40) dX2_straightLength_40 rfl ?_
    refine G_aload_n (pc := 42) dX2_straightLength_42 rfl ?_
    refine G_getP (pc := 43) dX2_straightLength_43 fk_X2_25 rfl rfl rfl ?_
    refine G_getI (pc := 46) dX2_straightLength_46 fk_X2_29 rfl rfl rfl ?_
    refine G_icmp_ge (pc := 49) (tgt := 102) dX2_straightLength_49 rfl (fun h_49 => ?_) (fun h_49 => ?_)
    · refine G_iload (pc := 102) dX2_straightLength_102 rfl ?_
      exact G_ireturn (pc := 104) dX2_straightLength_104 (qeq (by
        rw [hres2, if_neg]
        intro q
        rw [← hF] at q
        rcases Int.lt_or_le r (t 267 0) with h9 | h9
        · omega
        · rw [fst_ge h9] at q; omega))
    · refine G_iload (pc := 52) dX2_straightLength_52 rfl ?_
      refine G_iconst (pc := 54) dX2_straightLength_54 (by decide) ?_
      refine G_icmp_le (pc := 55) (tgt := 102) dX2_straightLength_55 rfl (fun h_55 => ?_) (fun h_55 => ?_)
      · refine G_iload (pc := 102) dX2_straightLength_102 rfl ?_
        exact G_ireturn (pc := 104) dX2_straightLength_104 (qeq (by
          rw [hres2, if_neg]
          intro q
          rw [← hF] at q
          rcases Int.lt_or_le r (t 267 0) with h9 | h9
          · omega
          · rw [fst_ge h9] at q; omega))
      · refine G_join (pc := 58) (P := fun v => v = (if t 25 r ≠ 0 then distS (t 22) (t 23) (t 24) (t 13 l) (t 14 l) r else 0)) 80 (fun v_80 hv_80 => ?_) (fun j_80 => ?_)
        · refine G_istore (pc := 80) dX2_straightLength_80 (Nat.le_of_ble_eq_true rfl) rfl ?_
          refine G_iload (pc := 82) dX2_straightLength_82 rfl ?_
          refine G_if_le (pc := 84) (tgt := 96) dX2_straightLength_84 rfl (fun h_84 => ?_) (fun h_84 => ?_)
          · refine G_iinc (pc := 96) dX2_straightLength_96 rfl rfl (by omega) ?_
            refine G_goto (pc := 99) (tgt := 40) dX2_straightLength_99 rfl ?_
            exact ih (by omega) _ (by omega) ((fst_neg (by omega) (by unfold nearP; rw [hv_80] at *; grind)).symm.trans hF)
          · refine G_iload (pc := 87) dX2_straightLength_87 rfl ?_
            refine G_iload (pc := 89) dX2_straightLength_89 rfl ?_
            refine G_icmp_ge (pc := 91) (tgt := 96) dX2_straightLength_91 rfl (fun h_91 => ?_) (fun h_91 => ?_)
            · refine G_iinc (pc := 96) dX2_straightLength_96 rfl rfl (by omega) ?_
              refine G_goto (pc := 99) (tgt := 40) dX2_straightLength_99 rfl ?_
              exact ih (by omega) _ (by omega) ((fst_neg (by omega) (by unfold nearP; rw [hv_80] at *; grind)).symm.trans hF)
            · refine G_iconst (pc := 94) dX2_straightLength_94 (by decide) ?_
              exact G_ireturn (pc := 95) dX2_straightLength_95 (qeq (by
                have hN : nearP (t 25) (t 22) (t 23) (t 24) (t 13 l) (t 14 l) d r := by unfold nearP; grind
                rw [fst_pos (by omega) hN] at hF
                rw [hres2, if_pos ⟨by omega, by omega⟩]))
        · refine G_aload_n (pc := 58) dX2_straightLength_58 rfl ?_
          refine G_getP (pc := 59) dX2_straightLength_59 fk_X2_21 rfl rfl rfl ?_
          refine G_iload (pc := 62) dX2_straightLength_62 rfl ?_
          refine G_baload (pc := 64) dX2_straightLength_64 rfl rfl (by omega) ?_
          refine G_if_eq (pc := 65) (tgt := 79) dX2_straightLength_65 rfl (fun h_65 => ?_) (fun h_65 => ?_)
          · try simp only [bq0, ne_eq, Classical.not_not] at h_65
            refine G_iconst (pc := 79) dX2_straightLength_79 (by decide) ?_
            exact j_80 _ (by grind)
          · try simp only [bq0, ne_eq, Classical.not_not] at h_65
            refine G_aload_n (pc := 68) dX2_straightLength_68 rfl ?_
            refine G_iload_n (pc := 69) dX2_straightLength_69 rfl ?_
            refine G_iload_n (pc := 70) dX2_straightLength_70 rfl ?_
            refine G_iload (pc := 71) dX2_straightLength_71 rfl ?_
            refine G_cV1 (pc := 73) (c_X2_distance_4 _ _ _ _ (by omega) (by omega) (by omega) (by exact hX) (by exact hY) (by exact hL)) dX2_straightLength_73 ml_X2_44 rfl rfl rfl (by decide) (Nat.le_of_ble_eq_true rfl) ?_
            refine G_goto (pc := 76) (tgt := 80) dX2_straightLength_76 rfl ?_
            exact j_80 _ (by grind)
  refine G_aload_n (pc := 0) dX2_straightLength_0 rfl ?_
  refine G_getP (pc := 1) dX2_straightLength_1 fk_X2_25 rfl rfl rfl ?_
  refine G_getP (pc := 4) dX2_straightLength_4 fk_X2_35 rfl rfl rfl ?_
  refine G_iload_n (pc := 7) dX2_straightLength_7 rfl ?_
  refine G_iaload (pc := 8) dX2_straightLength_8 rfl rfl (by omega) ?_
  refine G_istore_n (pc := 9) dX2_straightLength_9 (Nat.le_of_ble_eq_true rfl) rfl ?_
  refine G_aload_n (pc := 10) dX2_straightLength_10 rfl ?_
  refine G_getP (pc := 11) dX2_straightLength_11 fk_X2_25 rfl rfl rfl ?_
  refine G_getP (pc := 14) dX2_straightLength_14 fk_X2_41 rfl rfl rfl ?_
  refine G_iload_n (pc := 17) dX2_straightLength_17 rfl ?_
  refine G_iaload (pc := 18) dX2_straightLength_18 rfl rfl (by omega) ?_
  refine G_istore_n (pc := 19) dX2_straightLength_19 (Nat.le_of_ble_eq_true rfl) rfl ?_
  refine G_aload_n (pc := 20) dX2_straightLength_20 rfl ?_
  refine G_iload_n (pc := 21) dX2_straightLength_21 rfl ?_
  refine G_iload_n (pc := 22) dX2_straightLength_22 rfl ?_
  refine G_aload_n (pc := 23) dX2_straightLength_23 rfl ?_
  refine G_getP (pc := 24) dX2_straightLength_24 fk_X2_25 rfl rfl rfl ?_
  refine G_getP (pc := 27) dX2_straightLength_27 fk_X2_38 rfl rfl rfl ?_
  refine G_iload_n (pc := 30) dX2_straightLength_30 rfl ?_
  refine G_iaload (pc := 31) dX2_straightLength_31 rfl rfl (by omega) ?_
  refine G_cV1 (pc := 32) (c_X2_distance_4 _ _ _ _ (by omega) (by omega) (by omega) (by exact hX) (by exact hY) (by exact hL)) dX2_straightLength_32 ml_X2_44 rfl rfl rfl (by decide) (Nat.le_of_ble_eq_true rfl) ?_
  rw [← hd]
  refine G_istore (pc := 35) dX2_straightLength_35 (Nat.le_of_ble_eq_true rfl) rfl ?_
  refine G_iconst (pc := 37) dX2_straightLength_37 (by decide) ?_
  refine G_istore (pc := 38) dX2_straightLength_38 (Nat.le_of_ble_eq_true rfl) rfl ?_
  exact loop 0 (by omega) _ (by omega) rfl
theorem c_X2_isWeighed_4 (t : Sto) (l : Int) (hS : SC t) (hl : 0 ≤ l ∧ l < t 272 0) : CT yX2_isWeighed cX2_isWeighed 2 (some .boolean) 1 [mP 4, mI l] t (fun a t' => a = some (mI (if t 13 l ≠ t 15 l ∧ t 25 (t 13 l) ≠ 0 ∧ t 25 (t 15 l) ≠ 0 then 1 else 0)) ∧ t' = t) := by
  refine CT_of rfl rfl (Nat.le_of_ble_eq_true rfl) (fun E ht has => ?_)
  have hb := hS.1
  refine G_aload_n (pc := 0) dX2_isWeighed_0 rfl ?_
  refine G_getP (pc := 1) dX2_isWeighed_1 fk_X2_25 rfl rfl rfl ?_
  refine G_iload_n (pc := 4) dX2_isWeighed_4 rfl ?_
  refine G_cV1 (pc := 5) (c_X5_isLoop _ _ (by omega)) dX2_isWeighed_5 ml_X2_70 rfl rfl rfl (by decide) (Nat.le_of_ble_eq_true rfl) ?_
  refine G_if_ne (pc := 8) (tgt := 23) dX2_isWeighed_8 rfl (fun h_8 => ?_) (fun h_8 => ?_)
  · try simp only [bq0, ne_eq, Classical.not_not] at h_8
    refine G_iconst (pc := 23) dX2_isWeighed_23 (by decide) ?_
    exact G_zreturn (pc := 24) dX2_isWeighed_24 (by first | exact Or.inl rfl | exact Or.inr rfl | omega | (split <;> first | exact Or.inl rfl | exact Or.inr rfl)) (qeq (by grind))
  · try simp only [bq0, ne_eq, Classical.not_not] at h_8
    refine G_aload_n (pc := 11) dX2_isWeighed_11 rfl ?_
    refine G_iload_n (pc := 12) dX2_isWeighed_12 rfl ?_
    refine G_cV1 (pc := 13) (c_X2_hasBothEnds_4 _ _ (by exact hS) (by omega)) dX2_isWeighed_13 ml_X2_73 rfl rfl rfl (by decide) (Nat.le_of_ble_eq_true rfl) ?_
    refine G_if_eq (pc := 16) (tgt := 23) dX2_isWeighed_16 rfl (fun h_16 => ?_) (fun h_16 => ?_)
    · try simp only [bq0, ne_eq, Classical.not_not] at h_16
      refine G_iconst (pc := 23) dX2_isWeighed_23 (by decide) ?_
      exact G_zreturn (pc := 24) dX2_isWeighed_24 (by first | exact Or.inl rfl | exact Or.inr rfl | omega | (split <;> first | exact Or.inl rfl | exact Or.inr rfl)) (qeq (by grind))
    · try simp only [bq0, ne_eq, Classical.not_not] at h_16
      refine G_iconst (pc := 19) dX2_isWeighed_19 (by decide) ?_
      refine G_goto (pc := 20) (tgt := 24) dX2_isWeighed_20 rfl ?_
      exact G_zreturn (pc := 24) dX2_isWeighed_24 (by first | exact Or.inl rfl | exact Or.inr rfl | omega | (split <;> first | exact Or.inl rfl | exact Or.inr rfl)) (qeq (by grind))
