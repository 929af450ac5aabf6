/-! SIGNS: the class -/
theorem low_le {n : Int} {ps f : Int → Int} {r : Int} (h0 : 0 ≤ r) (hr : r < n) (hp : ps r ≠ 0) : lowS n ps f ≤ f r := by
  have key : ∀ m, 0 ≤ m → m ≤ n → ∀ j, 0 ≤ j → j < m → ps j ≠ 0 → (itr (lowStep ps f) 0 m (0, 0)).1 = 1 ∧ (itr (lowStep ps f) 0 m (0, 0)).2 ≤ f j := by
    refine down_ind (z := 0) (fun m hm ih hmn j hj0 hj1 hpj => ?_)
    have e := itr_right (F := lowStep ps f) (k := m - 1) 0 (by omega) (0, 0)
    rw [show m - 1 + 1 = m by omega] at e
    rw [e]
    generalize itr (lowStep ps f) 0 (m - 1) (0, 0) = X at *
    unfold lowStep
    by_cases hpm : ps (m - 1) ≠ 0
    · rw [if_pos hpm]
      refine ⟨rfl, ?_⟩
      by_cases hj : j = m - 1
      · rw [hj]
        dsimp only
        split <;> omega
      · have := ih (by omega) (by omega) j hj0 (by omega) hpj
        dsimp only
        split <;> omega
    · rw [if_neg hpm]
      have hj : j ≠ m - 1 := fun q => hpm (by rw [← q]; exact hpj)
      exact ih (by omega) (by omega) j hj0 (by omega) hpj
  exact (key n (by omega) (Int.le_refl _) r h0 hr hp).2
/-- what is needed of the state to draw: the least x and y stand in west and north -/
def DR (t : Sto) : Prop := SC t ∧ BD (t 18) ∧ BD (t 19) ∧ BD (t 20) ∧ (∀ r, 0 ≤ r → r < t 267 0 → 1 ≤ t 10 r ∧ t 10 r ≤ 5) ∧ t 778 0 = lowS (t 267 0) (t 21) (t 18) ∧ t 779 0 = lowS (t 267 0) (t 21) (t 19)
theorem DR_w {t : Sto} (h : DR t) : (-1000000 ≤ t 778 0 ∧ t 778 0 ≤ 1000000) ∧ (-1000000 ≤ t 779 0 ∧ t 779 0 ≤ 1000000) := by
  obtain ⟨hS, hX, hY, -, -, hw, hn⟩ := h
  rw [hw, hn]
  exact ⟨low_r (B := 1000000) hS.1.1 (by omega) hX, low_r (B := 1000000) hS.1.1 (by omega) hY⟩
theorem DR_ge {t : Sto} (h : DR t) {r : Int} (h0 : 0 ≤ r) (h1 : r < t 267 0) (hp : t 21 r ≠ 0) : t 778 0 ≤ t 18 r ∧ t 779 0 ≤ t 19 r := by
  obtain ⟨hS, hX, hY, -, -, hw, hn⟩ := h
  rw [hw, hn]
  exact ⟨low_le h0 h1 hp, low_le h0 h1 hp⟩
theorem c_X4_columnOf (t : Sto) (r : Int) (h : DR t) (hr : 0 ≤ r ∧ r < t 267 0) : CT yX4_columnOf cX4_columnOf 2 (some .int) 0 [mP 9, mI r] t (fun a t' => a = some (mI (6 * (t 18 r - t 778 0))) ∧ t' = t) := by
  refine CT_of rfl rfl (Nat.le_of_ble_eq_true rfl) (fun E ht has => ?_)
  have hw := DR_w h
  have hx := h.2.1 r
  have hb := h.1.1
  refine G_bipush (pc := 0) (x := 6) dX4_columnOf_0 rfl (by decide) ?_
  refine G_aload_n (pc := 2) dX4_columnOf_2 rfl ?_
  refine G_getP (pc := 3) dX4_columnOf_3 fk_X4_15 rfl rfl rfl ?_
  refine G_getP (pc := 6) dX4_columnOf_6 fk_X4_19 rfl rfl rfl ?_
  refine G_iload_n (pc := 9) dX4_columnOf_9 rfl ?_
  refine G_iaload (pc := 10) dX4_columnOf_10 rfl rfl (by omega) ?_
  refine G_aload_n (pc := 11) dX4_columnOf_11 rfl ?_
  refine G_getI (pc := 12) dX4_columnOf_12 fk_X4_29 rfl rfl rfl ?_
  refine G_isub (pc := 15) dX4_columnOf_15 (by omega) ?_
  refine G_imul (pc := 16) dX4_columnOf_16 (by omega) ?_
  exact G_ireturn (pc := 17) dX4_columnOf_17 (qeq (by first | rfl | omega | (split <;> omega) | grind))
theorem c_X4_rowOf (t : Sto) (r : Int) (h : DR t) (hr : 0 ≤ r ∧ r < t 267 0) : CT yX4_rowOf cX4_rowOf 2 (some .int) 0 [mP 9, mI r] t (fun a t' => a = some (mI (2 * (t 19 r - t 779 0))) ∧ t' = t) := by
  refine CT_of rfl rfl (Nat.le_of_ble_eq_true rfl) (fun E ht has => ?_)
  have hw := DR_w h
  have hx := h.2.2.1 r
  have hb := h.1.1
  refine G_iconst (pc := 0) dX4_rowOf_0 (by decide) ?_
  refine G_aload_n (pc := 1) dX4_rowOf_1 rfl ?_
  refine G_getP (pc := 2) dX4_rowOf_2 fk_X4_15 rfl rfl rfl ?_
  refine G_getP (pc := 5) dX4_rowOf_5 fk_X4_33 rfl rfl rfl ?_
  refine G_iload_n (pc := 8) dX4_rowOf_8 rfl ?_
  refine G_iaload (pc := 9) dX4_rowOf_9 rfl rfl (by omega) ?_
  refine G_aload_n (pc := 10) dX4_rowOf_10 rfl ?_
  refine G_getI (pc := 11) dX4_rowOf_11 fk_X4_36 rfl rfl rfl ?_
  refine G_isub (pc := 14) dX4_rowOf_14 (by omega) ?_
  refine G_imul (pc := 15) dX4_rowOf_15 (by omega) ?_
  exact G_ireturn (pc := 16) dX4_rowOf_16 (qeq (by first | rfl | omega | (split <;> omega) | grind))
theorem c_X4_columnBehind (t : Sto) (r : Int) (h : DR t) (hr : 0 ≤ r ∧ r < t 267 0) : CT yX4_columnBehind cX4_columnBehind 2 (some .int) 1 [mP 9, mI r] t (fun a t' => a = some (mI (6 * (t 18 r - t 778 0) + t 10 r)) ∧ t' = t) := by
  refine CT_of rfl rfl (Nat.le_of_ble_eq_true rfl) (fun E ht has => ?_)
  have hw := DR_w h
  have hx := h.2.1 r
  have hb := h.1.1
  have hwi := h.2.2.2.2.1 r hr.1 hr.2
  refine G_aload_n (pc := 0) dX4_columnBehind_0 rfl ?_
  refine G_iload_n (pc := 1) dX4_columnBehind_1 rfl ?_
  refine G_cV1 (pc := 2) (c_X4_columnOf _ _ (by exact h) (by omega)) dX4_columnBehind_2 ml_X4_58 rfl rfl rfl (by decide) (Nat.le_of_ble_eq_true rfl) ?_
  refine G_aload_n (pc := 5) dX4_columnBehind_5 rfl ?_
  refine G_getP (pc := 6) dX4_columnBehind_6 fk_X4_9 rfl rfl rfl ?_
  refine G_getP (pc := 9) dX4_columnBehind_9 fk_X4_113 rfl rfl rfl ?_
  refine G_iload_n (pc := 12) dX4_columnBehind_12 rfl ?_
  refine G_iaload (pc := 13) dX4_columnBehind_13 rfl rfl (by omega) ?_
  refine G_iadd (pc := 14) dX4_columnBehind_14 (by omega) ?_
  exact G_ireturn (pc := 15) dX4_columnBehind_15 (qeq (by first | rfl | omega | (split <;> omega) | grind))
theorem c_X4_isInRow (t : Sto) (r v q : Int) (h : DR t) (hr : 0 ≤ r ∧ r < t 267 0) : CT yX4_isInRow cX4_isInRow 4 (some .boolean) 1 [mP 9, mI r, mI v, mI q] t (fun a t' => a = some (mI (if t 21 r ≠ 0 ∧ t 20 r = v ∧ 2 * (t 19 r - t 779 0) = q then 1 else 0)) ∧ t' = t) := by
  refine CT_of rfl rfl (Nat.le_of_ble_eq_true rfl) (fun E ht has => ?_)
  have hb := h.1.1
  refine G_aload_n (pc := 0) dX4_isInRow_0 rfl ?_
  refine G_getP (pc := 1) dX4_isInRow_1 fk_X4_15 rfl rfl rfl ?_
  refine G_getP (pc := 4) dX4_isInRow_4 fk_X4_109 rfl rfl rfl ?_
  refine G_iload_n (pc := 7) dX4_isInRow_7 rfl ?_
  refine G_baload (pc := 8) dX4_isInRow_8 rfl rfl (by omega) ?_
  refine G_if_eq (pc := 9) (tgt := 38) dX4_isInRow_9 rfl (fun h_9 => ?_) (fun h_9 => ?_)
  · try simp only [bq0, ne_eq, Classical.not_not] at h_9
    refine G_iconst (pc := 38) dX4_isInRow_38 (by decide) ?_
    exact G_zreturn (pc := 39) dX4_isInRow_39 (by first | exact Or.inl rfl | exact Or.inr rfl | omega | (split <;> first | exact Or.inl rfl | exact Or.inr rfl)) (qeq (by grind))
  · try simp only [bq0, ne_eq, Classical.not_not] at h_9
    refine G_aload_n (pc := 12) dX4_isInRow_12 rfl ?_
    refine G_getP (pc := 13) dX4_isInRow_13 fk_X4_15 rfl rfl rfl ?_
    refine G_getP (pc := 16) dX4_isInRow_16 fk_X4_79 rfl rfl rfl ?_
    refine G_iload_n (pc := 19) dX4_isInRow_19 rfl ?_
    refine G_iaload (pc := 20) dX4_isInRow_20 rfl rfl (by omega) ?_
    refine G_iload_n (pc := 21) dX4_isInRow_21 rfl ?_
    refine G_icmp_ne (pc := 22) (tgt := 38) dX4_isInRow_22 rfl (fun h_22 => ?_) (fun h_22 => ?_)
    · refine G_iconst (pc := 38) dX4_isInRow_38 (by decide) ?_
      exact G_zreturn (pc := 39) dX4_isInRow_39 (by first | exact Or.inl rfl | exact Or.inr rfl | omega | (split <;> first | exact Or.inl rfl | exact Or.inr rfl)) (qeq (by grind))
    · refine G_aload_n (pc := 25) dX4_isInRow_25 rfl ?_
      refine G_iload_n (pc := 26) dX4_isInRow_26 rfl ?_
      refine G_cV1 (pc := 27) (c_X4_rowOf _ _ (by exact h) (by omega)) dX4_isInRow_27 ml_X4_103 rfl rfl rfl (by decide) (Nat.le_of_ble_eq_true rfl) ?_
      refine G_iload_n (pc := 30) dX4_isInRow_30 rfl ?_
      refine G_icmp_ne (pc := 31) (tgt := 38) dX4_isInRow_31 rfl (fun h_31 => ?_) (fun h_31 => ?_)
      · refine G_iconst (pc := 38) dX4_isInRow_38 (by decide) ?_
        exact G_zreturn (pc := 39) dX4_isInRow_39 (by first | exact Or.inl rfl | exact Or.inr rfl | omega | (split <;> first | exact Or.inl rfl | exact Or.inr rfl)) (qeq (by grind))
      · refine G_iconst (pc := 34) dX4_isInRow_34 (by decide) ?_
        refine G_goto (pc := 35) (tgt := 39) dX4_isInRow_35 rfl ?_
        exact G_zreturn (pc := 39) dX4_isInRow_39 (by first | exact Or.inl rfl | exact Or.inr rfl | omega | (split <;> first | exact Or.inl rfl | exact Or.inr rfl)) (qeq (by grind))
def letP (wi ps xs ys ls : Int → Int) (W N v c q r : Int) : Prop := (ps r ≠ 0 ∧ ls r = v ∧ 2 * (ys r - N) = q) ∧ 6 * (xs r - W) ≤ c ∧ c < 6 * (xs r - W) + wi r
theorem c_X4_letterAt (t : Sto) (v c q : Int) (h : DR t) : CT yX4_letterAt cX4_letterAt 5 (some .int) 2 [mP 9, mI v, mI c, mI q] t (fun a t' => a = some (mI (if 0 ≤ fst (letP (t 10) (t 21) (t 18) (t 19) (t 20) (t 778 0) (t 779 0) v c q) 0 (t 267 0) then 65 + fst (letP (t 10) (t 21) (t 18) (t 19) (t 20) (t 778 0) (t 779 0) v c q) 0 (t 267 0) else 32)) ∧ t' = t) := by
  refine CT_of rfl rfl (Nat.le_of_ble_eq_true rfl) (fun E ht has => ?_)
  have hb := h.1.1
  generalize hZ : fst (letP (t 10) (t 21) (t 18) (t 19) (t 20) (t 778 0) (t 779 0) v c q) 0 (t 267 0) = Z
  have loop : ∀ r, r ≤ t 267 0 → 0 ≤ r → fst (letP (t 10) (t 21) (t 18) (t 19) (t 20) (t 778 0) (t 779 0) v c q) r (t 267 0) = Z → G E cX4_letterAt RX4 (some .int) 2 3 [some (mP 9), some (mI v), some (mI c), some (mI q), some (mI r)] [] t (fun a t' => a = some (mI (if 0 ≤ Z then 65 + Z else 32)) ∧ t' = t) := by
    refine up_ind (fun r hr ih h0 hX => ?_)
    refine G_iload (pc := 3) dX4_letterAt_3 rfl ?_
    refine G_aload_n (pc := 5) dX4_letterAt_5 rfl ?_
    refine G_getP (pc := 6) dX4_letterAt_6 fk_X4_9 rfl rfl rfl ?_
    refine G_getI (pc := 9) dX4_letterAt_9 fk_X4_49 rfl rfl rfl ?_
    refine G_icmp_ge (pc := 12) (tgt := 58) dX4_letterAt_12 rfl (fun h_12 => ?_) (fun h_12 => ?_)
    · refine G_bipush (pc := 58) (x := 32) dX4_letterAt_58 rfl (by decide) ?_
      exact G_ireturn (pc := 60) dX4_letterAt_60 (qeq (by rw [fst_ge (by omega)] at hX; rw [← hX, if_neg (by omega)]))
    · refine G_aload_n (pc := 15) dX4_letterAt_15 rfl ?_
      refine G_iload (pc := 16) dX4_letterAt_16 rfl ?_
      refine G_iload_n (pc := 18) dX4_letterAt_18 rfl ?_
      refine G_iload_n (pc := 19) dX4_letterAt_19 rfl ?_
      refine G_cV1 (pc := 20) (c_X4_isInRow _ _ _ _ (by exact h) (by omega)) dX4_letterAt_20 ml_X4_54 rfl rfl rfl (by decide) (Nat.le_of_ble_eq_true rfl) ?_
      refine G_if_eq (pc := 23) (tgt := 52) dX4_letterAt_23 rfl (fun h_23 => ?_) (fun h_23 => ?_)
      · try simp only [bq0, ne_eq, Classical.not_not] at h_23
        refine G_iinc (pc := 52) dX4_letterAt_52 rfl rfl (by omega) ?_
        refine G_goto (pc := 55) (tgt := 3) dX4_letterAt_55 rfl ?_
        exact ih (by omega) (by omega) ((fst_neg (by omega) (by unfold letP; grind)).symm.trans hX)
      · try simp only [bq0, ne_eq, Classical.not_not] at h_23
        refine G_iload_n (pc := 26) dX4_letterAt_26 rfl ?_
        refine G_aload_n (pc := 27) dX4_letterAt_27 rfl ?_
        refine G_iload (pc := 28) dX4_letterAt_28 rfl ?_
        refine G_cV1 (pc := 30) (c_X4_columnOf _ _ (by exact h) (by omega)) dX4_letterAt_30 ml_X4_58 rfl rfl rfl (by decide) (Nat.le_of_ble_eq_true rfl) ?_
        refine G_icmp_lt (pc := 33) (tgt := 52) dX4_letterAt_33 rfl (fun h_33 => ?_) (fun h_33 => ?_)
        · refine G_iinc (pc := 52) dX4_letterAt_52 rfl rfl (by omega) ?_
          refine G_goto (pc := 55) (tgt := 3) dX4_letterAt_55 rfl ?_
          exact ih (by omega) (by omega) ((fst_neg (by omega) (by unfold letP; grind)).symm.trans hX)
        · refine G_iload_n (pc := 36) dX4_letterAt_36 rfl ?_
          refine G_aload_n (pc := 37) dX4_letterAt_37 rfl ?_
          refine G_iload (pc := 38) dX4_letterAt_38 rfl ?_
          refine G_cV1 (pc := 40) (c_X4_columnBehind _ _ (by exact h) (by omega)) dX4_letterAt_40 ml_X4_62 rfl rfl rfl (by decide) (Nat.le_of_ble_eq_true rfl) ?_
          refine G_icmp_ge (pc := 43) (tgt := 52) dX4_letterAt_43 rfl (fun h_43 => ?_) (fun h_43 => ?_)
          · refine G_iinc (pc := 52) dX4_letterAt_52 rfl rfl (by omega) ?_
            refine G_goto (pc := 55) (tgt := 3) dX4_letterAt_55 rfl ?_
            exact ih (by omega) (by omega) ((fst_neg (by omega) (by unfold letP; grind)).symm.trans hX)
          · refine G_bipush (pc := 46) (x := 65) dX4_letterAt_46 rfl (by decide) ?_
            refine G_iload (pc := 48) dX4_letterAt_48 rfl ?_
            refine G_iadd (pc := 50) dX4_letterAt_50 (by omega) ?_
            exact G_ireturn (pc := 51) dX4_letterAt_51 (qeq (by rw [fst_pos (by omega) (by unfold letP; exact ⟨h_23, by omega, by omega⟩)] at hX; rw [← hX, if_pos h0]))
  refine G_iconst (pc := 0) dX4_letterAt_0 (by decide) ?_
  refine G_istore (pc := 1) dX4_letterAt_1 (Nat.le_of_ble_eq_true rfl) rfl ?_
  exact loop 0 (by omega) (by omega) hZ
noncomputable def stairP (k : Int) (fr di to bo wi ps xs ys ls : Int → Int) (W N v c q r : Int) : Prop := (ps r ≠ 0 ∧ ls r = v ∧ 2 * (ys r - N) = q) ∧ ((0 ≤ outS k fr di to bo r 8 ∧ c = 6 * (xs r - W) + wi r) ∨ (c = 6 * (xs r - W) + wi r + (if 0 ≤ outS k fr di to bo r 8 then 1 else 0) ∧ 0 ≤ outS k fr di to bo r 9))
noncomputable def stairV (k : Int) (fr di to bo wi xs : Int → Int) (W c r : Int) : Int := if 0 ≤ outS k fr di to bo r 8 ∧ c = 6 * (xs r - W) + wi r then 94 else 118
theorem c_X4_stairsAt (t : Sto) (v c q : Int) (h : DR t) : CT yX4_stairsAt cX4_stairsAt 6 (some .int) 2 [mP 9, mI v, mI c, mI q] t (fun a t' => a = some (mI (if 0 ≤ fst (stairP (t 272 0) (t 13) (t 14) (t 15) (t 16) (t 10) (t 21) (t 18) (t 19) (t 20) (t 778 0) (t 779 0) v c q) 0 (t 267 0) then stairV (t 272 0) (t 13) (t 14) (t 15) (t 16) (t 10) (t 18) (t 778 0) c (fst (stairP (t 272 0) (t 13) (t 14) (t 15) (t 16) (t 10) (t 21) (t 18) (t 19) (t 20) (t 778 0) (t 779 0) v c q) 0 (t 267 0)) else 32)) ∧ t' = t) := by
  refine CT_of rfl rfl (Nat.le_of_ble_eq_true rfl) (fun E ht has => ?_)
  have hb := h.1.1
  have hw := DR_w h
  generalize hZ : fst (stairP (t 272 0) (t 13) (t 14) (t 15) (t 16) (t 10) (t 21) (t 18) (t 19) (t 20) (t 778 0) (t 779 0) v c q) 0 (t 267 0) = Z
  have loop : ∀ r, r ≤ t 267 0 → ∀ o5 : Option MV, 0 ≤ r → fst (stairP (t 272 0) (t 13) (t 14) (t 15) (t 16) (t 10) (t 21) (t 18) (t 19) (t 20) (t 778 0) (t 779 0) v c q) r (t 267 0) = Z → G E cX4_stairsAt RX4 (some .int) 2 3 [some (mP 9), some (mI v), some (mI c), some (mI q), some (mI r), o5] [] t (fun a t' => a = some (mI (if 0 ≤ Z then stairV (t 272 0) (t 13) (t 14) (t 15) (t 16) (t 10) (t 18) (t 778 0) c Z else 32)) ∧ t' = t) := by
    refine up_ind (fun r hr ih o5 h0 hX => ?_)
    have hx := h.2.1 r
    refine G_iload (pc := 3) dX4_stairsAt_3 rfl ?_
    refine G_aload_n (pc := 5) dX4_stairsAt_5 rfl ?_
    refine G_getP (pc := 6) dX4_stairsAt_6 fk_X4_9 rfl rfl rfl ?_
    refine G_getI (pc := 9) dX4_stairsAt_9 fk_X4_49 rfl rfl rfl ?_
    refine G_icmp_ge (pc := 12) (tgt := 89) dX4_stairsAt_12 rfl (fun h_12 => ?_) (fun h_12 => ?_)
    · refine G_bipush (pc := 89) (x := 32) dX4_stairsAt_89 rfl (by decide) ?_
      exact G_ireturn (pc := 91) dX4_stairsAt_91 (qeq (by rw [fst_ge (by omega)] at hX; rw [← hX, if_neg (by omega)]))
    · have hwi := h.2.2.2.2.1 r h0 (by omega)
      refine G_aload_n (pc := 15) dX4_stairsAt_15 rfl ?_
      refine G_iload (pc := 16) dX4_stairsAt_16 rfl ?_
      refine G_iload_n (pc := 18) dX4_stairsAt_18 rfl ?_
      refine G_iload_n (pc := 19) dX4_stairsAt_19 rfl ?_
      refine G_cV1 (pc := 20) (c_X4_isInRow _ _ _ _ (by exact h) (by omega)) dX4_stairsAt_20 ml_X4_54 rfl rfl rfl (by decide) (Nat.le_of_ble_eq_true rfl) ?_
      refine G_if_eq (pc := 23) (tgt := 83) dX4_stairsAt_23 rfl (fun h_23 => ?_) (fun h_23 => ?_)
      · try simp only [bq0, ne_eq, Classical.not_not] at h_23
        refine G_iinc (pc := 83) dX4_stairsAt_83 rfl rfl (by omega) ?_
        refine G_goto (pc := 86) (tgt := 3) dX4_stairsAt_86 rfl ?_
        exact ih (by omega) _ (by omega) ((fst_neg (by omega) (by unfold stairP; grind)).symm.trans hX)
      · try simp only [bq0, ne_eq, Classical.not_not] at h_23
        refine G_aload_n (pc := 26) dX4_stairsAt_26 rfl ?_
        refine G_iload (pc := 27) dX4_stairsAt_27 rfl ?_
        refine G_cV1 (pc := 29) (c_X4_columnBehind _ _ (by exact h) (by omega)) dX4_stairsAt_29 ml_X4_62 rfl rfl rfl (by decide) (Nat.le_of_ble_eq_true rfl) ?_
        refine G_istore (pc := 32) dX4_stairsAt_32 (Nat.le_of_ble_eq_true rfl) rfl ?_
        refine G_aload_n (pc := 34) dX4_stairsAt_34 rfl ?_
        refine G_getP (pc := 35) dX4_stairsAt_35 fk_X4_9 rfl rfl rfl ?_
        refine G_iload (pc := 38) dX4_stairsAt_38 rfl ?_
        refine G_bipush (pc := 40) (x := 8) dX4_stairsAt_40 rfl (by decide) ?_
        refine G_cV1 (pc := 42) (c_X5_leading _ _ _ (by exact h.1)) dX4_stairsAt_42 ml_X4_65 rfl rfl rfl (by decide) (Nat.le_of_ble_eq_true rfl) ?_
        refine G_if_lt (pc := 45) (tgt := 60) dX4_stairsAt_45 rfl (fun h_45 => ?_) (fun h_45 => ?_)
        · refine G_iload_n (pc := 60) dX4_stairsAt_60 rfl ?_
          refine G_iload (pc := 61) dX4_stairsAt_61 rfl ?_
          refine G_icmp_ne (pc := 63) (tgt := 83) dX4_stairsAt_63 rfl (fun h_63 => ?_) (fun h_63 => ?_)
          · refine G_iinc (pc := 83) dX4_stairsAt_83 rfl rfl (by omega) ?_
            refine G_goto (pc := 86) (tgt := 3) dX4_stairsAt_86 rfl ?_
            exact ih (by omega) _ (by omega) ((fst_neg (by omega) (by unfold stairP; grind)).symm.trans hX)
          · refine G_aload_n (pc := 66) dX4_stairsAt_66 rfl ?_
            refine G_getP (pc := 67) dX4_stairsAt_67 fk_X4_9 rfl rfl rfl ?_
            refine G_iload (pc := 70) dX4_stairsAt_70 rfl ?_
            refine G_bipush (pc := 72) (x := 9) dX4_stairsAt_72 rfl (by decide) ?_
            refine G_cV1 (pc := 74) (c_X5_leading _ _ _ (by exact h.1)) dX4_stairsAt_74 ml_X4_65 rfl rfl rfl (by decide) (Nat.le_of_ble_eq_true rfl) ?_
            refine G_if_lt (pc := 77) (tgt := 83) dX4_stairsAt_77 rfl (fun h_77 => ?_) (fun h_77 => ?_)
            · refine G_iinc (pc := 83) dX4_stairsAt_83 rfl rfl (by omega) ?_
              refine G_goto (pc := 86) (tgt := 3) dX4_stairsAt_86 rfl ?_
              exact ih (by omega) _ (by omega) ((fst_neg (by omega) (by unfold stairP; grind)).symm.trans hX)
            · refine G_bipush (pc := 80) (x := 118) dX4_stairsAt_80 rfl (by decide) ?_
              exact G_ireturn (pc := 82) dX4_stairsAt_82 (qeq (by rw [fst_pos (by omega) (by unfold stairP; grind)] at hX; rw [← hX, if_pos h0]; unfold stairV; grind))
        · refine G_iload_n (pc := 48) dX4_stairsAt_48 rfl ?_
          refine G_iload (pc := 49) dX4_stairsAt_49 rfl ?_
          refine G_icmp_ne (pc := 51) (tgt := 57) dX4_stairsAt_51 rfl (fun h_51 => ?_) (fun h_51 => ?_)
          · refine G_iinc (pc := 57) dX4_stairsAt_57 rfl rfl (by omega) ?_
            refine G_iload_n (pc := 60) dX4_stairsAt_60 rfl ?_
            refine G_iload (pc := 61) dX4_stairsAt_61 rfl ?_
            refine G_icmp_ne (pc := 63) (tgt := 83) dX4_stairsAt_63 rfl (fun h_63 => ?_) (fun h_63 => ?_)
            · refine G_iinc (pc := 83) dX4_stairsAt_83 rfl rfl (by omega) ?_
              refine G_goto (pc := 86) (tgt := 3) dX4_stairsAt_86 rfl ?_
              exact ih (by omega) _ (by omega) ((fst_neg (by omega) (by unfold stairP; grind)).symm.trans hX)
            · refine G_aload_n (pc := 66) dX4_stairsAt_66 rfl ?_
              refine G_getP (pc := 67) dX4_stairsAt_67 fk_X4_9 rfl rfl rfl ?_
              refine G_iload (pc := 70) dX4_stairsAt_70 rfl ?_
              refine G_bipush (pc := 72) (x := 9) dX4_stairsAt_72 rfl (by decide) ?_
              refine G_cV1 (pc := 74) (c_X5_leading _ _ _ (by exact h.1)) dX4_stairsAt_74 ml_X4_65 rfl rfl rfl (by decide) (Nat.le_of_ble_eq_true rfl) ?_
              refine G_if_lt (pc := 77) (tgt := 83) dX4_stairsAt_77 rfl (fun h_77 => ?_) (fun h_77 => ?_)
              · refine G_iinc (pc := 83) dX4_stairsAt_83 rfl rfl (by omega) ?_
                refine G_goto (pc := 86) (tgt := 3) dX4_stairsAt_86 rfl ?_
                exact ih (by omega) _ (by omega) ((fst_neg (by omega) (by unfold stairP; grind)).symm.trans hX)
              · refine G_bipush (pc := 80) (x := 118) dX4_stairsAt_80 rfl (by decide) ?_
                exact G_ireturn (pc := 82) dX4_stairsAt_82 (qeq (by rw [fst_pos (by omega) (by unfold stairP; grind)] at hX; rw [← hX, if_pos h0]; unfold stairV; grind))
          · refine G_bipush (pc := 54) (x := 94) dX4_stairsAt_54 rfl (by decide) ?_
            exact G_ireturn (pc := 56) dX4_stairsAt_56 (qeq (by rw [fst_pos (by omega) (by unfold stairP; grind)] at hX; rw [← hX, if_pos h0]; unfold stairV; grind))
  refine G_iconst (pc := 0) dX4_stairsAt_0 (by decide) ?_
  refine G_istore (pc := 1) dX4_stairsAt_1 (Nat.le_of_ble_eq_true rfl) rfl ?_
  exact loop 0 (by omega) _ (by omega) hZ
def slantP (x y d : Int) : Prop := ∃ i, 0 ≤ i ∧ i < d ∧ x = 6 * i + 3 ∧ y = 2 * i + 1
theorem c_X4_isOnSlant (t : Sto) (x y d : Int) (hd : 0 ≤ d ∧ d ≤ 60) : CT yX4_isOnSlant cX4_isOnSlant 5 (some .boolean) 0 [mP 9, mI x, mI y, mI d] t (fun a t' => a = some (mI (@ite Int (slantP x y d) (Classical.propDecidable _) 1 0)) ∧ t' = t) := by
  refine CT_of rfl rfl (Nat.le_of_ble_eq_true rfl) (fun E ht has => ?_)
  have loop : ∀ i, i ≤ d → 0 ≤ i → (∀ j, 0 ≤ j → j < i → ¬ (x = 6 * j + 3 ∧ y = 2 * j + 1)) → G E cX4_isOnSlant RX4 (some .boolean) 0 3 [some (mP 9), some (mI x), some (mI y), some (mI d), some (mI i)] [] t (fun a t' => a = some (mI (@ite Int (slantP x y d) (Classical.propDecidable _) 1 0)) ∧ t' = t) := by
    refine up_ind (fun i hi ih h0 hN => ?_)
    refine G_iload (pc := 3) dX4_isOnSlant_3 rfl ?_
    refine G_iload_n (pc := 5) dX4_isOnSlant_5 rfl ?_
    refine G_icmp_ge (pc := 6) (tgt := 38) dX4_isOnSlant_6 rfl (fun h_6 => ?_) (fun h_6 => ?_)
    · refine G_iconst (pc := 38) dX4_isOnSlant_38 (by decide) ?_
      exact G_zreturn (pc := 39) dX4_isOnSlant_39 (by first | exact Or.inl rfl | exact Or.inr rfl | omega | (split <;> first | exact Or.inl rfl | exact Or.inr rfl)) (qeq (by rw [if_neg]; rintro ⟨j, j0, j1, j2⟩; exact hN j j0 (by omega) j2))
    · refine G_iload_n (pc := 9) dX4_isOnSlant_9 rfl ?_
      refine G_bipush (pc := 10) (x := 6) dX4_isOnSlant_10 rfl (by decide) ?_
      refine G_iload (pc := 12) dX4_isOnSlant_12 rfl ?_
      refine G_imul (pc := 14) dX4_isOnSlant_14 (by omega) ?_
      refine G_iconst (pc := 15) dX4_isOnSlant_15 (by decide) ?_
      refine G_iadd (pc := 16) dX4_isOnSlant_16 (by omega) ?_
      refine G_icmp_ne (pc := 17) (tgt := 32) dX4_isOnSlant_17 rfl (fun h_17 => ?_) (fun h_17 => ?_)
      · refine G_iinc (pc := 32) dX4_isOnSlant_32 rfl rfl (by omega) ?_
        refine G_goto (pc := 35) (tgt := 3) dX4_isOnSlant_35 rfl ?_
        refine ih (by omega) (by omega) (fun j j0 j1 => ?_)
        by_cases e : j = i
        · rw [e]; omega
        · exact hN j j0 (by omega)
      · refine G_iload_n (pc := 20) dX4_isOnSlant_20 rfl ?_
        refine G_iconst (pc := 21) dX4_isOnSlant_21 (by decide) ?_
        refine G_iload (pc := 22) dX4_isOnSlant_22 rfl ?_
        refine G_imul (pc := 24) dX4_isOnSlant_24 (by omega) ?_
        refine G_iconst (pc := 25) dX4_isOnSlant_25 (by decide) ?_
        refine G_iadd (pc := 26) dX4_isOnSlant_26 (by omega) ?_
        refine G_icmp_ne (pc := 27) (tgt := 32) dX4_isOnSlant_27 rfl (fun h_27 => ?_) (fun h_27 => ?_)
        · refine G_iinc (pc := 32) dX4_isOnSlant_32 rfl rfl (by omega) ?_
          refine G_goto (pc := 35) (tgt := 3) dX4_isOnSlant_35 rfl ?_
          refine ih (by omega) (by omega) (fun j j0 j1 => ?_)
          by_cases e : j = i
          · rw [e]; omega
          · exact hN j j0 (by omega)
        · refine G_iconst (pc := 30) dX4_isOnSlant_30 (by decide) ?_
          exact G_zreturn (pc := 31) dX4_isOnSlant_31 (by first | exact Or.inl rfl | exact Or.inr rfl | omega | (split <;> first | exact Or.inl rfl | exact Or.inr rfl)) (qeq (by rw [if_pos]; exact ⟨i, h0, by omega, by omega, by omega⟩))
  refine G_iconst (pc := 0) dX4_isOnSlant_0 (by decide) ?_
  refine G_istore (pc := 1) dX4_isOnSlant_1 (Nat.le_of_ble_eq_true rfl) rfl ?_
  exact loop 0 (by omega) (by omega) (fun j j0 j1 => by omega)
def tnP (w : Int) : Prop := eaI w < 0 ∨ (eaI w = 0 ∧ soI w < 0)
noncomputable def beg (w a b : Int) : Int := @ite _ (tnP w) (Classical.propDecidable _) b a
def onC (wi xs ys : Int → Int) (W N w s e d c q : Int) : Prop := if eaI w = 0 then c = 6 * (xs s - W) ∧ 2 * (ys s - N) < q ∧ q < 2 * (ys e - N) else if soI w = 0 then q = 2 * (ys s - N) ∧ 6 * (xs s - W) + wi s ≤ c ∧ c < 6 * (xs e - W) else slantP (c - 6 * (xs s - W)) ((eaI w * soI w) * (q - 2 * (ys s - N))) d
noncomputable def onCl (n : Int) (fr di to wi ps xs ys ls : Int → Int) (W N c q l : Int) : Prop := strS n ps xs ys ls (fr l) (di l) (to l) ≠ 0 ∧ onC wi xs ys W N (di l) (beg (di l) (fr l) (to l)) (beg (di l) (to l) (fr l)) (strS n ps xs ys ls (fr l) (di l) (to l)) c q
set_option maxHeartbeats 2000000 in
theorem c_X4_isOnLine (t : Sto) (l c q : Int) (h : DR t) (hl : 0 ≤ l ∧ l < t 272 0) (hp : t 21 (t 13 l) ≠ 0 ∧ t 21 (t 15 l) ≠ 0) (hc : 0 ≤ c ∧ c ≤ 2147483647) (hq : 0 ≤ q ∧ q ≤ 2147483647) : CT yX4_isOnLine cX4_isOnLine 10 (some .boolean) 2 [mP 9, mI l, mI c, mI q] t (fun a t' => a = some (mI (@ite Int (onCl (t 267 0) (t 13) (t 14) (t 15) (t 10) (t 21) (t 18) (t 19) (t 20) (t 778 0) (t 779 0) c q l) (Classical.propDecidable _) 1 0)) ∧ t' = t) := by
  refine CT_of rfl rfl (Nat.le_of_ble_eq_true rfl) (fun E ht has => ?_)
  have hb := h.1.1
  obtain ⟨hfr, hto, hdi, -⟩ := h.1.2 l hl.1 hl.2
  have hsr := strS_r (t 267 0) (t 21) (t 18) (t 19) (t 20) (t 13 l) (t 14 l) (t 15 l)
  have hga := DR_ge h hfr.1 hfr.2 hp.1
  have hgb := DR_ge h hto.1 hto.2 hp.2
  have hw := DR_w h
  have hea := eaI_r hdi
  have hso := soI_r hdi
  unfold onCl
  generalize hdd : strS (t 267 0) (t 21) (t 18) (t 19) (t 20) (t 13 l) (t 14 l) (t 15 l) = d at *
  have tail : d ≠ 0 → ∀ (x6 s e : Int), s = beg (t 14 l) (t 13 l) (t 15 l) → e = beg (t 14 l) (t 15 l) (t 13 l) → ∀ o9 : Option MV, G E cX4_isOnLine RX4 (some .boolean) 2 118 [some (mP 9), some (mI l), some (mI c), some (mI q), some (mI d), some (mI (t 14 l)), some (mI x6), some (mI s), some (mI e), o9] [] t (fun a t' => a = some (mI (@ite Int (d ≠ 0 ∧ onC (t 10) (t 18) (t 19) (t 778 0) (t 779 0) (t 14 l) (beg (t 14 l) (t 13 l) (t 15 l)) (beg (t 14 l) (t 15 l) (t 13 l)) d c q) (Classical.propDecidable _) 1 0)) ∧ t' = t) := by
    intro hd0 x6 s e hs he o9
    rw [← hs, ← he]
    have hsr2 : (0 ≤ s ∧ s < t 267 0) ∧ t 778 0 ≤ t 18 s ∧ t 779 0 ≤ t 19 s := by
      rw [hs]; unfold beg; split
      · exact ⟨hto, hgb⟩
      · exact ⟨hfr, hga⟩
    have her2 : (0 ≤ e ∧ e < t 267 0) := by
      rw [he]; unfold beg; split
      · exact hfr
      · exact hto
    have hxs := h.2.1 s
    have hys := h.2.2.1 s
    have hmul : eaI (t 14 l) * soI (t 14 l) = -1 ∨ eaI (t 14 l) * soI (t 14 l) = 0 ∨ eaI (t 14 l) * soI (t 14 l) = 1 := by
      rcases hea with e1 | e1 | e1 <;> rcases hso with e2 | e2 | e2 <;> rw [e1, e2] <;> decide
    have hm2 := mul_r (x := q - 2 * (t 19 s - t 779 0)) (B := 2147483647) hmul (by omega)
    refine G_getstatic (pc := 118) dX4_isOnLine_118 sk_X4_94 ?_
    refine G_iload (pc := 121) dX4_isOnLine_121 rfl ?_
    refine G_sl1 (pc := 123) dX4_isOnLine_123 (by omega) ?_
    refine G_if_ne (pc := 124) (tgt := 163) dX4_isOnLine_124 rfl (fun h_124 => ?_) (fun h_124 => ?_)
    · try simp only [bq0, ne_eq, Classical.not_not] at h_124
      refine G_getstatic (pc := 163) dX4_isOnLine_163 sk_X4_97 ?_
      refine G_iload (pc := 166) dX4_isOnLine_166 rfl ?_
      refine G_sl2 (pc := 168) dX4_isOnLine_168 (by omega) ?_
      refine G_if_ne (pc := 169) (tgt := 208) dX4_isOnLine_169 rfl (fun h_169 => ?_) (fun h_169 => ?_)
      · try simp only [bq0, ne_eq, Classical.not_not] at h_169
        have hON : onC (t 10) (t 18) (t 19) (t 778 0) (t 779 0) (t 14 l) s e d c q ↔ slantP (c - 6 * (t 18 s - t 778 0)) ((eaI (t 14 l) * soI (t 14 l)) * (q - 2 * (t 19 s - t 779 0))) d := by unfold onC; rw [if_neg h_124, if_neg h_169]
        refine G_getstatic (pc := 208) dX4_isOnLine_208 sk_X4_94 ?_
        refine G_iload (pc := 211) dX4_isOnLine_211 rfl ?_
        refine G_sl1 (pc := 213) dX4_isOnLine_213 (by omega) ?_
        refine G_getstatic (pc := 214) dX4_isOnLine_214 sk_X4_97 ?_
        refine G_iload (pc := 217) dX4_isOnLine_217 rfl ?_
        refine G_sl2 (pc := 219) dX4_isOnLine_219 (by omega) ?_
        refine G_imul (pc := 220) dX4_isOnLine_220 (by omega) ?_
        refine G_istore (pc := 221) dX4_isOnLine_221 (Nat.le_of_ble_eq_true rfl) rfl ?_
        refine G_aload_n (pc := 223) dX4_isOnLine_223 rfl ?_
        refine G_iload_n (pc := 224) dX4_isOnLine_224 rfl ?_
        refine G_aload_n (pc := 225) dX4_isOnLine_225 rfl ?_
        refine G_iload (pc := 226) dX4_isOnLine_226 rfl ?_
        refine G_cV1 (pc := 228) (c_X4_columnOf _ _ (by exact h) (by omega)) dX4_isOnLine_228 ml_X4_58 rfl rfl rfl (by decide) (Nat.le_of_ble_eq_true rfl) ?_
        refine G_isub (pc := 231) dX4_isOnLine_231 (by omega) ?_
        refine G_iload (pc := 232) dX4_isOnLine_232 rfl ?_
        refine G_iload_n (pc := 234) dX4_isOnLine_234 rfl ?_
        refine G_aload_n (pc := 235) dX4_isOnLine_235 rfl ?_
        refine G_iload (pc := 236) dX4_isOnLine_236 rfl ?_
        refine G_cV1 (pc := 238) (c_X4_rowOf _ _ (by exact h) (by omega)) dX4_isOnLine_238 ml_X4_103 rfl rfl rfl (by decide) (Nat.le_of_ble_eq_true rfl) ?_
        refine G_isub (pc := 241) dX4_isOnLine_241 (by omega) ?_
        refine G_imul (pc := 242) dX4_isOnLine_242 (by rw [Int.mul_comm] at hm2; omega) ?_
        refine G_iload (pc := 243) dX4_isOnLine_243 rfl ?_
        refine G_cV1 (pc := 245) (c_X4_isOnSlant _ _ _ _ (by omega)) dX4_isOnLine_245 ml_X4_106 rfl rfl rfl (by decide) (Nat.le_of_ble_eq_true rfl) ?_
        exact G_zreturn (pc := 248) dX4_isOnLine_248 (by split <;> first | exact Or.inr rfl | exact Or.inl rfl) (qeq (by by_cases z : slantP (c - 6 * (t 18 s - t 778 0)) ((eaI (t 14 l) * soI (t 14 l)) * (q - 2 * (t 19 s - t 779 0))) d <;> first | rw [if_pos z, if_pos ⟨hd0, hON.mpr z⟩] | rw [if_neg z, if_neg (fun y => z (hON.mp y.2))]))
      · try simp only [bq0, ne_eq, Classical.not_not] at h_169
        have hON : onC (t 10) (t 18) (t 19) (t 778 0) (t 779 0) (t 14 l) s e d c q ↔ (q = 2 * (t 19 s - t 779 0) ∧ 6 * (t 18 s - t 778 0) + t 10 s ≤ c ∧ c < 6 * (t 18 e - t 778 0)) := by unfold onC; rw [if_neg h_124, if_pos h_169]
        refine G_iload_n (pc := 172) dX4_isOnLine_172 rfl ?_
        refine G_aload_n (pc := 173) dX4_isOnLine_173 rfl ?_
        refine G_iload (pc := 174) dX4_isOnLine_174 rfl ?_
        refine G_cV1 (pc := 176) (c_X4_rowOf _ _ (by exact h) (by omega)) dX4_isOnLine_176 ml_X4_103 rfl rfl rfl (by decide) (Nat.le_of_ble_eq_true rfl) ?_
        refine G_icmp_ne (pc := 179) (tgt := 206) dX4_isOnLine_179 rfl (fun h_179 => ?_) (fun h_179 => ?_)
        · refine G_iconst (pc := 206) dX4_isOnLine_206 (by decide) ?_
          exact G_zreturn (pc := 207) dX4_isOnLine_207 (by first | exact Or.inl rfl | exact Or.inr rfl | omega | (split <;> first | exact Or.inl rfl | exact Or.inr rfl)) (qeq (by simp only [hON, hd0, ne_eq, not_false_eq_true, true_and]; grind))
        · refine G_iload_n (pc := 182) dX4_isOnLine_182 rfl ?_
          refine G_aload_n (pc := 183) dX4_isOnLine_183 rfl ?_
          refine G_iload (pc := 184) dX4_isOnLine_184 rfl ?_
          refine G_cV1 (pc := 186) (c_X4_columnBehind _ _ (by exact h) (by omega)) dX4_isOnLine_186 ml_X4_62 rfl rfl rfl (by decide) (Nat.le_of_ble_eq_true rfl) ?_
          refine G_icmp_lt (pc := 189) (tgt := 206) dX4_isOnLine_189 rfl (fun h_189 => ?_) (fun h_189 => ?_)
          · refine G_iconst (pc := 206) dX4_isOnLine_206 (by decide) ?_
            exact G_zreturn (pc := 207) dX4_isOnLine_207 (by first | exact Or.inl rfl | exact Or.inr rfl | omega | (split <;> first | exact Or.inl rfl | exact Or.inr rfl)) (qeq (by simp only [hON, hd0, ne_eq, not_false_eq_true, true_and]; grind))
          · refine G_iload_n (pc := 192) dX4_isOnLine_192 rfl ?_
            refine G_aload_n (pc := 193) dX4_isOnLine_193 rfl ?_
            refine G_iload (pc := 194) dX4_isOnLine_194 rfl ?_
            refine G_cV1 (pc := 196) (c_X4_columnOf _ _ (by exact h) (by omega)) dX4_isOnLine_196 ml_X4_58 rfl rfl rfl (by decide) (Nat.le_of_ble_eq_true rfl) ?_
            refine G_icmp_ge (pc := 199) (tgt := 206) dX4_isOnLine_199 rfl (fun h_199 => ?_) (fun h_199 => ?_)
            · refine G_iconst (pc := 206) dX4_isOnLine_206 (by decide) ?_
              exact G_zreturn (pc := 207) dX4_isOnLine_207 (by first | exact Or.inl rfl | exact Or.inr rfl | omega | (split <;> first | exact Or.inl rfl | exact Or.inr rfl)) (qeq (by simp only [hON, hd0, ne_eq, not_false_eq_true, true_and]; grind))
            · refine G_iconst (pc := 202) dX4_isOnLine_202 (by decide) ?_
              refine G_goto (pc := 203) (tgt := 207) dX4_isOnLine_203 rfl ?_
              exact G_zreturn (pc := 207) dX4_isOnLine_207 (by first | exact Or.inl rfl | exact Or.inr rfl | omega | (split <;> first | exact Or.inl rfl | exact Or.inr rfl)) (qeq (by simp only [hON, hd0, ne_eq, not_false_eq_true, true_and]; grind))
    · try simp only [bq0, ne_eq, Classical.not_not] at h_124
      have hON : onC (t 10) (t 18) (t 19) (t 778 0) (t 779 0) (t 14 l) s e d c q ↔ (c = 6 * (t 18 s - t 778 0) ∧ 2 * (t 19 s - t 779 0) < q ∧ q < 2 * (t 19 e - t 779 0)) := by unfold onC; rw [if_pos h_124]
      refine G_iload_n (pc := 127) dX4_isOnLine_127 rfl ?_
      refine G_aload_n (pc := 128) dX4_isOnLine_128 rfl ?_
      refine G_iload (pc := 129) dX4_isOnLine_129 rfl ?_
      refine G_cV1 (pc := 131) (c_X4_columnOf _ _ (by exact h) (by omega)) dX4_isOnLine_131 ml_X4_58 rfl rfl rfl (by decide) (Nat.le_of_ble_eq_true rfl) ?_
      refine G_icmp_ne (pc := 134) (tgt := 161) dX4_isOnLine_134 rfl (fun h_134 => ?_) (fun h_134 => ?_)
      · refine G_iconst (pc := 161) dX4_isOnLine_161 (by decide) ?_
        exact G_zreturn (pc := 162) dX4_isOnLine_162 (by first | exact Or.inl rfl | exact Or.inr rfl | omega | (split <;> first | exact Or.inl rfl | exact Or.inr rfl)) (qeq (by simp only [hON, hd0, ne_eq, not_false_eq_true, true_and]; grind))
      · refine G_iload_n (pc := 137) dX4_isOnLine_137 rfl ?_
        refine G_aload_n (pc := 138) dX4_isOnLine_138 rfl ?_
        refine G_iload (pc := 139) dX4_isOnLine_139 rfl ?_
        refine G_cV1 (pc := 141) (c_X4_rowOf _ _ (by exact h) (by omega)) dX4_isOnLine_141 ml_X4_103 rfl rfl rfl (by decide) (Nat.le_of_ble_eq_true rfl) ?_
        refine G_icmp_le (pc := 144) (tgt := 161) dX4_isOnLine_144 rfl (fun h_144 => ?_) (fun h_144 => ?_)
        · refine G_iconst (pc := 161) dX4_isOnLine_161 (by decide) ?_
          exact G_zreturn (pc := 162) dX4_isOnLine_162 (by first | exact Or.inl rfl | exact Or.inr rfl | omega | (split <;> first | exact Or.inl rfl | exact Or.inr rfl)) (qeq (by simp only [hON, hd0, ne_eq, not_false_eq_true, true_and]; grind))
        · refine G_iload_n (pc := 147) dX4_isOnLine_147 rfl ?_
          refine G_aload_n (pc := 148) dX4_isOnLine_148 rfl ?_
          refine G_iload (pc := 149) dX4_isOnLine_149 rfl ?_
          refine G_cV1 (pc := 151) (c_X4_rowOf _ _ (by exact h) (by omega)) dX4_isOnLine_151 ml_X4_103 rfl rfl rfl (by decide) (Nat.le_of_ble_eq_true rfl) ?_
          refine G_icmp_ge (pc := 154) (tgt := 161) dX4_isOnLine_154 rfl (fun h_154 => ?_) (fun h_154 => ?_)
          · refine G_iconst (pc := 161) dX4_isOnLine_161 (by decide) ?_
            exact G_zreturn (pc := 162) dX4_isOnLine_162 (by first | exact Or.inl rfl | exact Or.inr rfl | omega | (split <;> first | exact Or.inl rfl | exact Or.inr rfl)) (qeq (by simp only [hON, hd0, ne_eq, not_false_eq_true, true_and]; grind))
          · refine G_iconst (pc := 157) dX4_isOnLine_157 (by decide) ?_
            refine G_goto (pc := 158) (tgt := 162) dX4_isOnLine_158 rfl ?_
            exact G_zreturn (pc := 162) dX4_isOnLine_162 (by first | exact Or.inl rfl | exact Or.inr rfl | omega | (split <;> first | exact Or.inl rfl | exact Or.inr rfl)) (qeq (by simp only [hON, hd0, ne_eq, not_false_eq_true, true_and]; grind))
  refine G_aload_n (pc := 0) dX4_isOnLine_0 rfl ?_
  refine G_getP (pc := 1) dX4_isOnLine_1 fk_X4_15 rfl rfl rfl ?_
  refine G_iload_n (pc := 4) dX4_isOnLine_4 rfl ?_
  refine G_cV1 (pc := 5) (c_X2_straightLength_3 _ _ (by exact h.1) (by omega) (by exact h.2.1) (by exact h.2.2.1) (by exact h.2.2.2.1)) dX4_isOnLine_5 ml_X4_91 rfl rfl rfl (by decide) (Nat.le_of_ble_eq_true rfl) ?_
  rw [hdd]
  refine G_istore (pc := 8) dX4_isOnLine_8 (Nat.le_of_ble_eq_true rfl) rfl ?_
  refine G_iload (pc := 10) dX4_isOnLine_10 rfl ?_
  refine G_if_ne (pc := 12) (tgt := 17) dX4_isOnLine_12 rfl (fun h_12 => ?_) (fun h_12 => ?_)
  · try simp only [bq0, ne_eq, Classical.not_not] at h_12
    refine G_aload_n (pc := 17) dX4_isOnLine_17 rfl ?_
    refine G_getP (pc := 18) dX4_isOnLine_18 fk_X4_9 rfl rfl rfl ?_
    refine G_getP (pc := 21) dX4_isOnLine_21 fk_X4_72 rfl rfl rfl ?_
    refine G_iload_n (pc := 24) dX4_isOnLine_24 rfl ?_
    refine G_iaload (pc := 25) dX4_isOnLine_25 rfl rfl (by omega) ?_
    refine G_istore (pc := 26) dX4_isOnLine_26 (Nat.le_of_ble_eq_true rfl) rfl ?_
    refine G_join (pc := 28) (P := fun v => v = @ite Int (tnP (t 14 l)) (Classical.propDecidable _) 1 0) 60 (fun v_60 hv_60 => ?_) (fun j_60 => ?_)
    · refine G_istore (pc := 60) dX4_isOnLine_60 (Nat.le_of_ble_eq_true rfl) rfl ?_
      refine G_join (pc := 62) (P := fun v => v = beg (t 14 l) (t 13 l) (t 15 l)) 88 (fun v_88 hv_88 => ?_) (fun j_88 => ?_)
      · refine G_istore (pc := 88) dX4_isOnLine_88 (Nat.le_of_ble_eq_true rfl) rfl ?_
        refine G_join (pc := 90) (P := fun v => v = beg (t 14 l) (t 15 l) (t 13 l)) 116 (fun v_116 hv_116 => ?_) (fun j_116 => ?_)
        · refine G_istore (pc := 116) dX4_isOnLine_116 (Nat.le_of_ble_eq_true rfl) rfl ?_
          exact tail h_12 _ _ _ hv_88 hv_116 none
        · refine G_iload (pc := 90) dX4_isOnLine_90 rfl ?_
          refine G_if_eq (pc := 92) (tgt := 107) dX4_isOnLine_92 rfl (fun h_92 => ?_) (fun h_92 => ?_)
          · try simp only [bq0, ne_eq, Classical.not_not] at h_92
            refine G_aload_n (pc := 107) dX4_isOnLine_107 rfl ?_
            refine G_getP (pc := 108) dX4_isOnLine_108 fk_X4_9 rfl rfl rfl ?_
            refine G_getP (pc := 111) dX4_isOnLine_111 fk_X4_100 rfl rfl rfl ?_
            refine G_iload_n (pc := 114) dX4_isOnLine_114 rfl ?_
            refine G_iaload (pc := 115) dX4_isOnLine_115 rfl rfl (by omega) ?_
            exact j_116 _ (by unfold beg; grind)
          · try simp only [bq0, ne_eq, Classical.not_not] at h_92
            refine G_aload_n (pc := 95) dX4_isOnLine_95 rfl ?_
            refine G_getP (pc := 96) dX4_isOnLine_96 fk_X4_9 rfl rfl rfl ?_
            refine G_getP (pc := 99) dX4_isOnLine_99 fk_X4_82 rfl rfl rfl ?_
            refine G_iload_n (pc := 102) dX4_isOnLine_102 rfl ?_
            refine G_iaload (pc := 103) dX4_isOnLine_103 rfl rfl (by omega) ?_
            refine G_goto (pc := 104) (tgt := 116) dX4_isOnLine_104 rfl ?_
            exact j_116 _ (by unfold beg; grind)
      · refine G_iload (pc := 62) dX4_isOnLine_62 rfl ?_
        refine G_if_eq (pc := 64) (tgt := 79) dX4_isOnLine_64 rfl (fun h_64 => ?_) (fun h_64 => ?_)
        · try simp only [bq0, ne_eq, Classical.not_not] at h_64
          refine G_aload_n (pc := 79) dX4_isOnLine_79 rfl ?_
          refine G_getP (pc := 80) dX4_isOnLine_80 fk_X4_9 rfl rfl rfl ?_
          refine G_getP (pc := 83) dX4_isOnLine_83 fk_X4_82 rfl rfl rfl ?_
          refine G_iload_n (pc := 86) dX4_isOnLine_86 rfl ?_
          refine G_iaload (pc := 87) dX4_isOnLine_87 rfl rfl (by omega) ?_
          exact j_88 _ (by unfold beg; grind)
        · try simp only [bq0, ne_eq, Classical.not_not] at h_64
          refine G_aload_n (pc := 67) dX4_isOnLine_67 rfl ?_
          refine G_getP (pc := 68) dX4_isOnLine_68 fk_X4_9 rfl rfl rfl ?_
          refine G_getP (pc := 71) dX4_isOnLine_71 fk_X4_100 rfl rfl rfl ?_
          refine G_iload_n (pc := 74) dX4_isOnLine_74 rfl ?_
          refine G_iaload (pc := 75) dX4_isOnLine_75 rfl rfl (by omega) ?_
          refine G_goto (pc := 76) (tgt := 88) dX4_isOnLine_76 rfl ?_
          exact j_88 _ (by unfold beg; grind)
    · refine G_getstatic (pc := 28) dX4_isOnLine_28 sk_X4_94 ?_
      refine G_iload (pc := 31) dX4_isOnLine_31 rfl ?_
      refine G_sl1 (pc := 33) dX4_isOnLine_33 (by omega) ?_
      refine G_if_lt (pc := 34) (tgt := 55) dX4_isOnLine_34 rfl (fun h_34 => ?_) (fun h_34 => ?_)
      · refine G_iconst (pc := 55) dX4_isOnLine_55 (by decide) ?_
        refine G_goto (pc := 56) (tgt := 60) dX4_isOnLine_56 rfl ?_
        exact j_60 _ (by unfold tnP; grind)
      · refine G_getstatic (pc := 37) dX4_isOnLine_37 sk_X4_94 ?_
        refine G_iload (pc := 40) dX4_isOnLine_40 rfl ?_
        refine G_sl1 (pc := 42) dX4_isOnLine_42 (by omega) ?_
        refine G_if_ne (pc := 43) (tgt := 59) dX4_isOnLine_43 rfl (fun h_43 => ?_) (fun h_43 => ?_)
        · try simp only [bq0, ne_eq, Classical.not_not] at h_43
          refine G_iconst (pc := 59) dX4_isOnLine_59 (by decide) ?_
          exact j_60 _ (by unfold tnP; grind)
        · try simp only [bq0, ne_eq, Classical.not_not] at h_43
          refine G_getstatic (pc := 46) dX4_isOnLine_46 sk_X4_97 ?_
          refine G_iload (pc := 49) dX4_isOnLine_49 rfl ?_
          refine G_sl2 (pc := 51) dX4_isOnLine_51 (by omega) ?_
          refine G_if_ge (pc := 52) (tgt := 59) dX4_isOnLine_52 rfl (fun h_52 => ?_) (fun h_52 => ?_)
          · refine G_iconst (pc := 59) dX4_isOnLine_59 (by decide) ?_
            exact j_60 _ (by unfold tnP; grind)
          · refine G_iconst (pc := 55) dX4_isOnLine_55 (by decide) ?_
            refine G_goto (pc := 56) (tgt := 60) dX4_isOnLine_56 rfl ?_
            exact j_60 _ (by unfold tnP; grind)
  · try simp only [bq0, ne_eq, Classical.not_not] at h_12
    refine G_iconst (pc := 15) dX4_isOnLine_15 (by decide) ?_
    exact G_zreturn (pc := 16) dX4_isOnLine_16 (by first | exact Or.inl rfl | exact Or.inr rfl | omega | (split <;> first | exact Or.inl rfl | exact Or.inr rfl)) (qeq (by rw [if_neg (fun z => z.1 h_12)]))
noncomputable def lineP (n : Int) (fr di to wi ps xs ys ls : Int → Int) (W N v c q l : Int) : Prop := (di l < 8 ∧ ps (fr l) ≠ 0 ∧ ps (to l) ≠ 0 ∧ ls (fr l) = v) ∧ onCl n fr di to wi ps xs ys ls W N c q l
theorem c_X4_lineAt (t : Sto) (v c q : Int) (h : DR t) (hc : 0 ≤ c ∧ c ≤ 2147483647) (hq : 0 ≤ q ∧ q ≤ 2147483647) : CT yX4_lineAt cX4_lineAt 6 (some .int) 3 [mP 9, mI v, mI c, mI q] t (fun a t' => a = some (mI (if 0 ≤ fst (lineP (t 267 0) (t 13) (t 14) (t 15) (t 10) (t 21) (t 18) (t 19) (t 20) (t 778 0) (t 779 0) v c q) 0 (t 272 0) then lineI (t 14 (fst (lineP (t 267 0) (t 13) (t 14) (t 15) (t 10) (t 21) (t 18) (t 19) (t 20) (t 778 0) (t 779 0) v c q) 0 (t 272 0))) else 32)) ∧ t' = t) := by
  refine CT_of rfl rfl (Nat.le_of_ble_eq_true rfl) (fun E ht has => ?_)
  have hb := h.1.1
  generalize hZ : fst (lineP (t 267 0) (t 13) (t 14) (t 15) (t 10) (t 21) (t 18) (t 19) (t 20) (t 778 0) (t 779 0) v c q) 0 (t 272 0) = Z
  have loop : ∀ l, l ≤ t 272 0 → ∀ o5 : Option MV, 0 ≤ l → fst (lineP (t 267 0) (t 13) (t 14) (t 15) (t 10) (t 21) (t 18) (t 19) (t 20) (t 778 0) (t 779 0) v c q) l (t 272 0) = Z → G E cX4_lineAt RX4 (some .int) 3 3 [some (mP 9), some (mI v), some (mI c), some (mI q), some (mI l), o5] [] t (fun a t' => a = some (mI (if 0 ≤ Z then lineI (t 14 Z) else 32)) ∧ t' = t) := by
    refine up_ind (fun l hl ih o5 h0 hX => ?_)
    refine G_iload (pc := 3) dX4_lineAt_3 rfl ?_
    refine G_aload_n (pc := 5) dX4_lineAt_5 rfl ?_
    refine G_getP (pc := 6) dX4_lineAt_6 fk_X4_9 rfl rfl rfl ?_
    refine G_getI (pc := 9) dX4_lineAt_9 fk_X4_69 rfl rfl rfl ?_
    refine G_icmp_ge (pc := 12) (tgt := 108) dX4_lineAt_12 rfl (fun h_12 => ?_) (fun h_12 => ?_)
    · refine G_bipush (pc := 108) (x := 32) dX4_lineAt_108 rfl (by decide) ?_
      exact G_ireturn (pc := 110) dX4_lineAt_110 (qeq (by rw [fst_ge (by omega)] at hX; rw [← hX, if_neg (by omega)]))
    · obtain ⟨hfr, hto, hdi, -⟩ := h.1.2 l h0 (by omega)
      refine G_join (pc := 15) (P := fun v => v = (if t 14 l < 8 ∧ t 21 (t 13 l) ≠ 0 ∧ t 21 (t 15 l) ≠ 0 then (1 : Int) else 0)) 47 (fun v_47 hv_47 => ?_) (fun j_47 => ?_)
      · refine G_istore (pc := 47) dX4_lineAt_47 (Nat.le_of_ble_eq_true rfl) rfl ?_
        refine G_iload (pc := 49) dX4_lineAt_49 rfl ?_
        refine G_if_eq (pc := 51) (tgt := 102) dX4_lineAt_51 rfl (fun h_51 => ?_) (fun h_51 => ?_)
        · try simp only [bq0, ne_eq, Classical.not_not] at h_51
          rw [hv_47, bq0] at h_51
          have hN : ¬ lineP (t 267 0) (t 13) (t 14) (t 15) (t 10) (t 21) (t 18) (t 19) (t 20) (t 778 0) (t 779 0) v c q l := fun z => h_51 ⟨z.1.1, z.1.2.1, z.1.2.2.1⟩
          refine G_iinc (pc := 102) dX4_lineAt_102 rfl rfl (by omega) ?_
          refine G_goto (pc := 105) (tgt := 3) dX4_lineAt_105 rfl ?_
          exact ih (by omega) _ (by omega) ((fst_neg (by omega) hN).symm.trans hX)
        · try simp only [bq0, ne_eq, Classical.not_not] at h_51
          rw [hv_47, bq0, Classical.not_not] at h_51
          refine G_aload_n (pc := 54) dX4_lineAt_54 rfl ?_
          refine G_getP (pc := 55) dX4_lineAt_55 fk_X4_15 rfl rfl rfl ?_
          refine G_getP (pc := 58) dX4_lineAt_58 fk_X4_79 rfl rfl rfl ?_
          refine G_aload_n (pc := 61) dX4_lineAt_61 rfl ?_
          refine G_getP (pc := 62) dX4_lineAt_62 fk_X4_9 rfl rfl rfl ?_
          refine G_getP (pc := 65) dX4_lineAt_65 fk_X4_82 rfl rfl rfl ?_
          refine G_iload (pc := 68) dX4_lineAt_68 rfl ?_
          refine G_iaload (pc := 70) dX4_lineAt_70 rfl rfl (by omega) ?_
          refine G_iaload (pc := 71) dX4_lineAt_71 rfl rfl (by omega) ?_
          refine G_iload_n (pc := 72) dX4_lineAt_72 rfl ?_
          refine G_icmp_ne (pc := 73) (tgt := 102) dX4_lineAt_73 rfl (fun h_73 => ?_) (fun h_73 => ?_)
          · have hN : ¬ lineP (t 267 0) (t 13) (t 14) (t 15) (t 10) (t 21) (t 18) (t 19) (t 20) (t 778 0) (t 779 0) v c q l := fun z => h_73 z.1.2.2.2
            refine G_iinc (pc := 102) dX4_lineAt_102 rfl rfl (by omega) ?_
            refine G_goto (pc := 105) (tgt := 3) dX4_lineAt_105 rfl ?_
            exact ih (by omega) _ (by omega) ((fst_neg (by omega) hN).symm.trans hX)
          · refine G_aload_n (pc := 76) dX4_lineAt_76 rfl ?_
            refine G_iload (pc := 77) dX4_lineAt_77 rfl ?_
            refine G_iload_n (pc := 79) dX4_lineAt_79 rfl ?_
            refine G_iload_n (pc := 80) dX4_lineAt_80 rfl ?_
            refine G_cV1 (pc := 81) (c_X4_isOnLine _ _ _ _ (by exact h) (by omega) (by exact h_51.2) (by omega) (by omega)) dX4_lineAt_81 ml_X4_85 rfl rfl rfl (by decide) (Nat.le_of_ble_eq_true rfl) ?_
            refine G_if_eq (pc := 84) (tgt := 102) dX4_lineAt_84 rfl (fun h_84 => ?_) (fun h_84 => ?_)
            · try simp only [bq0, ne_eq, Classical.not_not] at h_84
              have hN : ¬ lineP (t 267 0) (t 13) (t 14) (t 15) (t 10) (t 21) (t 18) (t 19) (t 20) (t 778 0) (t 779 0) v c q l := fun z => h_84 z.2
              refine G_iinc (pc := 102) dX4_lineAt_102 rfl rfl (by omega) ?_
              refine G_goto (pc := 105) (tgt := 3) dX4_lineAt_105 rfl ?_
              exact ih (by omega) _ (by omega) ((fst_neg (by omega) hN).symm.trans hX)
            · try simp only [bq0, ne_eq, Classical.not_not] at h_84
              have hP : lineP (t 267 0) (t 13) (t 14) (t 15) (t 10) (t 21) (t 18) (t 19) (t 20) (t 778 0) (t 779 0) v c q l := ⟨⟨h_51.1, h_51.2.1, h_51.2.2, h_73⟩, h_84⟩
              refine G_getstatic (pc := 87) dX4_lineAt_87 sk_X4_88 ?_
              refine G_aload_n (pc := 90) dX4_lineAt_90 rfl ?_
              refine G_getP (pc := 91) dX4_lineAt_91 fk_X4_9 rfl rfl rfl ?_
              refine G_getP (pc := 94) dX4_lineAt_94 fk_X4_72 rfl rfl rfl ?_
              refine G_iload (pc := 97) dX4_lineAt_97 rfl ?_
              refine G_iaload (pc := 99) dX4_lineAt_99 rfl rfl (by omega) ?_
              refine G_sl4 (pc := 100) dX4_lineAt_100 (by omega) ?_
              exact G_ireturn (pc := 101) dX4_lineAt_101 (qeq (by rw [fst_pos (by omega) hP] at hX; rw [← hX, if_pos h0]))
      · obtain ⟨hfr, hto, hdi, -⟩ := h.1.2 l h0 (by omega)
        refine G_aload_n (pc := 15) dX4_lineAt_15 rfl ?_
        refine G_getP (pc := 16) dX4_lineAt_16 fk_X4_9 rfl rfl rfl ?_
        refine G_getP (pc := 19) dX4_lineAt_19 fk_X4_72 rfl rfl rfl ?_
        refine G_iload (pc := 22) dX4_lineAt_22 rfl ?_
        refine G_iaload (pc := 24) dX4_lineAt_24 rfl rfl (by omega) ?_
        refine G_bipush (pc := 25) (x := 8) dX4_lineAt_25 rfl (by decide) ?_
        refine G_icmp_ge (pc := 27) (tgt := 46) dX4_lineAt_27 rfl (fun h_27 => ?_) (fun h_27 => ?_)
        · refine G_iconst (pc := 46) dX4_lineAt_46 (by decide) ?_
          exact j_47 _ (by grind)
        · refine G_aload_n (pc := 30) dX4_lineAt_30 rfl ?_
          refine G_getP (pc := 31) dX4_lineAt_31 fk_X4_15 rfl rfl rfl ?_
          refine G_iload (pc := 34) dX4_lineAt_34 rfl ?_
          refine G_cV1 (pc := 36) (c_X2_hasBothEnds_3 _ _ (by exact h.1) (by omega)) dX4_lineAt_36 ml_X4_75 rfl rfl rfl (by decide) (Nat.le_of_ble_eq_true rfl) ?_
          refine G_if_eq (pc := 39) (tgt := 46) dX4_lineAt_39 rfl (fun h_39 => ?_) (fun h_39 => ?_)
          · try simp only [bq0, ne_eq, Classical.not_not] at h_39
            refine G_iconst (pc := 46) dX4_lineAt_46 (by decide) ?_
            exact j_47 _ (by grind)
          · try simp only [bq0, ne_eq, Classical.not_not] at h_39
            refine G_iconst (pc := 42) dX4_lineAt_42 (by decide) ?_
            refine G_goto (pc := 43) (tgt := 47) dX4_lineAt_43 rfl ?_
            exact j_47 _ (by grind)
  refine G_iconst (pc := 0) dX4_lineAt_0 (by decide) ?_
  refine G_istore (pc := 1) dX4_lineAt_1 (Nat.le_of_ble_eq_true rfl) rfl ?_
  exact loop 0 (by omega) _ (by omega) hZ
noncomputable def signS (n k : Int) (fr di to bo wi ps xs ys ls : Int → Int) (W N v c q : Int) : Int := if 0 ≤ fst (letP wi ps xs ys ls W N v c q) 0 n then 65 + fst (letP wi ps xs ys ls W N v c q) 0 n else if 0 ≤ fst (stairP k fr di to bo wi ps xs ys ls W N v c q) 0 n then stairV k fr di to bo wi xs W c (fst (stairP k fr di to bo wi ps xs ys ls W N v c q) 0 n) else if 0 ≤ fst (lineP n fr di to wi ps xs ys ls W N v c q) 0 k then lineI (di (fst (lineP n fr di to wi ps xs ys ls W N v c q) 0 k)) else 32
theorem stairV_ne (k : Int) (fr di to bo wi xs : Int → Int) (W c r : Int) : stairV k fr di to bo wi xs W c r ≠ 32 := by
  unfold stairV
  split <;> decide
def drT (t : Sto) : Sto := su (su t 778 0 (lowS (t 267 0) (t 21) (t 18))) 779 0 (lowS (t 267 0) (t 21) (t 19))
theorem drT_ne (t : Sto) {w : Nat} (h : w ≠ 778 ∧ w ≠ 779) : drT t w = t w := by
  unfold drT
  rw [su_ne h.2, su_ne h.1]
theorem c_X4_signAt (t : Sto) (v c q : Int) (hS : SC t) (hX : BD (t 18)) (hY : BD (t 19)) (hL : BD (t 20)) (hW : ∀ r, 0 ≤ r → r < t 267 0 → 1 ≤ t 10 r ∧ t 10 r ≤ 5) (hc : 0 ≤ c ∧ c ≤ 2147483647) (hq : 0 ≤ q ∧ q ≤ 2147483647) : CT yX4_signAt cX4_signAt 5 (some .int) 4 [mP 9, mI v, mI c, mI q] t (fun a t' => a = some (mI (signS (t 267 0) (t 272 0) (t 13) (t 14) (t 15) (t 16) (t 10) (t 21) (t 18) (t 19) (t 20) (lowS (t 267 0) (t 21) (t 18)) (lowS (t 267 0) (t 21) (t 19)) v c q)) ∧ t' = drT t) := by
  refine CT_of rfl rfl (Nat.le_of_ble_eq_true rfl) (fun E ht has => ?_)
  have hb := hS.1
  have e267 := drT_ne t (w := 267) (by decide)
  have e272 := drT_ne t (w := 272) (by decide)
  have e13 := drT_ne t (w := 13) (by decide)
  have e14 := drT_ne t (w := 14) (by decide)
  have e15 := drT_ne t (w := 15) (by decide)
  have e16 := drT_ne t (w := 16) (by decide)
  have e10 := drT_ne t (w := 10) (by decide)
  have e18 := drT_ne t (w := 18) (by decide)
  have e19 := drT_ne t (w := 19) (by decide)
  have e20 := drT_ne t (w := 20) (by decide)
  have e21 := drT_ne t (w := 21) (by decide)
  have e778 : drT t 778 0 = lowS (t 267 0) (t 21) (t 18) := by unfold drT; rw [su_ne (by decide), su_at]
  have e779 : drT t 779 0 = lowS (t 267 0) (t 21) (t 19) := by unfold drT; rw [su_at]
  have hD : DR (drT t) := by
    unfold DR SC
    rw [e267, e272, e13, e14, e15, e16, e10, e18, e19, e20, e21, e778, e779]
    exact ⟨hS, hX, hY, hL, hW, rfl, rfl⟩
  unfold signS
  have lre : ∀ {x : Int}, x ≠ 32 → x ≠ 32 := fun h => h
  refine G_aload_n (pc := 0) dX4_signAt_0 rfl ?_
  refine G_aload_n (pc := 1) dX4_signAt_1 rfl ?_
  refine G_getP (pc := 2) dX4_signAt_2 fk_X4_15 rfl rfl rfl ?_
  refine G_aload_n (pc := 5) dX4_signAt_5 rfl ?_
  refine G_getP (pc := 6) dX4_signAt_6 fk_X4_15 rfl rfl rfl ?_
  refine G_getP (pc := 9) dX4_signAt_9 fk_X4_19 rfl rfl rfl ?_
  refine G_cV1 (pc := 12) (c_X2_lowest_3_18 _ (by omega)) dX4_signAt_12 ml_X4_25 rfl rfl rfl (by decide) (Nat.le_of_ble_eq_true rfl) ?_
  refine G_put (pc := 15) dX4_signAt_15 fk_X4_29 fw_X4_2 rfl rfl rfl (fun h => absurd h (by decide)) ?_
  refine G_aload_n (pc := 18) dX4_signAt_18 rfl ?_
  refine G_aload_n (pc := 19) dX4_signAt_19 rfl ?_
  refine G_getP (pc := 20) dX4_signAt_20 fk_X4_15 rfl rfl rfl ?_
  refine G_aload_n (pc := 23) dX4_signAt_23 rfl ?_
  refine G_getP (pc := 24) dX4_signAt_24 fk_X4_15 rfl rfl rfl ?_
  refine G_getP (pc := 27) dX4_signAt_27 fk_X4_33 rfl rfl rfl ?_
  refine G_cV1 (pc := 30) (c_X2_lowest_3_19 _ (by simp (disch := decide) only [su_ne]; omega)) dX4_signAt_30 ml_X4_25 rfl rfl rfl (by decide) (Nat.le_of_ble_eq_true rfl) ?_
  simp (disch := decide) only [su_ne]
  refine G_put (pc := 33) dX4_signAt_33 fk_X4_36 fw_X4_3 rfl rfl rfl (fun h => absurd h (by decide)) ?_
  change G E cX4_signAt RX4 (some .int) 4 (33 + 3) _ _ (drT t) _
  refine G_aload_n (pc := 36) dX4_signAt_36 rfl ?_
  refine G_iload_n (pc := 37) dX4_signAt_37 rfl ?_
  refine G_iload_n (pc := 38) dX4_signAt_38 rfl ?_
  refine G_iload_n (pc := 39) dX4_signAt_39 rfl ?_
  refine G_cV1 (pc := 40) (c_X4_letterAt _ _ _ _ (by exact hD)) dX4_signAt_40 ml_X4_39 rfl rfl rfl (by decide) (Nat.le_of_ble_eq_true rfl) ?_
  rw [e267, e10, e18, e19, e20, e21, e778, e779]
  refine G_istore (pc := 43) dX4_signAt_43 (Nat.le_of_ble_eq_true rfl) rfl ?_
  refine G_iload (pc := 45) dX4_signAt_45 rfl ?_
  refine G_bipush (pc := 47) (x := 32) dX4_signAt_47 rfl (by decide) ?_
  refine G_icmp_ne (pc := 49) (tgt := 61) dX4_signAt_49 rfl (fun h_49 => ?_) (fun h_49 => ?_)
  · refine G_iload (pc := 61) dX4_signAt_61 rfl ?_
    refine G_bipush (pc := 63) (x := 32) dX4_signAt_63 rfl (by decide) ?_
    refine G_icmp_ne (pc := 65) (tgt := 78) dX4_signAt_65 rfl (fun h_65 => ?_) (fun h_65 => ?_)
    · refine G_iload (pc := 78) dX4_signAt_78 rfl ?_
      exact G_ireturn (pc := 80) dX4_signAt_80 (qeq (by generalize hZ1 : fst (letP (t 10) (t 21) (t 18) (t 19) (t 20) (lowS (t 267 0) (t 21) (t 18)) (lowS (t 267 0) (t 21) (t 19)) v c q) 0 (t 267 0) = Z1 at *; generalize hZ2 : fst (stairP (t 272 0) (t 13) (t 14) (t 15) (t 16) (t 10) (t 21) (t 18) (t 19) (t 20) (lowS (t 267 0) (t 21) (t 18)) (lowS (t 267 0) (t 21) (t 19)) v c q) 0 (t 267 0) = Z2 at *; have hne := stairV_ne (t 272 0) (t 13) (t 14) (t 15) (t 16) (t 10) (t 18) (lowS (t 267 0) (t 21) (t 18)) c Z2; generalize stairV (t 272 0) (t 13) (t 14) (t 15) (t 16) (t 10) (t 18) (lowS (t 267 0) (t 21) (t 18)) c Z2 = V at *; clear hS hX hY hL hW hD e267 e272 e13 e14 e15 e16 e10 e18 e19 e20 e21 e778 e779 hZ1 hZ2; grind))
    · refine G_aload_n (pc := 68) dX4_signAt_68 rfl ?_
      refine G_iload_n (pc := 69) dX4_signAt_69 rfl ?_
      refine G_iload_n (pc := 70) dX4_signAt_70 rfl ?_
      refine G_iload_n (pc := 71) dX4_signAt_71 rfl ?_
      refine G_cV1 (pc := 72) (c_X4_lineAt _ _ _ _ (by exact hD) (by omega) (by omega)) dX4_signAt_72 ml_X4_46 rfl rfl rfl (by decide) (Nat.le_of_ble_eq_true rfl) ?_
      rw [e267, e272, e13, e14, e15, e10, e18, e19, e20, e21, e778, e779]
      refine G_goto (pc := 75) (tgt := 80) dX4_signAt_75 rfl ?_
      exact G_ireturn (pc := 80) dX4_signAt_80 (qeq (by generalize hZ1 : fst (letP (t 10) (t 21) (t 18) (t 19) (t 20) (lowS (t 267 0) (t 21) (t 18)) (lowS (t 267 0) (t 21) (t 19)) v c q) 0 (t 267 0) = Z1 at *; generalize hZ2 : fst (stairP (t 272 0) (t 13) (t 14) (t 15) (t 16) (t 10) (t 21) (t 18) (t 19) (t 20) (lowS (t 267 0) (t 21) (t 18)) (lowS (t 267 0) (t 21) (t 19)) v c q) 0 (t 267 0) = Z2 at *; have hne := stairV_ne (t 272 0) (t 13) (t 14) (t 15) (t 16) (t 10) (t 18) (lowS (t 267 0) (t 21) (t 18)) c Z2; generalize stairV (t 272 0) (t 13) (t 14) (t 15) (t 16) (t 10) (t 18) (lowS (t 267 0) (t 21) (t 18)) c Z2 = V at *; clear hS hX hY hL hW hD e267 e272 e13 e14 e15 e16 e10 e18 e19 e20 e21 e778 e779 hZ1 hZ2; grind))
  · refine G_aload_n (pc := 52) dX4_signAt_52 rfl ?_
    refine G_iload_n (pc := 53) dX4_signAt_53 rfl ?_
    refine G_iload_n (pc := 54) dX4_signAt_54 rfl ?_
    refine G_iload_n (pc := 55) dX4_signAt_55 rfl ?_
    refine G_cV1 (pc := 56) (c_X4_stairsAt _ _ _ _ (by exact hD)) dX4_signAt_56 ml_X4_43 rfl rfl rfl (by decide) (Nat.le_of_ble_eq_true rfl) ?_
    rw [e267, e272, e13, e14, e15, e16, e10, e18, e19, e20, e21, e778, e779]
    refine G_istore (pc := 59) dX4_signAt_59 (Nat.le_of_ble_eq_true rfl) rfl ?_
    refine G_iload (pc := 61) dX4_signAt_61 rfl ?_
    refine G_bipush (pc := 63) (x := 32) dX4_signAt_63 rfl (by decide) ?_
    refine G_icmp_ne (pc := 65) (tgt := 78) dX4_signAt_65 rfl (fun h_65 => ?_) (fun h_65 => ?_)
    · refine G_iload (pc := 78) dX4_signAt_78 rfl ?_
      exact G_ireturn (pc := 80) dX4_signAt_80 (qeq (by generalize hZ1 : fst (letP (t 10) (t 21) (t 18) (t 19) (t 20) (lowS (t 267 0) (t 21) (t 18)) (lowS (t 267 0) (t 21) (t 19)) v c q) 0 (t 267 0) = Z1 at *; generalize hZ2 : fst (stairP (t 272 0) (t 13) (t 14) (t 15) (t 16) (t 10) (t 21) (t 18) (t 19) (t 20) (lowS (t 267 0) (t 21) (t 18)) (lowS (t 267 0) (t 21) (t 19)) v c q) 0 (t 267 0) = Z2 at *; have hne := stairV_ne (t 272 0) (t 13) (t 14) (t 15) (t 16) (t 10) (t 18) (lowS (t 267 0) (t 21) (t 18)) c Z2; generalize stairV (t 272 0) (t 13) (t 14) (t 15) (t 16) (t 10) (t 18) (lowS (t 267 0) (t 21) (t 18)) c Z2 = V at *; clear hS hX hY hL hW hD e267 e272 e13 e14 e15 e16 e10 e18 e19 e20 e21 e778 e779 hZ1 hZ2; grind))
    · refine G_aload_n (pc := 68) dX4_signAt_68 rfl ?_
      refine G_iload_n (pc := 69) dX4_signAt_69 rfl ?_
      refine G_iload_n (pc := 70) dX4_signAt_70 rfl ?_
      refine G_iload_n (pc := 71) dX4_signAt_71 rfl ?_
      refine G_cV1 (pc := 72) (c_X4_lineAt _ _ _ _ (by exact hD) (by omega) (by omega)) dX4_signAt_72 ml_X4_46 rfl rfl rfl (by decide) (Nat.le_of_ble_eq_true rfl) ?_
      rw [e267, e272, e13, e14, e15, e10, e18, e19, e20, e21, e778, e779]
      refine G_goto (pc := 75) (tgt := 80) dX4_signAt_75 rfl ?_
      exact G_ireturn (pc := 80) dX4_signAt_80 (qeq (by generalize hZ1 : fst (letP (t 10) (t 21) (t 18) (t 19) (t 20) (lowS (t 267 0) (t 21) (t 18)) (lowS (t 267 0) (t 21) (t 19)) v c q) 0 (t 267 0) = Z1 at *; generalize hZ2 : fst (stairP (t 272 0) (t 13) (t 14) (t 15) (t 16) (t 10) (t 21) (t 18) (t 19) (t 20) (lowS (t 267 0) (t 21) (t 18)) (lowS (t 267 0) (t 21) (t 19)) v c q) 0 (t 267 0) = Z2 at *; have hne := stairV_ne (t 272 0) (t 13) (t 14) (t 15) (t 16) (t 10) (t 18) (lowS (t 267 0) (t 21) (t 18)) c Z2; generalize stairV (t 272 0) (t 13) (t 14) (t 15) (t 16) (t 10) (t 18) (lowS (t 267 0) (t 21) (t 18)) c Z2 = V at *; clear hS hX hY hL hW hD e267 e272 e13 e14 e15 e16 e10 e18 e19 e20 e21 e778 e779 hZ1 hZ2; grind))
noncomputable def signR (n k : Int) (fr di to bo wi ps xs ys ls : Int → Int) (v c q : Int) : Int := if 0 ≤ c ∧ 0 ≤ q then signS n k fr di to bo wi ps xs ys ls (lowS n ps xs) (lowS n ps ys) v c q else -1
theorem c_X8_sign (t : Sto) (v c q : Int) (hS : SC t) (hX : BD (t 18)) (hY : BD (t 19)) (hL : BD (t 20)) (hW : ∀ r, 0 ≤ r → r < t 267 0 → 1 ≤ t 10 r ∧ t 10 r ≤ 5) (hc : c ≤ 2147483647) (hq : q ≤ 2147483647) : CT yX8_sign cX8_sign 4 (some .int) 5 [mP 0, mI v, mI c, mI q] t (fun a t' => ∃ x, a = some (mI x) ∧ (x = signR (t 267 0) (t 272 0) (t 13) (t 14) (t 15) (t 16) (t 10) (t 21) (t 18) (t 19) (t 20) v c q ∧ (t' = t ∨ t' = drT t))) := by
  refine CT_of rfl rfl (Nat.le_of_ble_eq_true rfl) (fun E ht has => ?_)
  unfold signR
  refine G_iload_n (pc := 0) dX8_sign_0 rfl ?_
  refine G_if_lt (pc := 1) (tgt := 8) dX8_sign_1 rfl (fun h_1 => ?_) (fun h_1 => ?_)
  · refine G_iconst (pc := 8) dX8_sign_8 (by decide) ?_
    refine G_goto (pc := 9) (tgt := 22) dX8_sign_9 rfl ?_
    exact G_ireturn (pc := 22) dX8_sign_22 ⟨_, rfl, by first | rw [if_neg (by omega)] | rw [if_pos (by omega)], by first | exact Or.inr rfl | exact Or.inl rfl⟩
  · refine G_iload_n (pc := 4) dX8_sign_4 rfl ?_
    refine G_if_ge (pc := 5) (tgt := 12) dX8_sign_5 rfl (fun h_5 => ?_) (fun h_5 => ?_)
    · refine G_aload_n (pc := 12) dX8_sign_12 rfl ?_
      refine G_getP (pc := 13) dX8_sign_13 fk_X8_53 rfl rfl rfl ?_
      refine G_iload_n (pc := 16) dX8_sign_16 rfl ?_
      refine G_iload_n (pc := 17) dX8_sign_17 rfl ?_
      refine G_iload_n (pc := 18) dX8_sign_18 rfl ?_
      refine G_cV1 (pc := 19) (c_X4_signAt _ _ _ _ (by exact hS) (by exact hX) (by exact hY) (by exact hL) (by exact hW) (by omega) (by omega)) dX8_sign_19 ml_X8_183 rfl rfl rfl (by decide) (Nat.le_of_ble_eq_true rfl) ?_
      exact G_ireturn (pc := 22) dX8_sign_22 ⟨_, rfl, by first | rw [if_neg (by omega)] | rw [if_pos (by omega)], by first | exact Or.inr rfl | exact Or.inl rfl⟩
    · refine G_iconst (pc := 8) dX8_sign_8 (by decide) ?_
      refine G_goto (pc := 9) (tgt := 22) dX8_sign_9 rfl ?_
      exact G_ireturn (pc := 22) dX8_sign_22 ⟨_, rfl, by first | rw [if_neg (by omega)] | rw [if_pos (by omega)], by first | exact Or.inr rfl | exact Or.inl rfl⟩
