/-! STORY: the small methods -/
theorem c_X5_isRoom (t : Sto) (r : Int) : CT yX5_isRoom cX5_isRoom 2 (some .boolean) 0 [mP 1, mI r] t (fun a t' => a = some (mI (if 0 ≤ r ∧ r < t 267 0 then 1 else 0)) ∧ t' = t) := by
  refine CT_of rfl rfl (Nat.le_of_ble_eq_true rfl) (fun E ht has => ?_)
  refine G_iload_n (pc := 0) dX5_isRoom_0 rfl ?_
  refine G_if_lt (pc := 1) (tgt := 16) dX5_isRoom_1 rfl (fun h_1 => ?_) (fun h_1 => ?_)
  · refine G_iconst (pc := 16) dX5_isRoom_16 (by decide) ?_
    exact G_zreturn (pc := 17) dX5_isRoom_17 (by first | exact Or.inl rfl | exact Or.inr rfl | omega | (split <;> first | exact Or.inl rfl | exact Or.inr rfl)) (qeq (by first | rfl | omega | (split <;> omega) | grind))
  · refine G_iload_n (pc := 4) dX5_isRoom_4 rfl ?_
    refine G_aload_n (pc := 5) dX5_isRoom_5 rfl ?_
    refine G_getI (pc := 6) dX5_isRoom_6 fk_X5_34 rfl rfl rfl ?_
    refine G_icmp_ge (pc := 9) (tgt := 16) dX5_isRoom_9 rfl (fun h_9 => ?_) (fun h_9 => ?_)
    · refine G_iconst (pc := 16) dX5_isRoom_16 (by decide) ?_
      exact G_zreturn (pc := 17) dX5_isRoom_17 (by first | exact Or.inl rfl | exact Or.inr rfl | omega | (split <;> first | exact Or.inl rfl | exact Or.inr rfl)) (qeq (by first | rfl | omega | (split <;> omega) | grind))
    · refine G_iconst (pc := 12) dX5_isRoom_12 (by decide) ?_
      refine G_goto (pc := 13) (tgt := 17) dX5_isRoom_13 rfl ?_
      exact G_zreturn (pc := 17) dX5_isRoom_17 (by first | exact Or.inl rfl | exact Or.inr rfl | omega | (split <;> first | exact Or.inl rfl | exact Or.inr rfl)) (qeq (by first | rfl | omega | (split <;> omega) | grind))
theorem c_X5_isLink (t : Sto) (r : Int) : CT yX5_isLink cX5_isLink 2 (some .boolean) 0 [mP 1, mI r] t (fun a t' => a = some (mI (if 0 ≤ r ∧ r < t 272 0 then 1 else 0)) ∧ t' = t) := by
  refine CT_of rfl rfl (Nat.le_of_ble_eq_true rfl) (fun E ht has => ?_)
  refine G_iload_n (pc := 0) dX5_isLink_0 rfl ?_
  refine G_if_lt (pc := 1) (tgt := 16) dX5_isLink_1 rfl (fun h_1 => ?_) (fun h_1 => ?_)
  · refine G_iconst (pc := 16) dX5_isLink_16 (by decide) ?_
    exact G_zreturn (pc := 17) dX5_isLink_17 (by first | exact Or.inl rfl | exact Or.inr rfl | omega | (split <;> first | exact Or.inl rfl | exact Or.inr rfl)) (qeq (by first | rfl | omega | (split <;> omega) | grind))
  · refine G_iload_n (pc := 4) dX5_isLink_4 rfl ?_
    refine G_aload_n (pc := 5) dX5_isLink_5 rfl ?_
    refine G_getI (pc := 6) dX5_isLink_6 fk_X5_38 rfl rfl rfl ?_
    refine G_icmp_ge (pc := 9) (tgt := 16) dX5_isLink_9 rfl (fun h_9 => ?_) (fun h_9 => ?_)
    · refine G_iconst (pc := 16) dX5_isLink_16 (by decide) ?_
      exact G_zreturn (pc := 17) dX5_isLink_17 (by first | exact Or.inl rfl | exact Or.inr rfl | omega | (split <;> first | exact Or.inl rfl | exact Or.inr rfl)) (qeq (by first | rfl | omega | (split <;> omega) | grind))
    · refine G_iconst (pc := 12) dX5_isLink_12 (by decide) ?_
      refine G_goto (pc := 13) (tgt := 17) dX5_isLink_13 rfl ?_
      exact G_zreturn (pc := 17) dX5_isLink_17 (by first | exact Or.inl rfl | exact Or.inr rfl | omega | (split <;> first | exact Or.inl rfl | exact Or.inr rfl)) (qeq (by first | rfl | omega | (split <;> omega) | grind))
theorem c_X5_isFullOfRooms (t : Sto) : CT yX5_isFullOfRooms cX5_isFullOfRooms 1 (some .boolean) 0 [mP 1] t (fun a t' => a = some (mI (if 24 ≤ t 267 0 then 1 else 0)) ∧ t' = t) := by
  refine CT_of rfl rfl (Nat.le_of_ble_eq_true rfl) (fun E ht has => ?_)
  refine G_aload_n (pc := 0) dX5_isFullOfRooms_0 rfl ?_
  refine G_getI (pc := 1) dX5_isFullOfRooms_1 fk_X5_34 rfl rfl rfl ?_
  refine G_bipush (pc := 4) (x := 24) dX5_isFullOfRooms_4 rfl (by decide) ?_
  refine G_icmp_lt (pc := 6) (tgt := 13) dX5_isFullOfRooms_6 rfl (fun h_6 => ?_) (fun h_6 => ?_)
  · refine G_iconst (pc := 13) dX5_isFullOfRooms_13 (by decide) ?_
    exact G_zreturn (pc := 14) dX5_isFullOfRooms_14 (by first | exact Or.inl rfl | exact Or.inr rfl | omega | (split <;> first | exact Or.inl rfl | exact Or.inr rfl)) (qeq (by first | rfl | omega | (split <;> omega) | grind))
  · refine G_iconst (pc := 9) dX5_isFullOfRooms_9 (by decide) ?_
    refine G_goto (pc := 10) (tgt := 14) dX5_isFullOfRooms_10 rfl ?_
    exact G_zreturn (pc := 14) dX5_isFullOfRooms_14 (by first | exact Or.inl rfl | exact Or.inr rfl | omega | (split <;> first | exact Or.inl rfl | exact Or.inr rfl)) (qeq (by first | rfl | omega | (split <;> omega) | grind))
theorem c_X5_isFullOfLinks (t : Sto) : CT yX5_isFullOfLinks cX5_isFullOfLinks 1 (some .boolean) 0 [mP 1] t (fun a t' => a = some (mI (if 60 ≤ t 272 0 then 1 else 0)) ∧ t' = t) := by
  refine CT_of rfl rfl (Nat.le_of_ble_eq_true rfl) (fun E ht has => ?_)
  refine G_aload_n (pc := 0) dX5_isFullOfLinks_0 rfl ?_
  refine G_getI (pc := 1) dX5_isFullOfLinks_1 fk_X5_38 rfl rfl rfl ?_
  refine G_bipush (pc := 4) (x := 60) dX5_isFullOfLinks_4 rfl (by decide) ?_
  refine G_icmp_lt (pc := 6) (tgt := 13) dX5_isFullOfLinks_6 rfl (fun h_6 => ?_) (fun h_6 => ?_)
  · refine G_iconst (pc := 13) dX5_isFullOfLinks_13 (by decide) ?_
    exact G_zreturn (pc := 14) dX5_isFullOfLinks_14 (by first | exact Or.inl rfl | exact Or.inr rfl | omega | (split <;> first | exact Or.inl rfl | exact Or.inr rfl)) (qeq (by first | rfl | omega | (split <;> omega) | grind))
  · refine G_iconst (pc := 9) dX5_isFullOfLinks_9 (by decide) ?_
    refine G_goto (pc := 10) (tgt := 14) dX5_isFullOfLinks_10 rfl ?_
    exact G_zreturn (pc := 14) dX5_isFullOfLinks_14 (by first | exact Or.inl rfl | exact Or.inr rfl | omega | (split <;> first | exact Or.inl rfl | exact Or.inr rfl)) (qeq (by first | rfl | omega | (split <;> omega) | grind))
theorem c_X5_isLoop (t : Sto) (l : Int) (h : 0 ≤ l ∧ l < 60) : CT yX5_isLoop cX5_isLoop 2 (some .boolean) 0 [mP 1, mI l] t (fun a t' => a = some (mI (if t 13 l = t 15 l then 1 else 0)) ∧ t' = t) := by
  refine CT_of rfl rfl (Nat.le_of_ble_eq_true rfl) (fun E ht has => ?_)
  refine G_aload_n (pc := 0) dX5_isLoop_0 rfl ?_
  refine G_getP (pc := 1) dX5_isLoop_1 fk_X5_21 rfl rfl rfl ?_
  refine G_iload_n (pc := 4) dX5_isLoop_4 rfl ?_
  refine G_iaload (pc := 5) dX5_isLoop_5 rfl rfl (by omega) ?_
  refine G_aload_n (pc := 6) dX5_isLoop_6 rfl ?_
  refine G_getP (pc := 7) dX5_isLoop_7 fk_X5_27 rfl rfl rfl ?_
  refine G_iload_n (pc := 10) dX5_isLoop_10 rfl ?_
  refine G_iaload (pc := 11) dX5_isLoop_11 rfl rfl (by omega) ?_
  refine G_icmp_ne (pc := 12) (tgt := 19) dX5_isLoop_12 rfl (fun h_12 => ?_) (fun h_12 => ?_)
  · refine G_iconst (pc := 19) dX5_isLoop_19 (by decide) ?_
    exact G_zreturn (pc := 20) dX5_isLoop_20 (by first | exact Or.inl rfl | exact Or.inr rfl | omega | (split <;> first | exact Or.inl rfl | exact Or.inr rfl)) (qeq (by first | rfl | omega | (split <;> omega) | grind))
  · refine G_iconst (pc := 15) dX5_isLoop_15 (by decide) ?_
    refine G_goto (pc := 16) (tgt := 20) dX5_isLoop_16 rfl ?_
    exact G_zreturn (pc := 20) dX5_isLoop_20 (by first | exact Or.inl rfl | exact Or.inr rfl | omega | (split <;> first | exact Or.inl rfl | exact Or.inr rfl)) (qeq (by first | rfl | omega | (split <;> omega) | grind))
theorem c_X5_otherEnd (t : Sto) (l e : Int) (h : 0 ≤ l ∧ l < 60) : CT yX5_otherEnd cX5_otherEnd 3 (some .int) 0 [mP 1, mI l, mI e] t (fun a t' => a = some (mI (if t 13 l = e then t 15 l else t 13 l)) ∧ t' = t) := by
  refine CT_of rfl rfl (Nat.le_of_ble_eq_true rfl) (fun E ht has => ?_)
  refine G_aload_n (pc := 0) dX5_otherEnd_0 rfl ?_
  refine G_getP (pc := 1) dX5_otherEnd_1 fk_X5_21 rfl rfl rfl ?_
  refine G_iload_n (pc := 4) dX5_otherEnd_4 rfl ?_
  refine G_iaload (pc := 5) dX5_otherEnd_5 rfl rfl (by omega) ?_
  refine G_iload_n (pc := 6) dX5_otherEnd_6 rfl ?_
  refine G_icmp_ne (pc := 7) (tgt := 19) dX5_otherEnd_7 rfl (fun h_7 => ?_) (fun h_7 => ?_)
  · refine G_aload_n (pc := 19) dX5_otherEnd_19 rfl ?_
    refine G_getP (pc := 20) dX5_otherEnd_20 fk_X5_21 rfl rfl rfl ?_
    refine G_iload_n (pc := 23) dX5_otherEnd_23 rfl ?_
    refine G_iaload (pc := 24) dX5_otherEnd_24 rfl rfl (by omega) ?_
    exact G_ireturn (pc := 25) dX5_otherEnd_25 (qeq (by first | rfl | omega | (split <;> omega) | grind))
  · refine G_aload_n (pc := 10) dX5_otherEnd_10 rfl ?_
    refine G_getP (pc := 11) dX5_otherEnd_11 fk_X5_27 rfl rfl rfl ?_
    refine G_iload_n (pc := 14) dX5_otherEnd_14 rfl ?_
    refine G_iaload (pc := 15) dX5_otherEnd_15 rfl rfl (by omega) ?_
    refine G_goto (pc := 16) (tgt := 25) dX5_otherEnd_16 rfl ?_
    exact G_ireturn (pc := 25) dX5_otherEnd_25 (qeq (by first | rfl | omega | (split <;> omega) | grind))
theorem c_X5_leadsForth (t : Sto) (l r w : Int) (h : 0 ≤ l ∧ l < 60) : CT yX5_leadsForth cX5_leadsForth 4 (some .boolean) 0 [mP 1, mI l, mI r, mI w] t (fun a t' => a = some (mI (if t 13 l = r ∧ t 14 l = w then 1 else 0)) ∧ t' = t) := by
  refine CT_of rfl rfl (Nat.le_of_ble_eq_true rfl) (fun E ht has => ?_)
  refine G_aload_n (pc := 0) dX5_leadsForth_0 rfl ?_
  refine G_getP (pc := 1) dX5_leadsForth_1 fk_X5_21 rfl rfl rfl ?_
  refine G_iload_n (pc := 4) dX5_leadsForth_4 rfl ?_
  refine G_iaload (pc := 5) dX5_leadsForth_5 rfl rfl (by omega) ?_
  refine G_iload_n (pc := 6) dX5_leadsForth_6 rfl ?_
  refine G_icmp_ne (pc := 7) (tgt := 24) dX5_leadsForth_7 rfl (fun h_7 => ?_) (fun h_7 => ?_)
  · refine G_iconst (pc := 24) dX5_leadsForth_24 (by decide) ?_
    exact G_zreturn (pc := 25) dX5_leadsForth_25 (by first | exact Or.inl rfl | exact Or.inr rfl | omega | (split <;> first | exact Or.inl rfl | exact Or.inr rfl)) (qeq (by first | rfl | omega | (split <;> omega) | grind))
  · refine G_aload_n (pc := 10) dX5_leadsForth_10 rfl ?_
    refine G_getP (pc := 11) dX5_leadsForth_11 fk_X5_24 rfl rfl rfl ?_
    refine G_iload_n (pc := 14) dX5_leadsForth_14 rfl ?_
    refine G_iaload (pc := 15) dX5_leadsForth_15 rfl rfl (by omega) ?_
    refine G_iload_n (pc := 16) dX5_leadsForth_16 rfl ?_
    refine G_icmp_ne (pc := 17) (tgt := 24) dX5_leadsForth_17 rfl (fun h_17 => ?_) (fun h_17 => ?_)
    · refine G_iconst (pc := 24) dX5_leadsForth_24 (by decide) ?_
      exact G_zreturn (pc := 25) dX5_leadsForth_25 (by first | exact Or.inl rfl | exact Or.inr rfl | omega | (split <;> first | exact Or.inl rfl | exact Or.inr rfl)) (qeq (by first | rfl | omega | (split <;> omega) | grind))
    · refine G_iconst (pc := 20) dX5_leadsForth_20 (by decide) ?_
      refine G_goto (pc := 21) (tgt := 25) dX5_leadsForth_21 rfl ?_
      exact G_zreturn (pc := 25) dX5_leadsForth_25 (by first | exact Or.inl rfl | exact Or.inr rfl | omega | (split <;> first | exact Or.inl rfl | exact Or.inr rfl)) (qeq (by first | rfl | omega | (split <;> omega) | grind))
theorem c_X5_leadsBack (t : Sto) (l r w : Int) (h : 0 ≤ l ∧ l < 60) (hd : 0 ≤ t 14 l ∧ t 14 l ≤ 9) : CT yX5_leadsBack cX5_leadsBack 4 (some .boolean) 0 [mP 1, mI l, mI r, mI w] t (fun a t' => a = some (mI (if t 16 l ≠ 0 ∧ t 15 l = r ∧ oppI (t 14 l) = w then 1 else 0)) ∧ t' = t) := by
  refine CT_of rfl rfl (Nat.le_of_ble_eq_true rfl) (fun E ht has => ?_)
  refine G_aload_n (pc := 0) dX5_leadsBack_0 rfl ?_
  refine G_getP (pc := 1) dX5_leadsBack_1 fk_X5_30 rfl rfl rfl ?_
  refine G_iload_n (pc := 4) dX5_leadsBack_4 rfl ?_
  refine G_baload (pc := 5) dX5_leadsBack_5 rfl rfl (by omega) ?_
  refine G_if_eq (pc := 6) (tgt := 37) dX5_leadsBack_6 rfl (fun h_6 => ?_) (fun h_6 => ?_)
  · try simp only [bq0, ne_eq, Classical.not_not] at h_6
    refine G_iconst (pc := 37) dX5_leadsBack_37 (by decide) ?_
    exact G_zreturn (pc := 38) dX5_leadsBack_38 (by first | exact Or.inl rfl | exact Or.inr rfl | omega | (split <;> first | exact Or.inl rfl | exact Or.inr rfl)) (qeq (by first | rfl | omega | (split <;> omega) | (simp only [oppI] at *; grind)))
  · try simp only [bq0, ne_eq, Classical.not_not] at h_6
    refine G_aload_n (pc := 9) dX5_leadsBack_9 rfl ?_
    refine G_getP (pc := 10) dX5_leadsBack_10 fk_X5_27 rfl rfl rfl ?_
    refine G_iload_n (pc := 13) dX5_leadsBack_13 rfl ?_
    refine G_iaload (pc := 14) dX5_leadsBack_14 rfl rfl (by omega) ?_
    refine G_iload_n (pc := 15) dX5_leadsBack_15 rfl ?_
    refine G_icmp_ne (pc := 16) (tgt := 37) dX5_leadsBack_16 rfl (fun h_16 => ?_) (fun h_16 => ?_)
    · refine G_iconst (pc := 37) dX5_leadsBack_37 (by decide) ?_
      exact G_zreturn (pc := 38) dX5_leadsBack_38 (by first | exact Or.inl rfl | exact Or.inr rfl | omega | (split <;> first | exact Or.inl rfl | exact Or.inr rfl)) (qeq (by first | rfl | omega | (split <;> omega) | (simp only [oppI] at *; grind)))
    · refine G_getstatic (pc := 19) dX5_leadsBack_19 sk_X5_59 ?_
      refine G_aload_n (pc := 22) dX5_leadsBack_22 rfl ?_
      refine G_getP (pc := 23) dX5_leadsBack_23 fk_X5_24 rfl rfl rfl ?_
      refine G_iload_n (pc := 26) dX5_leadsBack_26 rfl ?_
      refine G_iaload (pc := 27) dX5_leadsBack_27 rfl rfl (by omega) ?_
      refine G_sload (pc := 28) (k := 0) dX5_leadsBack_28 rfl rfl (by simp only [List.length_cons, List.length_nil]; omega) ?_
      refine G_iload_n (pc := 29) dX5_leadsBack_29 rfl ?_
      refine G_icmp_ne (pc := 30) (tgt := 37) dX5_leadsBack_30 rfl (fun h_30 => ?_) (fun h_30 => ?_)
      · refine G_iconst (pc := 37) dX5_leadsBack_37 (by decide) ?_
        exact G_zreturn (pc := 38) dX5_leadsBack_38 (by first | exact Or.inl rfl | exact Or.inr rfl | omega | (split <;> first | exact Or.inl rfl | exact Or.inr rfl)) (qeq (by first | rfl | omega | (split <;> omega) | (simp only [oppI] at *; grind)))
      · refine G_iconst (pc := 33) dX5_leadsBack_33 (by decide) ?_
        refine G_goto (pc := 34) (tgt := 38) dX5_leadsBack_34 rfl ?_
        exact G_zreturn (pc := 38) dX5_leadsBack_38 (by first | exact Or.inl rfl | exact Or.inr rfl | omega | (split <;> first | exact Or.inl rfl | exact Or.inr rfl)) (qeq (by first | rfl | omega | (split <;> omega) | (simp only [oppI] at *; grind)))
theorem c_X5_leading (t : Sto) (r w : Int) (hS : SC t) : CT yX5_leading cX5_leading 4 (some .int) 1 [mP 1, mI r, mI w] t (fun a t' => a = some (mI (outS (t 272 0) (t 13) (t 14) (t 15) (t 16) r w)) ∧ t' = t) := by
  refine CT_of rfl rfl (Nat.le_of_ble_eq_true rfl) (fun E ht has => ?_)
  obtain ⟨hb, hS⟩ := hS
  have loop : ∀ l, l ≤ t 272 0 → 0 ≤ l → fst (outP (t 13) (t 14) (t 15) (t 16) r w) l (t 272 0) = outS (t 272 0) (t 13) (t 14) (t 15) (t 16) r w → G E cX5_leading RX5 (some .int) 1 2 [some (mP 1), some (mI r), some (mI w), some (mI l)] [] t (fun a t' => a = some (mI (outS (t 272 0) (t 13) (t 14) (t 15) (t 16) r w)) ∧ t' = t) := by
    refine up_ind (fun l hl ih h0 hX => ?_)
    refine G_iload_n (pc := 2) dX5_leading_2 rfl ?_
    refine G_aload_n (pc := 3) dX5_leading_3 rfl ?_
    refine G_getI (pc := 4) dX5_leading_4 fk_X5_38 rfl rfl rfl ?_
    refine G_icmp_ge (pc := 7) (tgt := 38) dX5_leading_7 rfl (fun h_7 => ?_) (fun h_7 => ?_)
    · refine G_bipush (pc := 38) (x := (-2)) dX5_leading_38 rfl (by decide) ?_
      exact G_ireturn (pc := 40) dX5_leading_40 (qeq (by rw [← hX, fst_ge (by omega)]))
    · obtain ⟨-, -, hdi, -⟩ := hS l h0 (by omega)
      refine G_aload_n (pc := 10) dX5_leading_10 rfl ?_
      refine G_iload_n (pc := 11) dX5_leading_11 rfl ?_
      refine G_iload_n (pc := 12) dX5_leading_12 rfl ?_
      refine G_iload_n (pc := 13) dX5_leading_13 rfl ?_
      refine G_cV1 (pc := 14) (c_X5_leadsForth _ _ _ _ (by omega)) dX5_leading_14 ml_X5_48 rfl rfl rfl (by decide) (Nat.le_of_ble_eq_true rfl) ?_
      refine G_if_ne (pc := 17) (tgt := 30) dX5_leading_17 rfl (fun h_17 => ?_) (fun h_17 => ?_)
      · try simp only [bq0, ne_eq, Classical.not_not] at h_17
        refine G_iload_n (pc := 30) dX5_leading_30 rfl ?_
        exact G_ireturn (pc := 31) dX5_leading_31 (qeq (by rw [← hX, fst_pos (by omega) (by unfold outP; omega)]))
      · try simp only [bq0, ne_eq, Classical.not_not] at h_17
        refine G_aload_n (pc := 20) dX5_leading_20 rfl ?_
        refine G_iload_n (pc := 21) dX5_leading_21 rfl ?_
        refine G_iload_n (pc := 22) dX5_leading_22 rfl ?_
        refine G_iload_n (pc := 23) dX5_leading_23 rfl ?_
        refine G_cV1 (pc := 24) (c_X5_leadsBack _ _ _ _ (by omega) (by omega)) dX5_leading_24 ml_X5_52 rfl rfl rfl (by decide) (Nat.le_of_ble_eq_true rfl) ?_
        refine G_if_eq (pc := 27) (tgt := 32) dX5_leading_27 rfl (fun h_27 => ?_) (fun h_27 => ?_)
        · try simp only [bq0, ne_eq, Classical.not_not] at h_27
          refine G_iinc (pc := 32) dX5_leading_32 rfl rfl (by omega) ?_
          refine G_goto (pc := 35) (tgt := 2) dX5_leading_35 rfl ?_
          exact ih (by omega) (by omega) ((fst_neg (by omega) (by unfold outP; omega)).symm.trans hX)
        · try simp only [bq0, ne_eq, Classical.not_not] at h_27
          refine G_iload_n (pc := 30) dX5_leading_30 rfl ?_
          exact G_ireturn (pc := 31) dX5_leading_31 (qeq (by rw [← hX, fst_pos (by omega) (by unfold outP; omega)]))
  refine G_iconst (pc := 0) dX5_leading_0 (by decide) ?_
  refine G_istore_n (pc := 1) dX5_leading_1 (Nat.le_of_ble_eq_true rfl) rfl ?_
  exact loop 0 (by omega) (by omega) rfl
theorem c_X5_beyond (t : Sto) (r w : Int) (hS : SC t) : CT yX5_beyond cX5_beyond 4 (some .int) 2 [mP 1, mI r, mI w] t (fun a t' => a = some (mI (beyS (t 272 0) (t 13) (t 14) (t 15) (t 16) r w)) ∧ t' = t) := by
  refine CT_of rfl rfl (Nat.le_of_ble_eq_true rfl) (fun E ht has => ?_)
  have hr := outS_r (t 272 0) (t 13) (t 14) (t 15) (t 16) r w
  have hb := hS.1
  refine G_aload_n (pc := 0) dX5_beyond_0 rfl ?_
  refine G_iload_n (pc := 1) dX5_beyond_1 rfl ?_
  refine G_iload_n (pc := 2) dX5_beyond_2 rfl ?_
  refine G_cV1 (pc := 3) (c_X5_leading _ _ _ (by exact hS)) dX5_beyond_3 ml_X5_55 rfl rfl rfl (by decide) (Nat.le_of_ble_eq_true rfl) ?_
  refine G_istore_n (pc := 6) dX5_beyond_6 (Nat.le_of_ble_eq_true rfl) rfl ?_
  refine G_iload_n (pc := 7) dX5_beyond_7 rfl ?_
  refine G_if_ge (pc := 8) (tgt := 14) dX5_beyond_8 rfl (fun h_8 => ?_) (fun h_8 => ?_)
  · refine G_aload_n (pc := 14) dX5_beyond_14 rfl ?_
    refine G_iload_n (pc := 15) dX5_beyond_15 rfl ?_
    refine G_iload_n (pc := 16) dX5_beyond_16 rfl ?_
    refine G_iload_n (pc := 17) dX5_beyond_17 rfl ?_
    refine G_cV1 (pc := 18) (c_X5_leadsForth _ _ _ _ (by omega)) dX5_beyond_18 ml_X5_48 rfl rfl rfl (by decide) (Nat.le_of_ble_eq_true rfl) ?_
    refine G_if_eq (pc := 21) (tgt := 33) dX5_beyond_21 rfl (fun h_21 => ?_) (fun h_21 => ?_)
    · try simp only [bq0, ne_eq, Classical.not_not] at h_21
      refine G_aload_n (pc := 33) dX5_beyond_33 rfl ?_
      refine G_getP (pc := 34) dX5_beyond_34 fk_X5_21 rfl rfl rfl ?_
      refine G_iload_n (pc := 37) dX5_beyond_37 rfl ?_
      refine G_iaload (pc := 38) dX5_beyond_38 rfl rfl (by omega) ?_
      exact G_ireturn (pc := 39) dX5_beyond_39 (qeq (by unfold beyS endS; grind))
    · try simp only [bq0, ne_eq, Classical.not_not] at h_21
      refine G_aload_n (pc := 24) dX5_beyond_24 rfl ?_
      refine G_getP (pc := 25) dX5_beyond_25 fk_X5_27 rfl rfl rfl ?_
      refine G_iload_n (pc := 28) dX5_beyond_28 rfl ?_
      refine G_iaload (pc := 29) dX5_beyond_29 rfl rfl (by omega) ?_
      refine G_goto (pc := 30) (tgt := 39) dX5_beyond_30 rfl ?_
      exact G_ireturn (pc := 39) dX5_beyond_39 (qeq (by unfold beyS endS; grind))
  · refine G_bipush (pc := 11) (x := (-2)) dX5_beyond_11 rfl (by decide) ?_
    exact G_ireturn (pc := 13) dX5_beyond_13 (qeq (by unfold beyS endS; grind))
