/-! STORY: the small methods -/
theorem c_X5_isRoom (t : Sto) (r : Int) : CT yX5_isRoom cX5_isRoom 2 (some .boolean) 0 [mP 1, mI r] t (fun a t' => a = some (mI (if 0 ≤ r ∧ r < t 267 0 then 1 else 0)) ∧ t' = t) := by
  refine CT_of rfl rfl (Nat.le_of_ble_eq_true rfl) (fun E ht has => ?_)
  refine G_iload_n (pc := 0) dX5_isRoom_0 rfl ?_
  refine G_if_lt (pc := 1) (tgt := 16) dX5_isRoom_1 rfl (fun h_1 => ?_) (fun h_1 => ?_)
  · refine G_iconst (pc := 16) dX5_isRoom_16 (by decide) ?_
    exact G_zreturn (pc := 17) dX5_isRoom_17 (by first | exact Or.inl rfl | exact Or.inr rfl | omega | (split <;> first | exact Or.inl rfl | exact Or.inr rfl)) (qeq (by first | rfl | omega | (split <;> omega) | grind))
  · refine G_iload_n (pc := 4) dX5_isRoom_4 rfl ?_
    refine G_aload_n (pc := 5) dX5_isRoom_5 rfl ?_
    refine G_getI (pc := 6) dX5_isRoom_6 fk_X5_34 rfl rfl rfl ?_
    refine G_icmp_ge (pc := 9) (tgt := 16) dX5_isRoom_9 rfl (fun h_9 => ?_) (fun h_9 => ?_)
    · refine G_iconst (pc := 16) dX5_isRoom_16 (by decide) ?_
      exact G_zreturn (pc := 17) dX5_isRoom_17 (by first | exact Or.inl rfl | exact Or.inr rfl | omega | (split <;> first | exact Or.inl rfl | exact Or.inr rfl)) (qeq (by first | rfl | omega | (split <;> omega) | grind))
    · refine G_iconst (pc := 12) dX5_isRoom_12 (by decide) ?_
      refine G_goto (pc := 13) (tgt := 17) dX5_isRoom_13 rfl ?_
      exact G_zreturn (pc := 17) dX5_isRoom_17 (by first | exact Or.inl rfl | exact Or.inr rfl | omega | (split <;> first | exact Or.inl rfl | exact Or.inr rfl)) (qeq (by first | rfl | omega | (split <;> omega) | grind))
theorem c_X5_isLink (t : Sto) (r : Int) : CT yX5_isLink cX5_isLink 2 (some .boolean) 0 [mP 1, mI r] t (fun a t' => a = some (mI (if 0 ≤ r ∧ r < t 272 0 then 1 else 0)) ∧ t' = t) := by
  refine CT_of rfl rfl (Nat.le_of_ble_eq_true rfl) (fun E ht has => ?_)
  refine G_iload_n (pc := 0) dX5_isLink_0 rfl ?_
  refine G_if_lt (pc := 1) (tgt := 16) dX5_isLink_1 rfl (fun h_1 => ?_) (fun h_1 => ?_)
  · refine G_iconst (pc := 16) dX5_isLink_16 (by decide) ?_
    exact G_zreturn (pc := 17) dX5_isLink_17 (by first | exact Or.inl rfl | exact Or.inr rfl | omega | (split <;> first | exact Or.inl rfl | exact Or.inr rfl)) (qeq (by first | rfl | omega | (split <;> omega) | grind))
  · refine G_iload_n (pc := 4) dX5_isLink_4 rfl ?_
    refine G_aload_n (pc := 5) dX5_isLink_5 rfl ?_
    refine G_getI (pc := 6) dX5_isLink_6 fk_X5_38 rfl rfl rfl ?_
    refine G_icmp_ge (pc := 9) (tgt := 16) dX5_isLink_9 rfl (fun h_9 => ?_) (fun h_9 => ?_)
    · refine G_iconst (pc := 16) dX5_isLink_16 (by decide) ?_
      exact G_zreturn (pc := 17) dX5_isLink_17 (by first | exact Or.inl rfl | exact Or.inr rfl | omega | (split <;> first | exact Or.inl rfl | exact Or.inr rfl)) (qeq (by first | rfl | omega | (split <;> omega) | grind))
    · refine G_iconst (pc := 12) dX5_isLink_12 (by decide) ?_
      refine G_goto (pc := 13) (tgt := 17) dX5_isLink_13 rfl ?_
      exact G_zreturn (pc := 17) dX5_isLink_17 (by first | exact Or.inl rfl | exact Or.inr rfl | omega | (split <;> first | exact Or.inl rfl | exact Or.inr rfl)) (qeq (by first | rfl | omega | (split <;> omega) | grind))
theorem c_X5_isFullOfRooms (t : Sto) : CT yX5_isFullOfRooms cX5_isFullOfRooms 1 (some .boolean) 0 [mP 1] t (fun a t' => a = some (mI (if 24 ≤ t 267 0 then 1 else 0)) ∧ t' = t) := by
  refine CT_of rfl rfl (Nat.le_of_ble_eq_true rfl) (fun E ht has => ?_)
  refine G_aload_n (pc := 0) dX5_isFullOfRooms_0 rfl ?_
  refine G_getI (pc := 1) dX5_isFullOfRooms_1 fk_X5_34 rfl rfl rfl ?_
  refine G_bipush (pc := 4) (x := 24) dX5_isFullOfRooms_4 rfl (by decide) ?_
  refine G_icmp_lt (pc := 6) (tgt := 13) dX5_isFullOfRooms_6 rfl (fun h_6 => ?_) (fun h_6 => ?_)
  · refine G_iconst (pc := 13) dX5_isFullOfRooms_13 (by decide) ?_
    exact G_zreturn (pc := 14) dX5_isFullOfRooms_14 (by first | exact Or.inl rfl | exact Or.inr rfl | omega | (split <;> first | exact Or.inl rfl | exact Or.inr rfl)) (qeq (by first | rfl | omega | (split <;> omega) | grind))
  · refine G_iconst (pc := 9) dX5_isFullOfRooms_9 (by decide) ?_
    refine G_goto (pc := 10) (tgt := 14) dX5_isFullOfRooms_10 rfl ?_
    exact G_zreturn (pc := 14) dX5_isFullOfRooms_14 (by first | exact Or.inl rfl | exact Or.inr rfl | omega | (split <;> first | exact Or.inl rfl | exact Or.inr rfl)) (qeq (by first | rfl | omega | (split <;> omega) | grind))
theorem c_X5_isFullOfLinks (t : Sto) : CT yX5_isFullOfLinks cX5_isFullOfLinks 1 (some .boolean) 0 [mP 1] t (fun a t' => a = some (mI (if 60 ≤ t 272 0 then 1 else 0)) ∧ t' = t) := by
  refine CT_of rfl rfl (Nat.le_of_ble_eq_true rfl) (fun E ht has => ?_)
  refine G_aload_n (pc := 0) dX5_isFullOfLinks_0 rfl ?_
  refine G_getI (pc := 1) dX5_isFullOfLinks_1 fk_X5_38 rfl rfl rfl ?_
  refine G_bipush (pc := 4) (x := 60) dX5_isFullOfLinks_4 rfl (by decide) ?_
  refine G_icmp_lt (pc := 6) (tgt := 13) dX5_isFullOfLinks_6 rfl (fun h_6 => ?_) (fun h_6 => ?_)
  · refine G_iconst (pc := 13) dX5_isFullOfLinks_13 (by decide) ?_
    exact G_zreturn (pc := 14) dX5_isFullOfLinks_14 (by first | exact Or.inl rfl | exact Or.inr rfl | omega | (split <;> first | exact Or.inl rfl | exact Or.inr rfl)) (qeq (by first | rfl | omega | (split <;> omega) | grind))
  · refine G_iconst (pc := 9) dX5_isFullOfLinks_9 (by decide) ?_
    refine G_goto (pc := 10) (tgt := 14) dX5_isFullOfLinks_10 rfl ?_
    exact G_zreturn (pc := 14) dX5_isFullOfLinks_14 (by first | exact Or.inl rfl | exact Or.inr rfl | omega | (split <;> first | exact Or.inl rfl | exact Or.inr rfl)) (qeq (by first | rfl | omega | (split <;> omega) | grind))
theorem c_X5_isLoop (t : Sto) (l : Int) (h : 0 ≤ l ∧ l < 60) : CT yX5_isLoop cX5_isLoop 2 (some .boolean) 0 [mP 1, mI l] t (fun a t' => a = some (mI (if t 13 l = t 15 l then 1 else 0)) ∧ t' = t) := by
  refine CT_of rfl rfl (Nat.le_of_ble_eq_true rfl) (fun E ht has => ?_)
  refine G_aload_n (pc := 0) dX5_isLoop_0 rfl ?_
  refine G_getP (pc := 1) dX5_isLoop_1 fk_X5_21 rfl rfl rfl ?_
  refine G_iload_n (pc := 4) dX5_isLoop_4 rfl ?_
  refine G_iaload (pc := 5) dX5_isLoop_5 rfl rfl (by omega) ?_
  refine G_aload_n (pc := 6) dX5_isLoop_6 rfl ?_
  refine G_getP (pc := 7) dX5_isLoop_7 fk_X5_27 rfl rfl rfl ?_
  refine G_iload_n (pc := 10) dX5_isLoop_10 rfl ?_
  refine G_iaload (pc := 11) dX5_isLoop_11 rfl rfl (by omega) ?_
  refine G_icmp_ne (pc := 12) (tgt := 19) dX5_isLoop_12 rfl (fun h_12 => ?_) (fun h_12 => ?_)
  · refine G_iconst (pc := 19) dX5_isLoop_19 (by decide) ?_
    exact G_zreturn (pc := 20) dX5_isLoop_20 (by first | exact Or.inl rfl | exact Or.inr rfl | omega | (split <;> first | exact Or.inl rfl | exact Or.inr rfl)) (qeq (by first | rfl | omega | (split <;> omega) | grind))
  · refine G_iconst (pc := 15) dX5_isLoop_15 (by decide) ?_
    refine G_goto (pc := 16) (tgt := 20) dX5_isLoop_16 rfl ?_
    exact G_zreturn (pc := 20) dX5_isLoop_20 (by first | exact Or.inl rfl | exact Or.inr rfl | omega | (split <;> first | exact Or.inl rfl | exact Or.inr rfl)) (qeq (by first | rfl | omega | (split <;> omega) | grind))
theorem c_X5_otherEnd (t : Sto) (l e : Int) (h : 0 ≤ l ∧ l < 60) : CT yX5_otherEnd cX5_otherEnd 3 (some .int) 0 [mP 1, mI l, mI e] t (fun a t' => a = some (mI (if t 13 l = e then t 15 l else t 13 l)) ∧ t' = t) := by
  refine CT_of rfl rfl (Nat.le_of_ble_eq_true rfl) (fun E ht has => ?_)
  refine G_aload_n (pc := 0) dX5_otherEnd_0 rfl ?_
  refine G_getP (pc := 1) dX5_otherEnd_1 fk_X5_21 rfl rfl rfl ?_
  refine G_iload_n (pc := 4) dX5_otherEnd_4 rfl ?_
  refine G_iaload (pc := 5) dX5_otherEnd_5 rfl rfl (by omega) ?_
  refine G_iload_n (pc := 6) dX5_otherEnd_6 rfl ?_
  refine G_icmp_ne (pc := 7) (tgt := 19) dX5_otherEnd_7 rfl (fun h_7 => ?_) (fun h_7 => ?_)
  · refine G_aload_n (pc := 19) dX5_otherEnd_19 rfl ?_
    refine G_getP (pc := 20) dX5_otherEnd_20 fk_X5_21 rfl rfl rfl ?_
    refine G_iload_n (pc := 23) dX5_otherEnd_23 rfl ?_
    refine G_iaload (pc := 24) dX5_otherEnd_24 rfl rfl (by omega) ?_
    exact G_ireturn (pc := 25) dX5_otherEnd_25 (qeq (by first | rfl | omega | (split <;> omega) | grind))
  · refine G_aload_n (pc := 10) dX5_otherEnd_10 rfl ?_
    refine G_getP (pc := 11) dX5_otherEnd_11 fk_X5_27 rfl rfl rfl ?_
    refine G_iload_n (pc := 14) dX5_otherEnd_14 rfl ?_
    refine G_iaload (pc := 15) dX5_otherEnd_15 rfl rfl (by omega) ?_
    refine G_goto (pc := 16) (tgt := 25) dX5_otherEnd_16 rfl ?_
    exact G_ireturn (pc := 25) dX5_otherEnd_25 (qeq (by first | rfl | omega | (split <;> omega) | grind))
theorem c_X5_leadsForth (t : Sto) (l r w : Int) (h : 0 ≤ l ∧ l < 60) : CT yX5_leadsForth cX5_leadsForth 4 (some .boolean) 0 [mP 1, mI l, mI r, mI w] t (fun a t' => a = some (mI (if t 13 l = r ∧ t 14 l = w then 1 else 0)) ∧ t' = t) := by
  refine CT_of rfl rfl (Nat.le_of_ble_eq_true rfl) (fun E ht has => ?_)
  refine G_aload_n (pc := 0) dX5_leadsForth_0 rfl ?_
  refine G_getP (pc := 1) dX5_leadsForth_1 fk_X5_21 rfl rfl rfl ?_
  refine G_iload_n (pc := 4) dX5_leadsForth_4 rfl ?_
  refine G_iaload (pc := 5) dX5_leadsForth_5 rfl rfl (by omega) ?_
  refine G_iload_n (pc := 6) dX5_leadsForth_6 rfl ?_
  refine G_icmp_ne (pc := 7) (tgt := 24) dX5_leadsForth_7 rfl (fun h_7 => ?_) (fun h_7 => ?_)
  · refine G_iconst (pc := 24) dX5_leadsForth_24 (by decide) ?_
    exact G_zreturn (pc := 25) dX5_leadsForth_25 (by first | exact Or.inl rfl | exact Or.inr rfl | omega | (split <;> first | exact Or.inl rfl | exact Or.inr rfl)) (qeq (by first | rfl | omega | (split <;> omega) | grind))
  · refine G_aload_n (pc := 10) dX5_leadsForth_10 rfl ?_
    refine G_getP (pc := 11) dX5_leadsForth_11 fk_X5_24 rfl rfl rfl ?_
    refine G_iload_n (pc := 14) dX5_leadsForth_14 rfl ?_
    refine G_iaload (pc := 15) dX5_leadsForth_15 rfl rfl (by omega) ?_
    refine G_iload_n (pc := 16) dX5_leadsForth_16 rfl ?_
    refine G_icmp_ne (pc := 17) (tgt := 24) dX5_leadsForth_17 rfl (fun h_17 => ?_) (fun h_17 => ?_)
    · refine G_iconst (pc := 24) dX5_leadsForth_24 (by decide) ?_
      exact G_zreturn (pc := 25) dX5_leadsForth_25 (by first | exact Or.inl rfl | exact Or.inr rfl | omega | (split <;> first | exact Or.inl rfl | exact Or.inr rfl)) (qeq (by first | rfl | omega | (split <;> omega) | grind))
    · refine G_iconst (pc := 20) dX5_leadsForth_20 (by decide) ?_
      refine G_goto (pc := 21) (tgt := 25) dX5_leadsForth_21 rfl ?_
      exact G_zreturn (pc := 25) dX5_leadsForth_25 (by first | exact Or.inl rfl | exact Or.inr rfl | omega | (split <;> first | exact Or.inl rfl | exact Or.inr rfl)) (qeq (by first | rfl | omega | (split <;> omega) | grind))
