/-! STORY: rooms and links come and go; the class's own methods over them -/
theorem c_X8_isKind (t : Sto) (r : Int) : CT yX8_isKind cX8_isKind 1 (some .boolean) 0 [mI r] t (fun a t' => a = some (mI (if 0 ≤ r ∧ r ≤ 9 then 1 else 0)) ∧ t' = t) := by
  refine CT_of rfl rfl (Nat.le_of_ble_eq_true rfl) (fun E ht has => ?_)
  refine G_iload_n (pc := 0) dX8_isKind_0 rfl ?_
  refine G_if_lt (pc := 1) (tgt := 14) dX8_isKind_1 rfl (fun h_1 => ?_) (fun h_1 => ?_)
  · refine G_iconst (pc := 14) dX8_isKind_14 (by decide) ?_
    exact G_zreturn (pc := 15) dX8_isKind_15 (by first | exact Or.inl rfl | exact Or.inr rfl | omega | (split <;> first | exact Or.inl rfl | exact Or.inr rfl)) (qeq (by first | rfl | omega | (split <;> omega) | grind))
  · refine G_iload_n (pc := 4) dX8_isKind_4 rfl ?_
    refine G_bipush (pc := 5) (x := 10) dX8_isKind_5 rfl (by decide) ?_
    refine G_icmp_ge (pc := 7) (tgt := 14) dX8_isKind_7 rfl (fun h_7 => ?_) (fun h_7 => ?_)
    · refine G_iconst (pc := 14) dX8_isKind_14 (by decide) ?_
      exact G_zreturn (pc := 15) dX8_isKind_15 (by first | exact Or.inl rfl | exact Or.inr rfl | omega | (split <;> first | exact Or.inl rfl | exact Or.inr rfl)) (qeq (by first | rfl | omega | (split <;> omega) | grind))
    · refine G_iconst (pc := 10) dX8_isKind_10 (by decide) ?_
      refine G_goto (pc := 11) (tgt := 15) dX8_isKind_11 rfl ?_
      exact G_zreturn (pc := 15) dX8_isKind_15 (by first | exact Or.inl rfl | exact Or.inr rfl | omega | (split <;> first | exact Or.inl rfl | exact Or.inr rfl)) (qeq (by first | rfl | omega | (split <;> omega) | grind))
theorem c_X8_isDirection (t : Sto) (r : Int) : CT yX8_isDirection cX8_isDirection 1 (some .boolean) 0 [mI r] t (fun a t' => a = some (mI (if 0 ≤ r ∧ r ≤ 9 then 1 else 0)) ∧ t' = t) := by
  refine CT_of rfl rfl (Nat.le_of_ble_eq_true rfl) (fun E ht has => ?_)
  refine G_iload_n (pc := 0) dX8_isDirection_0 rfl ?_
  refine G_if_lt (pc := 1) (tgt := 14) dX8_isDirection_1 rfl (fun h_1 => ?_) (fun h_1 => ?_)
  · refine G_iconst (pc := 14) dX8_isDirection_14 (by decide) ?_
    exact G_zreturn (pc := 15) dX8_isDirection_15 (by first | exact Or.inl rfl | exact Or.inr rfl | omega | (split <;> first | exact Or.inl rfl | exact Or.inr rfl)) (qeq (by first | rfl | omega | (split <;> omega) | grind))
  · refine G_iload_n (pc := 4) dX8_isDirection_4 rfl ?_
    refine G_bipush (pc := 5) (x := 10) dX8_isDirection_5 rfl (by decide) ?_
    refine G_icmp_ge (pc := 7) (tgt := 14) dX8_isDirection_7 rfl (fun h_7 => ?_) (fun h_7 => ?_)
    · refine G_iconst (pc := 14) dX8_isDirection_14 (by decide) ?_
      exact G_zreturn (pc := 15) dX8_isDirection_15 (by first | exact Or.inl rfl | exact Or.inr rfl | omega | (split <;> first | exact Or.inl rfl | exact Or.inr rfl)) (qeq (by first | rfl | omega | (split <;> omega) | grind))
    · refine G_iconst (pc := 10) dX8_isDirection_10 (by decide) ?_
      refine G_goto (pc := 11) (tgt := 15) dX8_isDirection_11 rfl ?_
      exact G_zreturn (pc := 15) dX8_isDirection_15 (by first | exact Or.inl rfl | exact Or.inr rfl | omega | (split <;> first | exact Or.inl rfl | exact Or.inr rfl)) (qeq (by first | rfl | omega | (split <;> omega) | grind))
def addRoomC (t : Sto) (w g : Int) : Sto := su (su (su (su t 10 (t 267 0) w) 11 (t 267 0) g) 12 (t 267 0) (-2)) 267 0 (t 267 0 + 1)
def addLinkC (t : Sto) (a d b o : Int) : Sto := su (su (su (su (su t 13 (t 272 0) a) 14 (t 272 0) d) 15 (t 272 0) b) 16 (t 272 0) o) 272 0 (t 272 0 + 1)
theorem c_X5_addRoom (t : Sto) (w g : Int) (hn : 0 ≤ t 267 0 ∧ t 267 0 < 24) : CT yX5_addRoom cX5_addRoom 3 (some .int) 1 [mP 1, mI w, mI g] t (fun a t' => a = some (mI (t 267 0)) ∧ t' = addRoomC t w g) := by
  refine CT_of rfl rfl (Nat.le_of_ble_eq_true rfl) (fun E ht has => ?_)
  refine G_aload_n (pc := 0) dX5_addRoom_0 rfl ?_
  refine G_cV1 (pc := 1) (c_X5_isFullOfRooms _) dX5_addRoom_1 ml_X5_41 rfl rfl rfl (by decide) (Nat.le_of_ble_eq_true rfl) ?_
  refine G_if_eq (pc := 4) (tgt := 10) dX5_addRoom_4 rfl (fun h_4 => ?_) (fun h_4 => ?_)
  · try simp only [bq0, ne_eq, Classical.not_not] at h_4
    refine G_aload_n (pc := 10) dX5_addRoom_10 rfl ?_
    refine G_getP (pc := 11) dX5_addRoom_11 fk_X5_9 rfl rfl rfl ?_
    refine G_aload_n (pc := 14) dX5_addRoom_14 rfl ?_
    refine G_getI (pc := 15) dX5_addRoom_15 fk_X5_34 rfl rfl rfl ?_
    refine G_iload_n (pc := 18) dX5_addRoom_18 rfl ?_
    refine G_iastore (pc := 19) dX5_addRoom_19 rfl rfl (by omega) ?_
    refine G_aload_n (pc := 20) dX5_addRoom_20 rfl ?_
    refine G_getP (pc := 21) dX5_addRoom_21 fk_X5_15 rfl rfl rfl ?_
    refine G_aload_n (pc := 24) dX5_addRoom_24 rfl ?_
    refine G_getI (pc := 25) dX5_addRoom_25 fk_X5_34 rfl rfl rfl ?_
    try simp (disch := decide) only [su_ne, su_at, su_same, sv_ne, sv_at]
    refine G_iload_n (pc := 28) dX5_addRoom_28 rfl ?_
    refine G_iastore (pc := 29) dX5_addRoom_29 rfl rfl (by omega) ?_
    refine G_aload_n (pc := 30) dX5_addRoom_30 rfl ?_
    refine G_getP (pc := 31) dX5_addRoom_31 fk_X5_18 rfl rfl rfl ?_
    refine G_aload_n (pc := 34) dX5_addRoom_34 rfl ?_
    refine G_getI (pc := 35) dX5_addRoom_35 fk_X5_34 rfl rfl rfl ?_
    try simp (disch := decide) only [su_ne, su_at, su_same, sv_ne, sv_at]
    refine G_bipush (pc := 38) (x := (-2)) dX5_addRoom_38 rfl (by decide) ?_
    refine G_iastore (pc := 40) dX5_addRoom_40 rfl rfl (by omega) ?_
    refine G_aload_n (pc := 41) dX5_addRoom_41 rfl ?_
    refine G_dup (pc := 42) dX5_addRoom_42 rfl ?_
    refine G_getI (pc := 43) dX5_addRoom_43 fk_X5_34 rfl rfl rfl ?_
    try simp (disch := decide) only [su_ne, su_at, su_same, sv_ne, sv_at]
    refine G_dup_x1 (pc := 46) dX5_addRoom_46 rfl rfl ?_
    refine G_iconst (pc := 47) dX5_addRoom_47 (by decide) ?_
    refine G_iadd (pc := 48) dX5_addRoom_48 (by omega) ?_
    refine G_put (pc := 49) dX5_addRoom_49 fk_X5_34 fw_X5_3 rfl rfl rfl (fun h => absurd h (by decide)) ?_
    exact G_ireturn (pc := 52) dX5_addRoom_52 ⟨rfl, rfl⟩
  · try simp only [bq0, ne_eq, Classical.not_not] at h_4
    exact absurd h_4 (by omega)
theorem c_X5_addLink (t : Sto) (a d b o : Int) (hn : 0 ≤ t 272 0 ∧ t 272 0 < 60) (ho : o = 0 ∨ o = 1) : CT yX5_addLink cX5_addLink 5 (some .int) 1 [mP 1, mI a, mI d, mI b, mI o] t (fun r t' => r = some (mI (t 272 0)) ∧ t' = addLinkC t a d b o) := by
  refine CT_of rfl rfl (Nat.le_of_ble_eq_true rfl) (fun E ht has => ?_)
  refine G_aload_n (pc := 0) dX5_addLink_0 rfl ?_
  refine G_cV1 (pc := 1) (c_X5_isFullOfLinks _) dX5_addLink_1 ml_X5_45 rfl rfl rfl (by decide) (Nat.le_of_ble_eq_true rfl) ?_
  refine G_if_eq (pc := 4) (tgt := 10) dX5_addLink_4 rfl (fun h_4 => ?_) (fun h_4 => ?_)
  · try simp only [bq0, ne_eq, Classical.not_not] at h_4
    refine G_aload_n (pc := 10) dX5_addLink_10 rfl ?_
    refine G_getP (pc := 11) dX5_addLink_11 fk_X5_21 rfl rfl rfl ?_
    refine G_aload_n (pc := 14) dX5_addLink_14 rfl ?_
    refine G_getI (pc := 15) dX5_addLink_15 fk_X5_38 rfl rfl rfl ?_
    refine G_iload_n (pc := 18) dX5_addLink_18 rfl ?_
    refine G_iastore (pc := 19) dX5_addLink_19 rfl rfl (by omega) ?_
    refine G_aload_n (pc := 20) dX5_addLink_20 rfl ?_
    refine G_getP (pc := 21) dX5_addLink_21 fk_X5_24 rfl rfl rfl ?_
    refine G_aload_n (pc := 24) dX5_addLink_24 rfl ?_
    refine G_getI (pc := 25) dX5_addLink_25 fk_X5_38 rfl rfl rfl ?_
    try simp (disch := decide) only [su_ne, su_at, su_same, sv_ne, sv_at]
    refine G_iload_n (pc := 28) dX5_addLink_28 rfl ?_
    refine G_iastore (pc := 29) dX5_addLink_29 rfl rfl (by omega) ?_
    refine G_aload_n (pc := 30) dX5_addLink_30 rfl ?_
    refine G_getP (pc := 31) dX5_addLink_31 fk_X5_27 rfl rfl rfl ?_
    refine G_aload_n (pc := 34) dX5_addLink_34 rfl ?_
    refine G_getI (pc := 35) dX5_addLink_35 fk_X5_38 rfl rfl rfl ?_
    try simp (disch := decide) only [su_ne, su_at, su_same, sv_ne, sv_at]
    refine G_iload_n (pc := 38) dX5_addLink_38 rfl ?_
    refine G_iastore (pc := 39) dX5_addLink_39 rfl rfl (by omega) ?_
    refine G_aload_n (pc := 40) dX5_addLink_40 rfl ?_
    refine G_getP (pc := 41) dX5_addLink_41 fk_X5_30 rfl rfl rfl ?_
    refine G_aload_n (pc := 44) dX5_addLink_44 rfl ?_
    refine G_getI (pc := 45) dX5_addLink_45 fk_X5_38 rfl rfl rfl ?_
    try simp (disch := decide) only [su_ne, su_at, su_same, sv_ne, sv_at]
    refine G_iload (pc := 48) dX5_addLink_48 rfl ?_
    refine G_bastore (pc := 50) dX5_addLink_50 rfl rfl (by omega) (by first | exact Or.inl rfl | exact Or.inr rfl | omega) ?_
    refine G_aload_n (pc := 51) dX5_addLink_51 rfl ?_
    refine G_dup (pc := 52) dX5_addLink_52 rfl ?_
    refine G_getI (pc := 53) dX5_addLink_53 fk_X5_38 rfl rfl rfl ?_
    try simp (disch := decide) only [su_ne, su_at, su_same, sv_ne, sv_at]
    refine G_dup_x1 (pc := 56) dX5_addLink_56 rfl rfl ?_
    refine G_iconst (pc := 57) dX5_addLink_57 (by decide) ?_
    refine G_iadd (pc := 58) dX5_addLink_58 (by omega) ?_
    refine G_put (pc := 59) dX5_addLink_59 fk_X5_38 fw_X5_8 rfl rfl rfl (fun h => absurd h (by decide)) ?_
    exact G_ireturn (pc := 62) dX5_addLink_62 ⟨rfl, rfl⟩
  · try simp only [bq0, ne_eq, Classical.not_not] at h_4
    exact absurd h_4 (by omega)
/-- a row with one taken out, up to k -/
def cutF (f : Int → Int) (g k : Int) : Int → Int := fun j => if g ≤ j ∧ j + 1 < k then f (j + 1) else f j
/-- the same, done up to l -/
def cutN (f : Int → Int) (g l : Int) : Int → Int := fun j => if g ≤ j ∧ j < l then f (j + 1) else f j
theorem cutN_step {f : Int → Int} {g l : Int} (h : g ≤ l) : fu (cutN f g l) l (cutN f g l (l + 1)) = cutN f g (l + 1) := by
  funext j
  unfold fu cutN
  by_cases hj : j = l
  · subst hj
    rw [if_pos rfl, if_neg (by omega), if_pos (by omega)]
  · rw [if_neg hj]
    by_cases h2 : g ≤ j ∧ j < l
    · rw [if_pos h2, if_pos (by omega)]
    · rw [if_neg h2, if_neg (by omega)]
theorem cutN_0 (f : Int → Int) (g : Int) : cutN f g g = f := by
  funext j
  unfold cutN
  rw [if_neg (by omega)]
theorem cutN_k (f : Int → Int) (g k : Int) : cutN f g (k - 1) = cutF f g k := by
  funext j
  unfold cutN cutF
  by_cases h : g ≤ j ∧ j < k - 1
  · rw [if_pos h, if_pos (by omega)]
  · rw [if_neg h, if_neg (by omega)]
def cutC (t : Sto) (g l : Int) : Sto := sv (sv (sv (sv t 13 (cutN (t 13) g l)) 14 (cutN (t 14) g l)) 15 (cutN (t 15) g l)) 16 (cutN (t 16) g l)
theorem cutC_step (t : Sto) (g l : Int) (h : g ≤ l) : su (su (su (su (cutC t g l) 13 l (cutN (t 13) g l (l + 1))) 14 l (cutN (t 14) g l (l + 1))) 15 l (cutN (t 15) g l (l + 1))) 16 l (cutN (t 16) g l (l + 1)) = cutC t g (l + 1) := by
  funext w
  unfold cutC
  simp only [su_sv]
  by_cases h16 : w = 16
  · subst h16; simp (disch := decide) only [sv_at, sv_ne]; exact cutN_step h
  by_cases h15 : w = 15
  · subst h15; simp (disch := decide) only [sv_at, sv_ne]; exact cutN_step h
  by_cases h14 : w = 14
  · subst h14; simp (disch := decide) only [sv_at, sv_ne]; exact cutN_step h
  by_cases h13 : w = 13
  · subst h13; simp (disch := decide) only [sv_at, sv_ne]; exact cutN_step h
  rw [sv_ne h16, sv_ne h15, sv_ne h14, sv_ne h13, sv_ne h16, sv_ne h15, sv_ne h14, sv_ne h13, sv_ne h16, sv_ne h15, sv_ne h14, sv_ne h13]
theorem cutC_at (t : Sto) (g l : Int) : cutC t g l 13 = cutN (t 13) g l ∧ cutC t g l 14 = cutN (t 14) g l ∧ cutC t g l 15 = cutN (t 15) g l ∧ cutC t g l 16 = cutN (t 16) g l := by
  unfold cutC
  simp (disch := decide) only [sv_at, sv_ne]
  exact ⟨trivial, trivial, trivial, trivial⟩
theorem cutC_ne (t : Sto) (g l : Int) {w : Nat} (h : w ≠ 13 ∧ w ≠ 14 ∧ w ≠ 15 ∧ w ≠ 16) : cutC t g l w = t w := by
  unfold cutC
  rw [sv_ne h.2.2.2, sv_ne h.2.2.1, sv_ne h.2.1, sv_ne h.1]
theorem cutC_0 (t : Sto) (g : Int) : cutC t g g = t := by
  unfold cutC
  simp only [cutN_0]
  funext w
  unfold sv
  split
  · next h => rw [h]
  · split
    · next h => rw [h]
    · split
      · next h => rw [h]
      · split
        · next h => rw [h]
        · rfl
def cutCT (t : Sto) (g : Int) : Sto := su (cutC t g (t 272 0 - 1)) 272 0 (t 272 0 - 1)
theorem c_X5_removeLink (t : Sto) (g : Int) (hn : 0 ≤ g ∧ g < t 272 0) (hk : t 272 0 ≤ 60 ∧ ∀ l, t 16 l = 0 ∨ t 16 l = 1) : CT yX5_removeLink cX5_removeLink 3 none 0 [mP 1, mI g] t (fun r t' => r = none ∧ t' = cutCT t g) := by
  refine CT_of rfl rfl (Nat.le_of_ble_eq_true rfl) (fun E ht has => ?_)
  have loop : ∀ l, l ≤ t 272 0 - 1 → g ≤ l → G E cX5_removeLink RX5 none 0 2 [some (mP 1), some (mI g), some (mI l)] [] (cutC t g l) (fun r t' => r = none ∧ t' = cutCT t g) := by
    refine up_ind (fun l hl ih h0 => ?_)
    have e1 := cutC_ne t g l (w := 272) (by decide)
    obtain ⟨e13, e14, e15, e16⟩ := cutC_at t g l
    have hbo : cutN (t 16) g l (l + 1) = 0 ∨ cutN (t 16) g l (l + 1) = 1 := by unfold cutN; split <;> exact hk.2 _
    refine G_iload_n (pc := 2) dX5_removeLink_2 rfl ?_
    refine G_iconst (pc := 3) dX5_removeLink_3 (by decide) ?_
    refine G_iadd (pc := 4) dX5_removeLink_4 (by omega) ?_
    refine G_aload_n (pc := 5) dX5_removeLink_5 rfl ?_
    refine G_getI (pc := 6) dX5_removeLink_6 fk_X5_38 rfl rfl rfl ?_
    rw [e1]
    refine G_icmp_ge (pc := 9) (tgt := 74) dX5_removeLink_9 rfl (fun h_9 => ?_) (fun h_9 => ?_)
    · have hl2 : l = t 272 0 - 1 := by omega
      subst hl2
      refine G_aload_n (pc := 74) dX5_removeLink_74 rfl ?_
      refine G_dup (pc := 75) dX5_removeLink_75 rfl ?_
      refine G_getI (pc := 76) dX5_removeLink_76 fk_X5_38 rfl rfl rfl ?_
      rw [e1]
      refine G_iconst (pc := 79) dX5_removeLink_79 (by decide) ?_
      refine G_isub (pc := 80) dX5_removeLink_80 (by omega) ?_
      refine G_put (pc := 81) dX5_removeLink_81 fk_X5_38 fw_X5_8 rfl rfl rfl (fun h => absurd h (by decide)) ?_
      exact G_return (pc := 84) dX5_removeLink_84 ⟨rfl, rfl⟩
    · refine G_aload_n (pc := 12) dX5_removeLink_12 rfl ?_
      refine G_getP (pc := 13) dX5_removeLink_13 fk_X5_21 rfl rfl rfl ?_
      refine G_iload_n (pc := 16) dX5_removeLink_16 rfl ?_
      refine G_aload_n (pc := 17) dX5_removeLink_17 rfl ?_
      refine G_getP (pc := 18) dX5_removeLink_18 fk_X5_21 rfl rfl rfl ?_
      refine G_iload_n (pc := 21) dX5_removeLink_21 rfl ?_
      refine G_iconst (pc := 22) dX5_removeLink_22 (by decide) ?_
      refine G_iadd (pc := 23) dX5_removeLink_23 (by omega) ?_
      refine G_iaload (pc := 24) dX5_removeLink_24 rfl rfl (by omega) ?_
      rw [e13]
      refine G_iastore (pc := 25) dX5_removeLink_25 rfl rfl (by omega) ?_
      refine G_aload_n (pc := 26) dX5_removeLink_26 rfl ?_
      refine G_getP (pc := 27) dX5_removeLink_27 fk_X5_24 rfl rfl rfl ?_
      refine G_iload_n (pc := 30) dX5_removeLink_30 rfl ?_
      refine G_aload_n (pc := 31) dX5_removeLink_31 rfl ?_
      refine G_getP (pc := 32) dX5_removeLink_32 fk_X5_24 rfl rfl rfl ?_
      refine G_iload_n (pc := 35) dX5_removeLink_35 rfl ?_
      refine G_iconst (pc := 36) dX5_removeLink_36 (by decide) ?_
      refine G_iadd (pc := 37) dX5_removeLink_37 (by omega) ?_
      refine G_iaload (pc := 38) dX5_removeLink_38 rfl rfl (by omega) ?_
      try simp (disch := decide) only [su_ne, su_at, su_same, sv_ne, sv_at]
      rw [e14]
      refine G_iastore (pc := 39) dX5_removeLink_39 rfl rfl (by omega) ?_
      refine G_aload_n (pc := 40) dX5_removeLink_40 rfl ?_
      refine G_getP (pc := 41) dX5_removeLink_41 fk_X5_27 rfl rfl rfl ?_
      refine G_iload_n (pc := 44) dX5_removeLink_44 rfl ?_
      refine G_aload_n (pc := 45) dX5_removeLink_45 rfl ?_
      refine G_getP (pc := 46) dX5_removeLink_46 fk_X5_27 rfl rfl rfl ?_
      refine G_iload_n (pc := 49) dX5_removeLink_49 rfl ?_
      refine G_iconst (pc := 50) dX5_removeLink_50 (by decide) ?_
      refine G_iadd (pc := 51) dX5_removeLink_51 (by omega) ?_
      refine G_iaload (pc := 52) dX5_removeLink_52 rfl rfl (by omega) ?_
      try simp (disch := decide) only [su_ne, su_at, su_same, sv_ne, sv_at]
      rw [e15]
      refine G_iastore (pc := 53) dX5_removeLink_53 rfl rfl (by omega) ?_
      refine G_aload_n (pc := 54) dX5_removeLink_54 rfl ?_
      refine G_getP (pc := 55) dX5_removeLink_55 fk_X5_30 rfl rfl rfl ?_
      refine G_iload_n (pc := 58) dX5_removeLink_58 rfl ?_
      refine G_aload_n (pc := 59) dX5_removeLink_59 rfl ?_
      refine G_getP (pc := 60) dX5_removeLink_60 fk_X5_30 rfl rfl rfl ?_
      refine G_iload_n (pc := 63) dX5_removeLink_63 rfl ?_
      refine G_iconst (pc := 64) dX5_removeLink_64 (by decide) ?_
      refine G_iadd (pc := 65) dX5_removeLink_65 (by omega) ?_
      refine G_baload (pc := 66) dX5_removeLink_66 rfl rfl (by omega) ?_
      try simp (disch := decide) only [su_ne, su_at, su_same, sv_ne, sv_at]
      rw [e16]
      refine G_bastore (pc := 67) dX5_removeLink_67 rfl rfl (by omega) (by exact hbo) ?_
      refine G_iinc (pc := 68) dX5_removeLink_68 rfl rfl (by omega) ?_
      refine G_goto (pc := 71) (tgt := 2) dX5_removeLink_71 rfl ?_
      rw [cutC_step t g l h0]
      exact ih (by omega) (by omega)
  refine G_iload_n (pc := 0) dX5_removeLink_0 rfl ?_
  refine G_istore_n (pc := 1) dX5_removeLink_1 (Nat.le_of_ble_eq_true rfl) rfl ?_
  have h := loop g (by omega) (by omega)
  rw [cutC_0] at h
  exact h
