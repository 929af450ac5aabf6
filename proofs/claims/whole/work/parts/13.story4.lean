/-! STORY: play; the reference's story -/
noncomputable def newR (n k : Int) : Int := if 24 ≤ n ∨ 60 ≤ k then -4 else n
def newC (t : Sto) (a d : Int) : Sto := if 24 ≤ t 267 0 ∨ 60 ≤ t 272 0 then t else addLinkC (addRoomC t 1 (t 11 a)) a d (t 267 0) 0
theorem addRoomC_272 (t : Sto) (w g : Int) : addRoomC t w g 272 0 = t 272 0 := by
  unfold addRoomC
  simp (disch := decide) only [su_ne]
theorem c_X8_playToNewRoom (t : Sto) (a d : Int) (hS : SC t) (ha : 0 ≤ a ∧ a < t 267 0) : CT yX8_playToNewRoom cX8_playToNewRoom 4 (some .int) 2 [mP 0, mI a, mI d] t (fun r t' => r = some (mI (newR (t 267 0) (t 272 0))) ∧ t' = newC t a d) := by
  refine CT_of rfl rfl (Nat.le_of_ble_eq_true rfl) (fun E ht has => ?_)
  have hb := hS.1
  refine G_aload_n (pc := 0) dX8_playToNewRoom_0 rfl ?_
  refine G_getP (pc := 1) dX8_playToNewRoom_1 fk_X8_10 rfl rfl rfl ?_
  refine G_cV1 (pc := 4) (c_X5_isFullOfRooms _) dX8_playToNewRoom_4 ml_X8_61 rfl rfl rfl (by decide) (Nat.le_of_ble_eq_true rfl) ?_
  refine G_if_ne (pc := 7) (tgt := 20) dX8_playToNewRoom_7 rfl (fun h_7 => ?_) (fun h_7 => ?_)
  · try simp only [bq0, ne_eq, Classical.not_not] at h_7
    refine G_bipush (pc := 20) (x := (-4)) dX8_playToNewRoom_20 rfl (by decide) ?_
    exact G_ireturn (pc := 22) dX8_playToNewRoom_22 (qeq' (by unfold newR; grind) (by unfold newC; grind))
  · try simp only [bq0, ne_eq, Classical.not_not] at h_7
    refine G_aload_n (pc := 10) dX8_playToNewRoom_10 rfl ?_
    refine G_getP (pc := 11) dX8_playToNewRoom_11 fk_X8_10 rfl rfl rfl ?_
    refine G_cV1 (pc := 14) (c_X5_isFullOfLinks _) dX8_playToNewRoom_14 ml_X8_82 rfl rfl rfl (by decide) (Nat.le_of_ble_eq_true rfl) ?_
    refine G_if_eq (pc := 17) (tgt := 23) dX8_playToNewRoom_17 rfl (fun h_17 => ?_) (fun h_17 => ?_)
    · try simp only [bq0, ne_eq, Classical.not_not] at h_17
      refine G_aload_n (pc := 23) dX8_playToNewRoom_23 rfl ?_
      refine G_getP (pc := 24) dX8_playToNewRoom_24 fk_X8_10 rfl rfl rfl ?_
      refine G_iconst (pc := 27) dX8_playToNewRoom_27 (by decide) ?_
      refine G_aload_n (pc := 28) dX8_playToNewRoom_28 rfl ?_
      refine G_getP (pc := 29) dX8_playToNewRoom_29 fk_X8_10 rfl rfl rfl ?_
      refine G_getP (pc := 32) dX8_playToNewRoom_32 fk_X8_202 rfl rfl rfl ?_
      refine G_iload_n (pc := 35) dX8_playToNewRoom_35 rfl ?_
      refine G_iaload (pc := 36) dX8_playToNewRoom_36 rfl rfl (by omega) ?_
      refine G_cV1 (pc := 37) (c_X5_addRoom _ _ _ (by omega)) dX8_playToNewRoom_37 ml_X8_65 rfl rfl rfl (by decide) (Nat.le_of_ble_eq_true rfl) ?_
      refine G_istore_n (pc := 40) dX8_playToNewRoom_40 (Nat.le_of_ble_eq_true rfl) rfl ?_
      refine G_aload_n (pc := 41) dX8_playToNewRoom_41 rfl ?_
      refine G_getP (pc := 42) dX8_playToNewRoom_42 fk_X8_10 rfl rfl rfl ?_
      refine G_iload_n (pc := 45) dX8_playToNewRoom_45 rfl ?_
      refine G_iload_n (pc := 46) dX8_playToNewRoom_46 rfl ?_
      refine G_iload_n (pc := 47) dX8_playToNewRoom_47 rfl ?_
      refine G_iconst (pc := 48) dX8_playToNewRoom_48 (by decide) ?_
      refine G_cV1 (pc := 49) (c_X5_addLink _ _ _ _ _ (by rw [addRoomC_272]; omega) (by exact Or.inl rfl)) dX8_playToNewRoom_49 ml_X8_85 rfl rfl rfl (by decide) (Nat.le_of_ble_eq_true rfl) ?_
      refine G_pop (pc := 52) dX8_playToNewRoom_52 rfl ?_
      refine G_iload_n (pc := 53) dX8_playToNewRoom_53 rfl ?_
      exact G_ireturn (pc := 54) dX8_playToNewRoom_54 (qeq' (by unfold newR; grind) (by unfold newC; grind))
    · try simp only [bq0, ne_eq, Classical.not_not] at h_17
      refine G_bipush (pc := 20) (x := (-4)) dX8_playToNewRoom_20 rfl (by decide) ?_
      exact G_ireturn (pc := 22) dX8_playToNewRoom_22 (qeq' (by unfold newR; grind) (by unfold newC; grind))
/-- whether a link of one way leads back -/
noncomputable def backB (k : Int) (fr di to bo : Int → Int) (a d b : Int) : Prop := 0 ≤ outS k fr di to bo b (oppI d) ∧ bo (outS k fr di to bo b (oppI d)) = 0 ∧ to (outS k fr di to bo b (oppI d)) = a
noncomputable def plyR (k : Int) (fr di to bo : Int → Int) (a d b : Int) : Int := @ite _ (backB k fr di to bo a d b ∨ ¬ 60 ≤ k) (Classical.propDecidable _) b (-4)
noncomputable def plyC (t : Sto) (a d b : Int) : Sto := @ite _ (backB (t 272 0) (t 13) (t 14) (t 15) (t 16) a d b) (Classical.propDecidable _) (su t 16 (outS (t 272 0) (t 13) (t 14) (t 15) (t 16) b (oppI d)) 1) (if 60 ≤ t 272 0 then t else addLinkC t a d b 0)
theorem c_X8_playToRoom (t : Sto) (a d b : Int) (hS : SC t) (ha : 0 ≤ a ∧ a < t 267 0) (hd : 0 ≤ d ∧ d ≤ 9) : CT yX8_playToRoom cX8_playToRoom 5 (some .int) 2 [mP 0, mI a, mI d, mI b] t (fun r t' => r = some (mI (plyR (t 272 0) (t 13) (t 14) (t 15) (t 16) a d b)) ∧ t' = plyC t a d b) := by
  refine CT_of rfl rfl (Nat.le_of_ble_eq_true rfl) (fun E ht has => ?_)
  have hb := hS.1
  have hr := outS_r (t 272 0) (t 13) (t 14) (t 15) (t 16) b (oppI d)
  refine G_aload_n (pc := 0) dX8_playToRoom_0 rfl ?_
  refine G_getP (pc := 1) dX8_playToRoom_1 fk_X8_10 rfl rfl rfl ?_
  refine G_iload_n (pc := 4) dX8_playToRoom_4 rfl ?_
  refine G_getstatic (pc := 5) dX8_playToRoom_5 sk_X8_78 ?_
  refine G_iload_n (pc := 8) dX8_playToRoom_8 rfl ?_
  refine G_sload (pc := 9) (k := 0) dX8_playToRoom_9 rfl rfl (by simp only [List.length_cons, List.length_nil]; omega) ?_
  refine G_cV1 (pc := 10) (c_X5_leading _ _ _ (by exact hS)) dX8_playToRoom_10 ml_X8_75 rfl rfl rfl (by decide) (Nat.le_of_ble_eq_true rfl) ?_
  change G E cX8_playToRoom RX8 (some .int) 2 (10 + 3) _ [mI (outS (t 272 0) (t 13) (t 14) (t 15) (t 16) b (oppI d))] t _
  refine G_istore (pc := 13) dX8_playToRoom_13 (Nat.le_of_ble_eq_true rfl) rfl ?_
  refine G_iload (pc := 15) dX8_playToRoom_15 rfl ?_
  refine G_if_lt (pc := 17) (tgt := 60) dX8_playToRoom_17 rfl (fun h_17 => ?_) (fun h_17 => ?_)
  · refine G_aload_n (pc := 60) dX8_playToRoom_60 rfl ?_
    refine G_getP (pc := 61) dX8_playToRoom_61 fk_X8_10 rfl rfl rfl ?_
    refine G_cV1 (pc := 64) (c_X5_isFullOfLinks _) dX8_playToRoom_64 ml_X8_82 rfl rfl rfl (by decide) (Nat.le_of_ble_eq_true rfl) ?_
    refine G_if_eq (pc := 67) (tgt := 73) dX8_playToRoom_67 rfl (fun h_67 => ?_) (fun h_67 => ?_)
    · try simp only [bq0, ne_eq, Classical.not_not] at h_67
      refine G_aload_n (pc := 73) dX8_playToRoom_73 rfl ?_
      refine G_getP (pc := 74) dX8_playToRoom_74 fk_X8_10 rfl rfl rfl ?_
      refine G_iload_n (pc := 77) dX8_playToRoom_77 rfl ?_
      refine G_iload_n (pc := 78) dX8_playToRoom_78 rfl ?_
      refine G_iload_n (pc := 79) dX8_playToRoom_79 rfl ?_
      refine G_iconst (pc := 80) dX8_playToRoom_80 (by decide) ?_
      refine G_cV1 (pc := 81) (c_X5_addLink _ _ _ _ _ (by omega) (by exact Or.inl rfl)) dX8_playToRoom_81 ml_X8_85 rfl rfl rfl (by decide) (Nat.le_of_ble_eq_true rfl) ?_
      refine G_pop (pc := 84) dX8_playToRoom_84 rfl ?_
      refine G_iload_n (pc := 85) dX8_playToRoom_85 rfl ?_
      exact G_ireturn (pc := 86) dX8_playToRoom_86 (qeq' (by unfold plyR backB; grind) (by unfold plyC backB; grind))
    · try simp only [bq0, ne_eq, Classical.not_not] at h_67
      refine G_bipush (pc := 70) (x := (-4)) dX8_playToRoom_70 rfl (by decide) ?_
      exact G_ireturn (pc := 72) dX8_playToRoom_72 (qeq' (by unfold plyR backB; grind) (by unfold plyC backB; grind))
  · refine G_aload_n (pc := 20) dX8_playToRoom_20 rfl ?_
    refine G_getP (pc := 21) dX8_playToRoom_21 fk_X8_10 rfl rfl rfl ?_
    refine G_getP (pc := 24) dX8_playToRoom_24 fk_X8_126 rfl rfl rfl ?_
    refine G_iload (pc := 27) dX8_playToRoom_27 rfl ?_
    refine G_baload (pc := 29) dX8_playToRoom_29 rfl rfl (by omega) ?_
    refine G_if_ne (pc := 30) (tgt := 60) dX8_playToRoom_30 rfl (fun h_30 => ?_) (fun h_30 => ?_)
    · try simp only [bq0, ne_eq, Classical.not_not] at h_30
      refine G_aload_n (pc := 60) dX8_playToRoom_60 rfl ?_
      refine G_getP (pc := 61) dX8_playToRoom_61 fk_X8_10 rfl rfl rfl ?_
      refine G_cV1 (pc := 64) (c_X5_isFullOfLinks _) dX8_playToRoom_64 ml_X8_82 rfl rfl rfl (by decide) (Nat.le_of_ble_eq_true rfl) ?_
      refine G_if_eq (pc := 67) (tgt := 73) dX8_playToRoom_67 rfl (fun h_67 => ?_) (fun h_67 => ?_)
      · try simp only [bq0, ne_eq, Classical.not_not] at h_67
        refine G_aload_n (pc := 73) dX8_playToRoom_73 rfl ?_
        refine G_getP (pc := 74) dX8_playToRoom_74 fk_X8_10 rfl rfl rfl ?_
        refine G_iload_n (pc := 77) dX8_playToRoom_77 rfl ?_
        refine G_iload_n (pc := 78) dX8_playToRoom_78 rfl ?_
        refine G_iload_n (pc := 79) dX8_playToRoom_79 rfl ?_
        refine G_iconst (pc := 80) dX8_playToRoom_80 (by decide) ?_
        refine G_cV1 (pc := 81) (c_X5_addLink _ _ _ _ _ (by omega) (by exact Or.inl rfl)) dX8_playToRoom_81 ml_X8_85 rfl rfl rfl (by decide) (Nat.le_of_ble_eq_true rfl) ?_
        refine G_pop (pc := 84) dX8_playToRoom_84 rfl ?_
        refine G_iload_n (pc := 85) dX8_playToRoom_85 rfl ?_
        exact G_ireturn (pc := 86) dX8_playToRoom_86 (qeq' (by unfold plyR backB; grind) (by unfold plyC backB; grind))
      · try simp only [bq0, ne_eq, Classical.not_not] at h_67
        refine G_bipush (pc := 70) (x := (-4)) dX8_playToRoom_70 rfl (by decide) ?_
        exact G_ireturn (pc := 72) dX8_playToRoom_72 (qeq' (by unfold plyR backB; grind) (by unfold plyC backB; grind))
    · try simp only [bq0, ne_eq, Classical.not_not] at h_30
      refine G_aload_n (pc := 33) dX8_playToRoom_33 rfl ?_
      refine G_getP (pc := 34) dX8_playToRoom_34 fk_X8_10 rfl rfl rfl ?_
      refine G_getP (pc := 37) dX8_playToRoom_37 fk_X8_123 rfl rfl rfl ?_
      refine G_iload (pc := 40) dX8_playToRoom_40 rfl ?_
      refine G_iaload (pc := 42) dX8_playToRoom_42 rfl rfl (by omega) ?_
      refine G_iload_n (pc := 43) dX8_playToRoom_43 rfl ?_
      refine G_icmp_ne (pc := 44) (tgt := 60) dX8_playToRoom_44 rfl (fun h_44 => ?_) (fun h_44 => ?_)
      · refine G_aload_n (pc := 60) dX8_playToRoom_60 rfl ?_
        refine G_getP (pc := 61) dX8_playToRoom_61 fk_X8_10 rfl rfl rfl ?_
        refine G_cV1 (pc := 64) (c_X5_isFullOfLinks _) dX8_playToRoom_64 ml_X8_82 rfl rfl rfl (by decide) (Nat.le_of_ble_eq_true rfl) ?_
        refine G_if_eq (pc := 67) (tgt := 73) dX8_playToRoom_67 rfl (fun h_67 => ?_) (fun h_67 => ?_)
        · try simp only [bq0, ne_eq, Classical.not_not] at h_67
          refine G_aload_n (pc := 73) dX8_playToRoom_73 rfl ?_
          refine G_getP (pc := 74) dX8_playToRoom_74 fk_X8_10 rfl rfl rfl ?_
          refine G_iload_n (pc := 77) dX8_playToRoom_77 rfl ?_
          refine G_iload_n (pc := 78) dX8_playToRoom_78 rfl ?_
          refine G_iload_n (pc := 79) dX8_playToRoom_79 rfl ?_
          refine G_iconst (pc := 80) dX8_playToRoom_80 (by decide) ?_
          refine G_cV1 (pc := 81) (c_X5_addLink _ _ _ _ _ (by omega) (by exact Or.inl rfl)) dX8_playToRoom_81 ml_X8_85 rfl rfl rfl (by decide) (Nat.le_of_ble_eq_true rfl) ?_
          refine G_pop (pc := 84) dX8_playToRoom_84 rfl ?_
          refine G_iload_n (pc := 85) dX8_playToRoom_85 rfl ?_
          exact G_ireturn (pc := 86) dX8_playToRoom_86 (qeq' (by unfold plyR backB; grind) (by unfold plyC backB; grind))
        · try simp only [bq0, ne_eq, Classical.not_not] at h_67
          refine G_bipush (pc := 70) (x := (-4)) dX8_playToRoom_70 rfl (by decide) ?_
          exact G_ireturn (pc := 72) dX8_playToRoom_72 (qeq' (by unfold plyR backB; grind) (by unfold plyC backB; grind))
      · refine G_aload_n (pc := 47) dX8_playToRoom_47 rfl ?_
        refine G_getP (pc := 48) dX8_playToRoom_48 fk_X8_10 rfl rfl rfl ?_
        refine G_getP (pc := 51) dX8_playToRoom_51 fk_X8_126 rfl rfl rfl ?_
        refine G_iload (pc := 54) dX8_playToRoom_54 rfl ?_
        refine G_iconst (pc := 56) dX8_playToRoom_56 (by decide) ?_
        refine G_bastore (pc := 57) dX8_playToRoom_57 rfl rfl (by omega) (by first | exact Or.inl rfl | exact Or.inr rfl | omega) ?_
        refine G_iload_n (pc := 58) dX8_playToRoom_58 rfl ?_
        exact G_ireturn (pc := 59) dX8_playToRoom_59 (qeq' (by unfold plyR backB; grind) (by unfold plyC backB; grind))
noncomputable def playR (n k : Int) (fr di to bo : Int → Int) (a d b : Int) : Int := if (0 ≤ a ∧ a < n) ∧ (0 ≤ d ∧ d ≤ 9) ∧ (b = -2 ∨ (0 ≤ b ∧ b < n)) then (if 0 ≤ beyS k fr di to bo a d then (if beyS k fr di to bo a d = b then b else -3) else if b = -2 then newR n k else plyR k fr di to bo a d b) else -1
noncomputable def playC (t : Sto) (a d b : Int) : Sto := if ((0 ≤ a ∧ a < t 267 0) ∧ (0 ≤ d ∧ d ≤ 9) ∧ (b = -2 ∨ (0 ≤ b ∧ b < t 267 0))) ∧ ¬ 0 ≤ beyS (t 272 0) (t 13) (t 14) (t 15) (t 16) a d then (if b = -2 then newC t a d else plyC t a d b) else t
theorem c_X8_play (t : Sto) (a d b : Int) (hS : SC t) : CT yX8_play cX8_play 5 (some .int) 3 [mP 0, mI a, mI d, mI b] t (fun r t' => r = some (mI (playR (t 267 0) (t 272 0) (t 13) (t 14) (t 15) (t 16) a d b)) ∧ t' = playC t a d b) := by
  refine CT_of rfl rfl (Nat.le_of_ble_eq_true rfl) (fun E ht has => ?_)
  have hb := hS.1
  refine G_aload_n (pc := 0) dX8_play_0 rfl ?_
  refine G_getP (pc := 1) dX8_play_1 fk_X8_10 rfl rfl rfl ?_
  refine G_iload_n (pc := 4) dX8_play_4 rfl ?_
  refine G_cV1 (pc := 5) (c_X5_isRoom _ _) dX8_play_5 ml_X8_69 rfl rfl rfl (by decide) (Nat.le_of_ble_eq_true rfl) ?_
  refine G_if_eq (pc := 8) (tgt := 35) dX8_play_8 rfl (fun h_8 => ?_) (fun h_8 => ?_)
  · try simp only [bq0, ne_eq, Classical.not_not] at h_8
    refine G_iconst (pc := 35) dX8_play_35 (by decide) ?_
    exact G_ireturn (pc := 36) dX8_play_36 (qeq' (by unfold playR; grind) (by unfold playC; grind))
  · try simp only [bq0, ne_eq, Classical.not_not] at h_8
    refine G_iload_n (pc := 11) dX8_play_11 rfl ?_
    refine G_cS1 (pc := 12) (c_X8_isDirection _ _) dX8_play_12 ml_X8_72 rfl (by decide) (Nat.le_of_ble_eq_true rfl) ?_
    refine G_if_eq (pc := 15) (tgt := 35) dX8_play_15 rfl (fun h_15 => ?_) (fun h_15 => ?_)
    · try simp only [bq0, ne_eq, Classical.not_not] at h_15
      refine G_iconst (pc := 35) dX8_play_35 (by decide) ?_
      exact G_ireturn (pc := 36) dX8_play_36 (qeq' (by unfold playR; grind) (by unfold playC; grind))
    · try simp only [bq0, ne_eq, Classical.not_not] at h_15
      refine G_iload_n (pc := 18) dX8_play_18 rfl ?_
      refine G_bipush (pc := 19) (x := (-2)) dX8_play_19 rfl (by decide) ?_
      refine G_icmp_eq (pc := 21) (tgt := 37) dX8_play_21 rfl (fun h_21 => ?_) (fun h_21 => ?_)
      · refine G_aload_n (pc := 37) dX8_play_37 rfl ?_
        refine G_getP (pc := 38) dX8_play_38 fk_X8_10 rfl rfl rfl ?_
        refine G_iload_n (pc := 41) dX8_play_41 rfl ?_
        refine G_iload_n (pc := 42) dX8_play_42 rfl ?_
        refine G_cV1 (pc := 43) (c_X5_beyond _ _ _ (by exact hS)) dX8_play_43 ml_X8_100 rfl rfl rfl (by decide) (Nat.le_of_ble_eq_true rfl) ?_
        refine G_istore (pc := 46) dX8_play_46 (Nat.le_of_ble_eq_true rfl) rfl ?_
        refine G_iload (pc := 48) dX8_play_48 rfl ?_
        refine G_if_lt (pc := 50) (tgt := 66) dX8_play_50 rfl (fun h_50 => ?_) (fun h_50 => ?_)
        · refine G_iload_n (pc := 66) dX8_play_66 rfl ?_
          refine G_bipush (pc := 67) (x := (-2)) dX8_play_67 rfl (by decide) ?_
          refine G_icmp_ne (pc := 69) (tgt := 81) dX8_play_69 rfl (fun h_69 => ?_) (fun h_69 => ?_)
          · refine G_aload_n (pc := 81) dX8_play_81 rfl ?_
            refine G_iload_n (pc := 82) dX8_play_82 rfl ?_
            refine G_iload_n (pc := 83) dX8_play_83 rfl ?_
            refine G_iload_n (pc := 84) dX8_play_84 rfl ?_
            refine G_cV1 (pc := 85) (c_X8_playToRoom _ _ _ _ (by exact hS) (by omega) (by omega)) dX8_play_85 ml_X8_106 rfl rfl rfl (by decide) (Nat.le_of_ble_eq_true rfl) ?_
            exact G_ireturn (pc := 88) dX8_play_88 (qeq' (by unfold playR; grind) (by unfold playC; grind))
          · refine G_aload_n (pc := 72) dX8_play_72 rfl ?_
            refine G_iload_n (pc := 73) dX8_play_73 rfl ?_
            refine G_iload_n (pc := 74) dX8_play_74 rfl ?_
            refine G_cV1 (pc := 75) (c_X8_playToNewRoom _ _ _ (by exact hS) (by omega)) dX8_play_75 ml_X8_103 rfl rfl rfl (by decide) (Nat.le_of_ble_eq_true rfl) ?_
            refine G_goto (pc := 78) (tgt := 88) dX8_play_78 rfl ?_
            exact G_ireturn (pc := 88) dX8_play_88 (qeq' (by unfold playR; grind) (by unfold playC; grind))
        · refine G_iload (pc := 53) dX8_play_53 rfl ?_
          refine G_iload_n (pc := 55) dX8_play_55 rfl ?_
          refine G_icmp_ne (pc := 56) (tgt := 63) dX8_play_56 rfl (fun h_56 => ?_) (fun h_56 => ?_)
          · refine G_bipush (pc := 63) (x := (-3)) dX8_play_63 rfl (by decide) ?_
            exact G_ireturn (pc := 65) dX8_play_65 (qeq' (by unfold playR; grind) (by unfold playC; grind))
          · refine G_iload_n (pc := 59) dX8_play_59 rfl ?_
            refine G_goto (pc := 60) (tgt := 65) dX8_play_60 rfl ?_
            exact G_ireturn (pc := 65) dX8_play_65 (qeq' (by unfold playR; grind) (by unfold playC; grind))
      · refine G_aload_n (pc := 24) dX8_play_24 rfl ?_
        refine G_getP (pc := 25) dX8_play_25 fk_X8_10 rfl rfl rfl ?_
        refine G_iload_n (pc := 28) dX8_play_28 rfl ?_
        refine G_cV1 (pc := 29) (c_X5_isRoom _ _) dX8_play_29 ml_X8_69 rfl rfl rfl (by decide) (Nat.le_of_ble_eq_true rfl) ?_
        refine G_if_ne (pc := 32) (tgt := 37) dX8_play_32 rfl (fun h_32 => ?_) (fun h_32 => ?_)
        · try simp only [bq0, ne_eq, Classical.not_not] at h_32
          refine G_aload_n (pc := 37) dX8_play_37 rfl ?_
          refine G_getP (pc := 38) dX8_play_38 fk_X8_10 rfl rfl rfl ?_
          refine G_iload_n (pc := 41) dX8_play_41 rfl ?_
          refine G_iload_n (pc := 42) dX8_play_42 rfl ?_
          refine G_cV1 (pc := 43) (c_X5_beyond _ _ _ (by exact hS)) dX8_play_43 ml_X8_100 rfl rfl rfl (by decide) (Nat.le_of_ble_eq_true rfl) ?_
          refine G_istore (pc := 46) dX8_play_46 (Nat.le_of_ble_eq_true rfl) rfl ?_
          refine G_iload (pc := 48) dX8_play_48 rfl ?_
          refine G_if_lt (pc := 50) (tgt := 66) dX8_play_50 rfl (fun h_50 => ?_) (fun h_50 => ?_)
          · refine G_iload_n (pc := 66) dX8_play_66 rfl ?_
            refine G_bipush (pc := 67) (x := (-2)) dX8_play_67 rfl (by decide) ?_
            refine G_icmp_ne (pc := 69) (tgt := 81) dX8_play_69 rfl (fun h_69 => ?_) (fun h_69 => ?_)
            · refine G_aload_n (pc := 81) dX8_play_81 rfl ?_
              refine G_iload_n (pc := 82) dX8_play_82 rfl ?_
              refine G_iload_n (pc := 83) dX8_play_83 rfl ?_
              refine G_iload_n (pc := 84) dX8_play_84 rfl ?_
              refine G_cV1 (pc := 85) (c_X8_playToRoom _ _ _ _ (by exact hS) (by omega) (by omega)) dX8_play_85 ml_X8_106 rfl rfl rfl (by decide) (Nat.le_of_ble_eq_true rfl) ?_
              exact G_ireturn (pc := 88) dX8_play_88 (qeq' (by unfold playR; grind) (by unfold playC; grind))
            · refine G_aload_n (pc := 72) dX8_play_72 rfl ?_
              refine G_iload_n (pc := 73) dX8_play_73 rfl ?_
              refine G_iload_n (pc := 74) dX8_play_74 rfl ?_
              refine G_cV1 (pc := 75) (c_X8_playToNewRoom _ _ _ (by exact hS) (by omega)) dX8_play_75 ml_X8_103 rfl rfl rfl (by decide) (Nat.le_of_ble_eq_true rfl) ?_
              refine G_goto (pc := 78) (tgt := 88) dX8_play_78 rfl ?_
              exact G_ireturn (pc := 88) dX8_play_88 (qeq' (by unfold playR; grind) (by unfold playC; grind))
          · refine G_iload (pc := 53) dX8_play_53 rfl ?_
            refine G_iload_n (pc := 55) dX8_play_55 rfl ?_
            refine G_icmp_ne (pc := 56) (tgt := 63) dX8_play_56 rfl (fun h_56 => ?_) (fun h_56 => ?_)
            · refine G_bipush (pc := 63) (x := (-3)) dX8_play_63 rfl (by decide) ?_
              exact G_ireturn (pc := 65) dX8_play_65 (qeq' (by unfold playR; grind) (by unfold playC; grind))
            · refine G_iload_n (pc := 59) dX8_play_59 rfl ?_
              refine G_goto (pc := 60) (tgt := 65) dX8_play_60 rfl ?_
              exact G_ireturn (pc := 65) dX8_play_65 (qeq' (by unfold playR; grind) (by unfold playC; grind))
        · try simp only [bq0, ne_eq, Classical.not_not] at h_32
          refine G_iconst (pc := 35) dX8_play_35 (by decide) ?_
          exact G_ireturn (pc := 36) dX8_play_36 (qeq' (by unfold playR; grind) (by unfold playC; grind))
/-! the reference -/
theorem c_X9_in (t : Sto) (v a b : Int) : CT yX9_in cX9_in 3 (some .boolean) 0 [mI v, mI a, mI b] t (fun r t' => r = some (mI (if a ≤ v ∧ v ≤ b then 1 else 0)) ∧ t' = t) := by
  refine CT_of rfl rfl (Nat.le_of_ble_eq_true rfl) (fun E ht has => ?_)
  refine G_iload_n (pc := 0) dX9_in_0 rfl ?_
  refine G_iload_n (pc := 1) dX9_in_1 rfl ?_
  refine G_icmp_lt (pc := 2) (tgt := 14) dX9_in_2 rfl (fun h_2 => ?_) (fun h_2 => ?_)
  · refine G_iconst (pc := 14) dX9_in_14 (by decide) ?_
    exact G_zreturn (pc := 15) dX9_in_15 (by first | exact Or.inl rfl | exact Or.inr rfl | omega | (split <;> first | exact Or.inl rfl | exact Or.inr rfl)) (qeq (by first | rfl | omega | (split <;> omega) | grind))
  · refine G_iload_n (pc := 5) dX9_in_5 rfl ?_
    refine G_iload_n (pc := 6) dX9_in_6 rfl ?_
    refine G_icmp_gt (pc := 7) (tgt := 14) dX9_in_7 rfl (fun h_7 => ?_) (fun h_7 => ?_)
    · refine G_iconst (pc := 14) dX9_in_14 (by decide) ?_
      exact G_zreturn (pc := 15) dX9_in_15 (by first | exact Or.inl rfl | exact Or.inr rfl | omega | (split <;> first | exact Or.inl rfl | exact Or.inr rfl)) (qeq (by first | rfl | omega | (split <;> omega) | grind))
    · refine G_iconst (pc := 10) dX9_in_10 (by decide) ?_
      refine G_goto (pc := 11) (tgt := 15) dX9_in_11 rfl ?_
      exact G_zreturn (pc := 15) dX9_in_15 (by first | exact Or.inl rfl | exact Or.inr rfl | omega | (split <;> first | exact Or.inl rfl | exact Or.inr rfl)) (qeq (by first | rfl | omega | (split <;> omega) | grind))
theorem c_X9_isRoom (t : Sto) (r : Int) (hn : 0 ≤ t 2184 0) : CT yX9_isRoom cX9_isRoom 2 (some .boolean) 1 [mP 31, mI r] t (fun a t' => a = some (mI (if 0 ≤ r ∧ r < t 2184 0 then 1 else 0)) ∧ t' = t) := by
  refine CT_of rfl rfl (Nat.le_of_ble_eq_true rfl) (fun E ht has => ?_)
  have hr : t 2184 0 ≤ 2147483647 := (ht 2184 0).2
  refine G_iload_n (pc := 0) dX9_isRoom_0 rfl ?_
  refine G_iconst (pc := 1) dX9_isRoom_1 (by decide) ?_
  refine G_aload_n (pc := 2) dX9_isRoom_2 rfl ?_
  refine G_getI (pc := 3) dX9_isRoom_3 fk_X9_86 rfl rfl rfl ?_
  refine G_iconst (pc := 6) dX9_isRoom_6 (by decide) ?_
  refine G_isub (pc := 7) dX9_isRoom_7 (by omega) ?_
  refine G_cS1 (pc := 8) (c_X9_in _ _ _ _) dX9_isRoom_8 ml_X9_90 rfl (by decide) (Nat.le_of_ble_eq_true rfl) ?_
  exact G_zreturn (pc := 11) dX9_isRoom_11 (by exact bqr) (qeq (by grind))
theorem c_X9_isLink (t : Sto) (r : Int) (hn : 0 ≤ t 2188 0) : CT yX9_isLink cX9_isLink 2 (some .boolean) 1 [mP 31, mI r] t (fun a t' => a = some (mI (if 0 ≤ r ∧ r < t 2188 0 then 1 else 0)) ∧ t' = t) := by
  refine CT_of rfl rfl (Nat.le_of_ble_eq_true rfl) (fun E ht has => ?_)
  have hr : t 2188 0 ≤ 2147483647 := (ht 2188 0).2
  refine G_iload_n (pc := 0) dX9_isLink_0 rfl ?_
  refine G_iconst (pc := 1) dX9_isLink_1 (by decide) ?_
  refine G_aload_n (pc := 2) dX9_isLink_2 rfl ?_
  refine G_getI (pc := 3) dX9_isLink_3 fk_X9_94 rfl rfl rfl ?_
  refine G_iconst (pc := 6) dX9_isLink_6 (by decide) ?_
  refine G_isub (pc := 7) dX9_isLink_7 (by omega) ?_
  refine G_cS1 (pc := 8) (c_X9_in _ _ _ _) dX9_isLink_8 ml_X9_90 rfl (by decide) (Nat.le_of_ble_eq_true rfl) ?_
  exact G_zreturn (pc := 11) dX9_isLink_11 (by exact bqr) (qeq (by grind))
theorem opp_arith {d : Int} (h : 0 ≤ d ∧ d ≤ 9) : oppI d = if 8 ≤ d then 17 - d else (d + 4).tmod 8 := by
  rcases dir_cases h with rfl | rfl | rfl | rfl | rfl | rfl | rfl | rfl | rfl | rfl <;> decide
theorem ea_arith {d : Int} (h : 0 ≤ d ∧ d ≤ 9) : eaI d = if 1 ≤ d ∧ d ≤ 3 then 1 else if 5 ≤ d ∧ d ≤ 7 then -1 else 0 := by
  rcases dir_cases h with rfl | rfl | rfl | rfl | rfl | rfl | rfl | rfl | rfl | rfl <;> decide
theorem so_arith {d : Int} (h : 0 ≤ d ∧ d ≤ 9) : soI d = if 3 ≤ d ∧ d ≤ 5 then 1 else if d = 7 ∨ d = 0 ∨ d = 1 then -1 else 0 := by
  rcases dir_cases h with rfl | rfl | rfl | rfl | rfl | rfl | rfl | rfl | rfl | rfl <;> decide
theorem ri_arith {d : Int} (h : 0 ≤ d ∧ d ≤ 9) : riI d = if d = 8 then 1 else if d = 9 then -1 else 0 := by
  rcases dir_cases h with rfl | rfl | rfl | rfl | rfl | rfl | rfl | rfl | rfl | rfl <;> decide
theorem c_X9_opposite (t : Sto) (d : Int) (h : 0 ≤ d ∧ d ≤ 9) : CT yX9_opposite cX9_opposite 1 (some .int) 0 [mI d] t (fun a t' => a = some (mI (oppI d)) ∧ t' = t) := by
  refine CT_of rfl rfl (Nat.le_of_ble_eq_true rfl) (fun E ht has => ?_)
  rw [opp_arith h]
  refine G_iload_n (pc := 0) dX9_opposite_0 rfl ?_
  refine G_bipush (pc := 1) (x := 8) dX9_opposite_1 rfl (by decide) ?_
  refine G_icmp_ge (pc := 3) (tgt := 15) dX9_opposite_3 rfl (fun h_3 => ?_) (fun h_3 => ?_)
  · refine G_bipush (pc := 15) (x := 17) dX9_opposite_15 rfl (by decide) ?_
    refine G_iload_n (pc := 17) dX9_opposite_17 rfl ?_
    refine G_isub (pc := 18) dX9_opposite_18 (by omega) ?_
    exact G_ireturn (pc := 19) dX9_opposite_19 (qeq (by grind))
  · refine G_iload_n (pc := 6) dX9_opposite_6 rfl ?_
    refine G_iconst (pc := 7) dX9_opposite_7 (by decide) ?_
    refine G_iadd (pc := 8) dX9_opposite_8 (by omega) ?_
    refine G_bipush (pc := 9) (x := 8) dX9_opposite_9 rfl (by decide) ?_
    refine G_irem (pc := 11) dX9_opposite_11 (by decide) ?_
    refine G_goto (pc := 12) (tgt := 19) dX9_opposite_12 rfl ?_
    exact G_ireturn (pc := 19) dX9_opposite_19 (qeq (by grind))
theorem c_X9_east (t : Sto) (d : Int) (h : 0 ≤ d ∧ d ≤ 9) : CT yX9_east cX9_east 1 (some .int) 1 [mI d] t (fun a t' => a = some (mI (eaI d)) ∧ t' = t) := by
  refine CT_of rfl rfl (Nat.le_of_ble_eq_true rfl) (fun E ht has => ?_)
  rw [ea_arith h]
  refine G_iload_n (pc := 0) dX9_east_0 rfl ?_
  refine G_iconst (pc := 1) dX9_east_1 (by decide) ?_
  refine G_iconst (pc := 2) dX9_east_2 (by decide) ?_
  refine G_cS1 (pc := 3) (c_X9_in _ _ _ _) dX9_east_3 ml_X9_90 rfl (by decide) (Nat.le_of_ble_eq_true rfl) ?_
  refine G_if_eq (pc := 6) (tgt := 13) dX9_east_6 rfl (fun h_6 => ?_) (fun h_6 => ?_)
  · try simp only [bq0, ne_eq, Classical.not_not] at h_6
    refine G_iload_n (pc := 13) dX9_east_13 rfl ?_
    refine G_iconst (pc := 14) dX9_east_14 (by decide) ?_
    refine G_bipush (pc := 15) (x := 7) dX9_east_15 rfl (by decide) ?_
    refine G_cS1 (pc := 17) (c_X9_in _ _ _ _) dX9_east_17 ml_X9_90 rfl (by decide) (Nat.le_of_ble_eq_true rfl) ?_
    refine G_if_eq (pc := 20) (tgt := 27) dX9_east_20 rfl (fun h_20 => ?_) (fun h_20 => ?_)
    · try simp only [bq0, ne_eq, Classical.not_not] at h_20
      refine G_iconst (pc := 27) dX9_east_27 (by decide) ?_
      exact G_ireturn (pc := 28) dX9_east_28 (qeq (by grind))
    · try simp only [bq0, ne_eq, Classical.not_not] at h_20
      refine G_iconst (pc := 23) dX9_east_23 (by decide) ?_
      refine G_goto (pc := 24) (tgt := 28) dX9_east_24 rfl ?_
      exact G_ireturn (pc := 28) dX9_east_28 (qeq (by grind))
  · try simp only [bq0, ne_eq, Classical.not_not] at h_6
    refine G_iconst (pc := 9) dX9_east_9 (by decide) ?_
    refine G_goto (pc := 10) (tgt := 28) dX9_east_10 rfl ?_
    exact G_ireturn (pc := 28) dX9_east_28 (qeq (by grind))
theorem c_X9_south (t : Sto) (d : Int) (h : 0 ≤ d ∧ d ≤ 9) : CT yX9_south cX9_south 1 (some .int) 1 [mI d] t (fun a t' => a = some (mI (soI d)) ∧ t' = t) := by
  refine CT_of rfl rfl (Nat.le_of_ble_eq_true rfl) (fun E ht has => ?_)
  rw [so_arith h]
  refine G_iload_n (pc := 0) dX9_south_0 rfl ?_
  refine G_iconst (pc := 1) dX9_south_1 (by decide) ?_
  refine G_iconst (pc := 2) dX9_south_2 (by decide) ?_
  refine G_cS1 (pc := 3) (c_X9_in _ _ _ _) dX9_south_3 ml_X9_90 rfl (by decide) (Nat.le_of_ble_eq_true rfl) ?_
  refine G_if_eq (pc := 6) (tgt := 13) dX9_south_6 rfl (fun h_6 => ?_) (fun h_6 => ?_)
  · try simp only [bq0, ne_eq, Classical.not_not] at h_6
    refine G_iload_n (pc := 13) dX9_south_13 rfl ?_
    refine G_bipush (pc := 14) (x := 7) dX9_south_14 rfl (by decide) ?_
    refine G_icmp_eq (pc := 16) (tgt := 28) dX9_south_16 rfl (fun h_16 => ?_) (fun h_16 => ?_)
    · refine G_iconst (pc := 28) dX9_south_28 (by decide) ?_
      refine G_goto (pc := 29) (tgt := 33) dX9_south_29 rfl ?_
      exact G_ireturn (pc := 33) dX9_south_33 (qeq (by grind))
    · refine G_iload_n (pc := 19) dX9_south_19 rfl ?_
      refine G_if_eq (pc := 20) (tgt := 28) dX9_south_20 rfl (fun h_20 => ?_) (fun h_20 => ?_)
      · try simp only [bq0, ne_eq, Classical.not_not] at h_20
        refine G_iconst (pc := 28) dX9_south_28 (by decide) ?_
        refine G_goto (pc := 29) (tgt := 33) dX9_south_29 rfl ?_
        exact G_ireturn (pc := 33) dX9_south_33 (qeq (by grind))
      · try simp only [bq0, ne_eq, Classical.not_not] at h_20
        refine G_iload_n (pc := 23) dX9_south_23 rfl ?_
        refine G_iconst (pc := 24) dX9_south_24 (by decide) ?_
        refine G_icmp_ne (pc := 25) (tgt := 32) dX9_south_25 rfl (fun h_25 => ?_) (fun h_25 => ?_)
        · refine G_iconst (pc := 32) dX9_south_32 (by decide) ?_
          exact G_ireturn (pc := 33) dX9_south_33 (qeq (by grind))
        · refine G_iconst (pc := 28) dX9_south_28 (by decide) ?_
          refine G_goto (pc := 29) (tgt := 33) dX9_south_29 rfl ?_
          exact G_ireturn (pc := 33) dX9_south_33 (qeq (by grind))
  · try simp only [bq0, ne_eq, Classical.not_not] at h_6
    refine G_iconst (pc := 9) dX9_south_9 (by decide) ?_
    refine G_goto (pc := 10) (tgt := 33) dX9_south_10 rfl ?_
    exact G_ireturn (pc := 33) dX9_south_33 (qeq (by grind))
theorem c_X9_up (t : Sto) (d : Int) (h : 0 ≤ d ∧ d ≤ 9) : CT yX9_up cX9_up 1 (some .int) 0 [mI d] t (fun a t' => a = some (mI (riI d)) ∧ t' = t) := by
  refine CT_of rfl rfl (Nat.le_of_ble_eq_true rfl) (fun E ht has => ?_)
  rw [ri_arith h]
  refine G_iload_n (pc := 0) dX9_up_0 rfl ?_
  refine G_bipush (pc := 1) (x := 8) dX9_up_1 rfl (by decide) ?_
  refine G_icmp_ne (pc := 3) (tgt := 10) dX9_up_3 rfl (fun h_3 => ?_) (fun h_3 => ?_)
  · refine G_iload_n (pc := 10) dX9_up_10 rfl ?_
    refine G_bipush (pc := 11) (x := 9) dX9_up_11 rfl (by decide) ?_
    refine G_icmp_ne (pc := 13) (tgt := 20) dX9_up_13 rfl (fun h_13 => ?_) (fun h_13 => ?_)
    · refine G_iconst (pc := 20) dX9_up_20 (by decide) ?_
      exact G_ireturn (pc := 21) dX9_up_21 (qeq (by grind))
    · refine G_iconst (pc := 16) dX9_up_16 (by decide) ?_
      refine G_goto (pc := 17) (tgt := 21) dX9_up_17 rfl ?_
      exact G_ireturn (pc := 21) dX9_up_21 (qeq (by grind))
  · refine G_iconst (pc := 6) dX9_up_6 (by decide) ?_
    refine G_goto (pc := 7) (tgt := 21) dX9_up_7 rfl ?_
    exact G_ireturn (pc := 21) dX9_up_21 (qeq (by grind))
def addRoomM (t : Sto) (w g : Int) : Sto := su (su (su (su (su t 32 (t 2184 0) w) 33 (t 2184 0) g) 34 (t 2184 0) (-2)) 39 (t 2184 0) 0) 2184 0 (t 2184 0 + 1)
def roomM (t : Sto) (w g : Int) : Sto := if (1 ≤ w ∧ w ≤ 5 ∧ 0 ≤ g ∧ g ≤ 9) ∧ ¬ 24 ≤ t 2184 0 then addRoomM t w g else t
theorem c_X9_room (t : Sto) (w g : Int) (hn : 0 ≤ t 2184 0 ∧ t 2184 0 ≤ 24) : CT yX9_room cX9_room 3 (some .int) 1 [mP 31, mI w, mI g] t (fun a t' => a = some (mI (roomR (t 2184 0) w g)) ∧ t' = roomM t w g) := by
  refine CT_of rfl rfl (Nat.le_of_ble_eq_true rfl) (fun E ht has => ?_)
  refine G_iload_n (pc := 0) dX9_room_0 rfl ?_
  refine G_iconst (pc := 1) dX9_room_1 (by decide) ?_
  refine G_iconst (pc := 2) dX9_room_2 (by decide) ?_
  refine G_cS1 (pc := 3) (c_X9_in _ _ _ _) dX9_room_3 ml_X9_90 rfl (by decide) (Nat.le_of_ble_eq_true rfl) ?_
  refine G_if_eq (pc := 6) (tgt := 19) dX9_room_6 rfl (fun h_6 => ?_) (fun h_6 => ?_)
  · try simp only [bq0, ne_eq, Classical.not_not] at h_6
    refine G_iconst (pc := 19) dX9_room_19 (by decide) ?_
    exact G_ireturn (pc := 20) dX9_room_20 (qeq' (by unfold roomR; grind) (by unfold roomM; grind))
  · try simp only [bq0, ne_eq, Classical.not_not] at h_6
    refine G_iload_n (pc := 9) dX9_room_9 rfl ?_
    refine G_iconst (pc := 10) dX9_room_10 (by decide) ?_
    refine G_bipush (pc := 11) (x := 9) dX9_room_11 rfl (by decide) ?_
    refine G_cS1 (pc := 13) (c_X9_in _ _ _ _) dX9_room_13 ml_X9_90 rfl (by decide) (Nat.le_of_ble_eq_true rfl) ?_
    refine G_if_ne (pc := 16) (tgt := 21) dX9_room_16 rfl (fun h_16 => ?_) (fun h_16 => ?_)
    · try simp only [bq0, ne_eq, Classical.not_not] at h_16
      refine G_aload_n (pc := 21) dX9_room_21 rfl ?_
      refine G_getI (pc := 22) dX9_room_22 fk_X9_86 rfl rfl rfl ?_
      refine G_bipush (pc := 25) (x := 24) dX9_room_25 rfl (by decide) ?_
      refine G_icmp_ne (pc := 27) (tgt := 33) dX9_room_27 rfl (fun h_27 => ?_) (fun h_27 => ?_)
      · refine G_aload_n (pc := 33) dX9_room_33 rfl ?_
        refine G_getP (pc := 34) dX9_room_34 fk_X9_7 rfl rfl rfl ?_
        refine G_aload_n (pc := 37) dX9_room_37 rfl ?_
        refine G_getI (pc := 38) dX9_room_38 fk_X9_86 rfl rfl rfl ?_
        refine G_iload_n (pc := 41) dX9_room_41 rfl ?_
        refine G_iastore (pc := 42) dX9_room_42 rfl rfl (by omega) ?_
        refine G_aload_n (pc := 43) dX9_room_43 rfl ?_
        refine G_getP (pc := 44) dX9_room_44 fk_X9_13 rfl rfl rfl ?_
        refine G_aload_n (pc := 47) dX9_room_47 rfl ?_
        refine G_getI (pc := 48) dX9_room_48 fk_X9_86 rfl rfl rfl ?_
        try simp (disch := decide) only [su_ne, su_at, su_same, sv_ne, sv_at]
        refine G_iload_n (pc := 51) dX9_room_51 rfl ?_
        refine G_iastore (pc := 52) dX9_room_52 rfl rfl (by omega) ?_
        refine G_aload_n (pc := 53) dX9_room_53 rfl ?_
        refine G_getP (pc := 54) dX9_room_54 fk_X9_16 rfl rfl rfl ?_
        refine G_aload_n (pc := 57) dX9_room_57 rfl ?_
        refine G_getI (pc := 58) dX9_room_58 fk_X9_86 rfl rfl rfl ?_
        try simp (disch := decide) only [su_ne, su_at, su_same, sv_ne, sv_at]
        refine G_bipush (pc := 61) (x := (-2)) dX9_room_61 rfl (by decide) ?_
        refine G_iastore (pc := 63) dX9_room_63 rfl rfl (by omega) ?_
        refine G_aload_n (pc := 64) dX9_room_64 rfl ?_
        refine G_getP (pc := 65) dX9_room_65 fk_X9_32 rfl rfl rfl ?_
        refine G_aload_n (pc := 68) dX9_room_68 rfl ?_
        refine G_getI (pc := 69) dX9_room_69 fk_X9_86 rfl rfl rfl ?_
        try simp (disch := decide) only [su_ne, su_at, su_same, sv_ne, sv_at]
        refine G_iconst (pc := 72) dX9_room_72 (by decide) ?_
        refine G_bastore (pc := 73) dX9_room_73 rfl rfl (by omega) (by first | exact Or.inl rfl | exact Or.inr rfl | omega) ?_
        refine G_aload_n (pc := 74) dX9_room_74 rfl ?_
        refine G_dup (pc := 75) dX9_room_75 rfl ?_
        refine G_getI (pc := 76) dX9_room_76 fk_X9_86 rfl rfl rfl ?_
        try simp (disch := decide) only [su_ne, su_at, su_same, sv_ne, sv_at]
        refine G_iconst (pc := 79) dX9_room_79 (by decide) ?_
        refine G_iadd (pc := 80) dX9_room_80 (by omega) ?_
        refine G_put (pc := 81) dX9_room_81 fk_X9_86 fw_X9_0 rfl rfl rfl (fun h => absurd h (by decide)) ?_
        refine G_aload_n (pc := 84) dX9_room_84 rfl ?_
        refine G_getI (pc := 85) dX9_room_85 fk_X9_86 rfl rfl rfl ?_
        try simp (disch := decide) only [su_ne, su_at, su_same, sv_ne, sv_at]
        refine G_iconst (pc := 88) dX9_room_88 (by decide) ?_
        refine G_isub (pc := 89) dX9_room_89 (by omega) ?_
        exact G_ireturn (pc := 90) dX9_room_90 (qeq' (by unfold roomR; grind) (by unfold roomM; rw [if_pos (by omega)]; rfl))
      · refine G_bipush (pc := 30) (x := (-4)) dX9_room_30 rfl (by decide) ?_
        exact G_ireturn (pc := 32) dX9_room_32 (qeq' (by unfold roomR; grind) (by unfold roomM; grind))
    · try simp only [bq0, ne_eq, Classical.not_not] at h_16
      refine G_iconst (pc := 19) dX9_room_19 (by decide) ?_
      exact G_ireturn (pc := 20) dX9_room_20 (qeq' (by unfold roomR; grind) (by unfold roomM; grind))
theorem c_X9_outOf (t : Sto) (r w : Int) (hS : SM t) : CT yX9_outOf cX9_outOf 4 (some .int) 1 [mP 31, mI r, mI w] t (fun a t' => a = some (mI (outS (t 2188 0) (t 35) (t 36) (t 37) (t 38) r w)) ∧ t' = t) := by
  refine CT_of rfl rfl (Nat.le_of_ble_eq_true rfl) (fun E ht has => ?_)
  obtain ⟨hb, hS⟩ := hS
  have loop : ∀ l, l ≤ t 2188 0 → 0 ≤ l → fst (outP (t 35) (t 36) (t 37) (t 38) r w) l (t 2188 0) = outS (t 2188 0) (t 35) (t 36) (t 37) (t 38) r w → G E cX9_outOf RX9 (some .int) 1 2 [some (mP 31), some (mI r), some (mI w), some (mI l)] [] t (fun a t' => a = some (mI (outS (t 2188 0) (t 35) (t 36) (t 37) (t 38) r w)) ∧ t' = t) := by
    refine up_ind (fun l hl ih h0 hX => ?_)
    refine G_iload_n (pc := 2) dX9_outOf_2 rfl ?_
    refine G_aload_n (pc := 3) dX9_outOf_3 rfl ?_
    refine G_getI (pc := 4) dX9_outOf_4 fk_X9_94 rfl rfl rfl ?_
    refine G_icmp_ge (pc := 7) (tgt := 70) dX9_outOf_7 rfl (fun h_7 => ?_) (fun h_7 => ?_)
    · refine G_bipush (pc := 70) (x := (-2)) dX9_outOf_70 rfl (by decide) ?_
      exact G_ireturn (pc := 72) dX9_outOf_72 (qeq (by rw [← hX, fst_ge (by omega)]))
    · obtain ⟨-, -, hdi, -⟩ := hS l h0 (by omega)
      refine G_aload_n (pc := 10) dX9_outOf_10 rfl ?_
      refine G_getP (pc := 11) dX9_outOf_11 fk_X9_19 rfl rfl rfl ?_
      refine G_iload_n (pc := 14) dX9_outOf_14 rfl ?_
      refine G_iaload (pc := 15) dX9_outOf_15 rfl rfl (by omega) ?_
      refine G_iload_n (pc := 16) dX9_outOf_16 rfl ?_
      refine G_icmp_ne (pc := 17) (tgt := 30) dX9_outOf_17 rfl (fun h_17 => ?_) (fun h_17 => ?_)
      · refine G_aload_n (pc := 30) dX9_outOf_30 rfl ?_
        refine G_getP (pc := 31) dX9_outOf_31 fk_X9_28 rfl rfl rfl ?_
        refine G_iload_n (pc := 34) dX9_outOf_34 rfl ?_
        refine G_baload (pc := 35) dX9_outOf_35 rfl rfl (by omega) ?_
        refine G_if_eq (pc := 36) (tgt := 64) dX9_outOf_36 rfl (fun h_36 => ?_) (fun h_36 => ?_)
        · try simp only [bq0, ne_eq, Classical.not_not] at h_36
          refine G_iinc (pc := 64) dX9_outOf_64 rfl rfl (by omega) ?_
          refine G_goto (pc := 67) (tgt := 2) dX9_outOf_67 rfl ?_
          exact ih (by omega) (by omega) ((fst_neg (by omega) (by unfold outP; omega)).symm.trans hX)
        · try simp only [bq0, ne_eq, Classical.not_not] at h_36
          refine G_aload_n (pc := 39) dX9_outOf_39 rfl ?_
          refine G_getP (pc := 40) dX9_outOf_40 fk_X9_25 rfl rfl rfl ?_
          refine G_iload_n (pc := 43) dX9_outOf_43 rfl ?_
          refine G_iaload (pc := 44) dX9_outOf_44 rfl rfl (by omega) ?_
          refine G_iload_n (pc := 45) dX9_outOf_45 rfl ?_
          refine G_icmp_ne (pc := 46) (tgt := 64) dX9_outOf_46 rfl (fun h_46 => ?_) (fun h_46 => ?_)
          · refine G_iinc (pc := 64) dX9_outOf_64 rfl rfl (by omega) ?_
            refine G_goto (pc := 67) (tgt := 2) dX9_outOf_67 rfl ?_
            exact ih (by omega) (by omega) ((fst_neg (by omega) (by unfold outP; omega)).symm.trans hX)
          · refine G_aload_n (pc := 49) dX9_outOf_49 rfl ?_
            refine G_getP (pc := 50) dX9_outOf_50 fk_X9_22 rfl rfl rfl ?_
            refine G_iload_n (pc := 53) dX9_outOf_53 rfl ?_
            refine G_iaload (pc := 54) dX9_outOf_54 rfl rfl (by omega) ?_
            refine G_cS1 (pc := 55) (c_X9_opposite _ _ (by omega)) dX9_outOf_55 ml_X9_97 rfl (by decide) (Nat.le_of_ble_eq_true rfl) ?_
            refine G_iload_n (pc := 58) dX9_outOf_58 rfl ?_
            refine G_icmp_ne (pc := 59) (tgt := 64) dX9_outOf_59 rfl (fun h_59 => ?_) (fun h_59 => ?_)
            · refine G_iinc (pc := 64) dX9_outOf_64 rfl rfl (by omega) ?_
              refine G_goto (pc := 67) (tgt := 2) dX9_outOf_67 rfl ?_
              exact ih (by omega) (by omega) ((fst_neg (by omega) (by unfold outP; omega)).symm.trans hX)
            · refine G_iload_n (pc := 62) dX9_outOf_62 rfl ?_
              exact G_ireturn (pc := 63) dX9_outOf_63 (qeq (by rw [← hX, fst_pos (by omega) (by unfold outP; omega)]))
      · refine G_aload_n (pc := 20) dX9_outOf_20 rfl ?_
        refine G_getP (pc := 21) dX9_outOf_21 fk_X9_22 rfl rfl rfl ?_
        refine G_iload_n (pc := 24) dX9_outOf_24 rfl ?_
        refine G_iaload (pc := 25) dX9_outOf_25 rfl rfl (by omega) ?_
        refine G_iload_n (pc := 26) dX9_outOf_26 rfl ?_
        refine G_icmp_eq (pc := 27) (tgt := 62) dX9_outOf_27 rfl (fun h_27 => ?_) (fun h_27 => ?_)
        · refine G_iload_n (pc := 62) dX9_outOf_62 rfl ?_
          exact G_ireturn (pc := 63) dX9_outOf_63 (qeq (by rw [← hX, fst_pos (by omega) (by unfold outP; omega)]))
        · refine G_aload_n (pc := 30) dX9_outOf_30 rfl ?_
          refine G_getP (pc := 31) dX9_outOf_31 fk_X9_28 rfl rfl rfl ?_
          refine G_iload_n (pc := 34) dX9_outOf_34 rfl ?_
          refine G_baload (pc := 35) dX9_outOf_35 rfl rfl (by omega) ?_
          refine G_if_eq (pc := 36) (tgt := 64) dX9_outOf_36 rfl (fun h_36 => ?_) (fun h_36 => ?_)
          · try simp only [bq0, ne_eq, Classical.not_not] at h_36
            refine G_iinc (pc := 64) dX9_outOf_64 rfl rfl (by omega) ?_
            refine G_goto (pc := 67) (tgt := 2) dX9_outOf_67 rfl ?_
            exact ih (by omega) (by omega) ((fst_neg (by omega) (by unfold outP; omega)).symm.trans hX)
          · try simp only [bq0, ne_eq, Classical.not_not] at h_36
            refine G_aload_n (pc := 39) dX9_outOf_39 rfl ?_
            refine G_getP (pc := 40) dX9_outOf_40 fk_X9_25 rfl rfl rfl ?_
            refine G_iload_n (pc := 43) dX9_outOf_43 rfl ?_
            refine G_iaload (pc := 44) dX9_outOf_44 rfl rfl (by omega) ?_
            refine G_iload_n (pc := 45) dX9_outOf_45 rfl ?_
            refine G_icmp_ne (pc := 46) (tgt := 64) dX9_outOf_46 rfl (fun h_46 => ?_) (fun h_46 => ?_)
            · refine G_iinc (pc := 64) dX9_outOf_64 rfl rfl (by omega) ?_
              refine G_goto (pc := 67) (tgt := 2) dX9_outOf_67 rfl ?_
              exact ih (by omega) (by omega) ((fst_neg (by omega) (by unfold outP; omega)).symm.trans hX)
            · refine G_aload_n (pc := 49) dX9_outOf_49 rfl ?_
              refine G_getP (pc := 50) dX9_outOf_50 fk_X9_22 rfl rfl rfl ?_
              refine G_iload_n (pc := 53) dX9_outOf_53 rfl ?_
              refine G_iaload (pc := 54) dX9_outOf_54 rfl rfl (by omega) ?_
              refine G_cS1 (pc := 55) (c_X9_opposite _ _ (by omega)) dX9_outOf_55 ml_X9_97 rfl (by decide) (Nat.le_of_ble_eq_true rfl) ?_
              refine G_iload_n (pc := 58) dX9_outOf_58 rfl ?_
              refine G_icmp_ne (pc := 59) (tgt := 64) dX9_outOf_59 rfl (fun h_59 => ?_) (fun h_59 => ?_)
              · refine G_iinc (pc := 64) dX9_outOf_64 rfl rfl (by omega) ?_
                refine G_goto (pc := 67) (tgt := 2) dX9_outOf_67 rfl ?_
                exact ih (by omega) (by omega) ((fst_neg (by omega) (by unfold outP; omega)).symm.trans hX)
              · refine G_iload_n (pc := 62) dX9_outOf_62 rfl ?_
                exact G_ireturn (pc := 63) dX9_outOf_63 (qeq (by rw [← hX, fst_pos (by omega) (by unfold outP; omega)]))
  refine G_iconst (pc := 0) dX9_outOf_0 (by decide) ?_
  refine G_istore_n (pc := 1) dX9_outOf_1 (Nat.le_of_ble_eq_true rfl) rfl ?_
  exact loop 0 (by omega) (by omega) rfl
theorem c_X9_endOf (t : Sto) (l r w : Int) (hl : 0 ≤ l ∧ l < 60) : CT yX9_endOf cX9_endOf 4 (some .int) 0 [mP 31, mI l, mI r, mI w] t (fun a t' => a = some (mI (endS (t 35) (t 36) (t 37) l r w)) ∧ t' = t) := by
  refine CT_of rfl rfl (Nat.le_of_ble_eq_true rfl) (fun E ht has => ?_)
  refine G_aload_n (pc := 0) dX9_endOf_0 rfl ?_
  refine G_getP (pc := 1) dX9_endOf_1 fk_X9_19 rfl rfl rfl ?_
  refine G_iload_n (pc := 4) dX9_endOf_4 rfl ?_
  refine G_iaload (pc := 5) dX9_endOf_5 rfl rfl (by omega) ?_
  refine G_iload_n (pc := 6) dX9_endOf_6 rfl ?_
  refine G_icmp_ne (pc := 7) (tgt := 29) dX9_endOf_7 rfl (fun h_7 => ?_) (fun h_7 => ?_)
  · refine G_aload_n (pc := 29) dX9_endOf_29 rfl ?_
    refine G_getP (pc := 30) dX9_endOf_30 fk_X9_19 rfl rfl rfl ?_
    refine G_iload_n (pc := 33) dX9_endOf_33 rfl ?_
    refine G_iaload (pc := 34) dX9_endOf_34 rfl rfl (by omega) ?_
    exact G_ireturn (pc := 35) dX9_endOf_35 (qeq (by unfold endS; grind))
  · refine G_aload_n (pc := 10) dX9_endOf_10 rfl ?_
    refine G_getP (pc := 11) dX9_endOf_11 fk_X9_22 rfl rfl rfl ?_
    refine G_iload_n (pc := 14) dX9_endOf_14 rfl ?_
    refine G_iaload (pc := 15) dX9_endOf_15 rfl rfl (by omega) ?_
    refine G_iload_n (pc := 16) dX9_endOf_16 rfl ?_
    refine G_icmp_ne (pc := 17) (tgt := 29) dX9_endOf_17 rfl (fun h_17 => ?_) (fun h_17 => ?_)
    · refine G_aload_n (pc := 29) dX9_endOf_29 rfl ?_
      refine G_getP (pc := 30) dX9_endOf_30 fk_X9_19 rfl rfl rfl ?_
      refine G_iload_n (pc := 33) dX9_endOf_33 rfl ?_
      refine G_iaload (pc := 34) dX9_endOf_34 rfl rfl (by omega) ?_
      exact G_ireturn (pc := 35) dX9_endOf_35 (qeq (by unfold endS; grind))
    · refine G_aload_n (pc := 20) dX9_endOf_20 rfl ?_
      refine G_getP (pc := 21) dX9_endOf_21 fk_X9_25 rfl rfl rfl ?_
      refine G_iload_n (pc := 24) dX9_endOf_24 rfl ?_
      refine G_iaload (pc := 25) dX9_endOf_25 rfl rfl (by omega) ?_
      refine G_goto (pc := 26) (tgt := 35) dX9_endOf_26 rfl ?_
      exact G_ireturn (pc := 35) dX9_endOf_35 (qeq (by unfold endS; grind))
def layM (t : Sto) (a d b o : Int) : Sto := su (su (su (su (su t 35 (t 2188 0) a) 36 (t 2188 0) d) 37 (t 2188 0) b) 38 (t 2188 0) o) 2188 0 (t 2188 0 + 1)
theorem c_X9_lay (t : Sto) (a d b o : Int) (hn : 0 ≤ t 2188 0 ∧ t 2188 0 < 60) (ho : o = 0 ∨ o = 1) : CT yX9_lay cX9_lay 5 (some .int) 0 [mP 31, mI a, mI d, mI b, mI o] t (fun r t' => r = some (mI (t 2188 0)) ∧ t' = layM t a d b o) := by
  refine CT_of rfl rfl (Nat.le_of_ble_eq_true rfl) (fun E ht has => ?_)
  refine G_aload_n (pc := 0) dX9_lay_0 rfl ?_
  refine G_getP (pc := 1) dX9_lay_1 fk_X9_19 rfl rfl rfl ?_
  refine G_aload_n (pc := 4) dX9_lay_4 rfl ?_
  refine G_getI (pc := 5) dX9_lay_5 fk_X9_94 rfl rfl rfl ?_
  refine G_iload_n (pc := 8) dX9_lay_8 rfl ?_
  refine G_iastore (pc := 9) dX9_lay_9 rfl rfl (by omega) ?_
  refine G_aload_n (pc := 10) dX9_lay_10 rfl ?_
  refine G_getP (pc := 11) dX9_lay_11 fk_X9_22 rfl rfl rfl ?_
  refine G_aload_n (pc := 14) dX9_lay_14 rfl ?_
  refine G_getI (pc := 15) dX9_lay_15 fk_X9_94 rfl rfl rfl ?_
  try simp (disch := decide) only [su_ne, su_at, su_same, sv_ne, sv_at]
  refine G_iload_n (pc := 18) dX9_lay_18 rfl ?_
  refine G_iastore (pc := 19) dX9_lay_19 rfl rfl (by omega) ?_
  refine G_aload_n (pc := 20) dX9_lay_20 rfl ?_
  refine G_getP (pc := 21) dX9_lay_21 fk_X9_25 rfl rfl rfl ?_
  refine G_aload_n (pc := 24) dX9_lay_24 rfl ?_
  refine G_getI (pc := 25) dX9_lay_25 fk_X9_94 rfl rfl rfl ?_
  try simp (disch := decide) only [su_ne, su_at, su_same, sv_ne, sv_at]
  refine G_iload_n (pc := 28) dX9_lay_28 rfl ?_
  refine G_iastore (pc := 29) dX9_lay_29 rfl rfl (by omega) ?_
  refine G_aload_n (pc := 30) dX9_lay_30 rfl ?_
  refine G_getP (pc := 31) dX9_lay_31 fk_X9_28 rfl rfl rfl ?_
  refine G_aload_n (pc := 34) dX9_lay_34 rfl ?_
  refine G_getI (pc := 35) dX9_lay_35 fk_X9_94 rfl rfl rfl ?_
  try simp (disch := decide) only [su_ne, su_at, su_same, sv_ne, sv_at]
  refine G_iload (pc := 38) dX9_lay_38 rfl ?_
  refine G_bastore (pc := 40) dX9_lay_40 rfl rfl (by omega) (by first | exact Or.inl rfl | exact Or.inr rfl | omega) ?_
  refine G_aload_n (pc := 41) dX9_lay_41 rfl ?_
  refine G_dup (pc := 42) dX9_lay_42 rfl ?_
  refine G_getI (pc := 43) dX9_lay_43 fk_X9_94 rfl rfl rfl ?_
  try simp (disch := decide) only [su_ne, su_at, su_same, sv_ne, sv_at]
  refine G_iconst (pc := 46) dX9_lay_46 (by decide) ?_
  refine G_iadd (pc := 47) dX9_lay_47 (by omega) ?_
  refine G_put (pc := 48) dX9_lay_48 fk_X9_94 fw_X9_4 rfl rfl rfl (fun h => absurd h (by decide)) ?_
  refine G_aload_n (pc := 51) dX9_lay_51 rfl ?_
  refine G_getI (pc := 52) dX9_lay_52 fk_X9_94 rfl rfl rfl ?_
  try simp (disch := decide) only [su_ne, su_at, su_same, sv_ne, sv_at]
  refine G_iconst (pc := 55) dX9_lay_55 (by decide) ?_
  refine G_isub (pc := 56) dX9_lay_56 (by omega) ?_
  exact G_ireturn (pc := 57) dX9_lay_57 (qeq' (by omega) rfl)
noncomputable def exitM (t : Sto) (a d b o : Int) : Sto := if 0 ≤ exitR (t 2184 0) (t 2188 0) (t 35) (t 36) (t 37) (t 38) a d b o then layM t a d b o else t
theorem c_X9_exit (t : Sto) (a d b o : Int) (hS : SM t) (ho : o = 0 ∨ o = 1) : CT yX9_exit cX9_exit 5 (some .int) 2 [mP 31, mI a, mI d, mI b, mI o] t (fun r t' => r = some (mI (exitR (t 2184 0) (t 2188 0) (t 35) (t 36) (t 37) (t 38) a d b o)) ∧ t' = exitM t a d b o) := by
  refine CT_of rfl rfl (Nat.le_of_ble_eq_true rfl) (fun E ht has => ?_)
  have hb := hS.1
  refine G_aload_n (pc := 0) dX9_exit_0 rfl ?_
  refine G_iload_n (pc := 1) dX9_exit_1 rfl ?_
  refine G_cV1 (pc := 2) (c_X9_isRoom _ _ (by omega)) dX9_exit_2 ml_X9_101 rfl rfl rfl (by decide) (Nat.le_of_ble_eq_true rfl) ?_
  refine G_if_eq (pc := 5) (tgt := 26) dX9_exit_5 rfl (fun h_5 => ?_) (fun h_5 => ?_)
  · try simp only [bq0, ne_eq, Classical.not_not] at h_5
    refine G_iconst (pc := 26) dX9_exit_26 (by decide) ?_
    exact G_ireturn (pc := 27) dX9_exit_27 (by unfold exitM; rw [show exitR (t 2184 0) (t 2188 0) (t 35) (t 36) (t 37) (t 38) a d b o = _ from by unfold exitR; rfl]; constructor <;> grind)
  · try simp only [bq0, ne_eq, Classical.not_not] at h_5
    refine G_iload_n (pc := 8) dX9_exit_8 rfl ?_
    refine G_iconst (pc := 9) dX9_exit_9 (by decide) ?_
    refine G_bipush (pc := 10) (x := 9) dX9_exit_10 rfl (by decide) ?_
    refine G_cS1 (pc := 12) (c_X9_in _ _ _ _) dX9_exit_12 ml_X9_90 rfl (by decide) (Nat.le_of_ble_eq_true rfl) ?_
    refine G_if_eq (pc := 15) (tgt := 26) dX9_exit_15 rfl (fun h_15 => ?_) (fun h_15 => ?_)
    · try simp only [bq0, ne_eq, Classical.not_not] at h_15
      refine G_iconst (pc := 26) dX9_exit_26 (by decide) ?_
      exact G_ireturn (pc := 27) dX9_exit_27 (by unfold exitM; rw [show exitR (t 2184 0) (t 2188 0) (t 35) (t 36) (t 37) (t 38) a d b o = _ from by unfold exitR; rfl]; constructor <;> grind)
    · try simp only [bq0, ne_eq, Classical.not_not] at h_15
      refine G_aload_n (pc := 18) dX9_exit_18 rfl ?_
      refine G_iload_n (pc := 19) dX9_exit_19 rfl ?_
      refine G_cV1 (pc := 20) (c_X9_isRoom _ _ (by omega)) dX9_exit_20 ml_X9_101 rfl rfl rfl (by decide) (Nat.le_of_ble_eq_true rfl) ?_
      refine G_if_ne (pc := 23) (tgt := 28) dX9_exit_23 rfl (fun h_23 => ?_) (fun h_23 => ?_)
      · try simp only [bq0, ne_eq, Classical.not_not] at h_23
        refine G_aload_n (pc := 28) dX9_exit_28 rfl ?_
        refine G_iload_n (pc := 29) dX9_exit_29 rfl ?_
        refine G_iload_n (pc := 30) dX9_exit_30 rfl ?_
        refine G_cV1 (pc := 31) (c_X9_outOf _ _ _ (by exact hS)) dX9_exit_31 ml_X9_105 rfl rfl rfl (by decide) (Nat.le_of_ble_eq_true rfl) ?_
        refine G_if_ge (pc := 34) (tgt := 54) dX9_exit_34 rfl (fun h_34 => ?_) (fun h_34 => ?_)
        · refine G_bipush (pc := 54) (x := (-3)) dX9_exit_54 rfl (by decide) ?_
          exact G_ireturn (pc := 56) dX9_exit_56 (by unfold exitM; rw [show exitR (t 2184 0) (t 2188 0) (t 35) (t 36) (t 37) (t 38) a d b o = _ from by unfold exitR; rfl]; constructor <;> grind)
        · refine G_iload (pc := 37) dX9_exit_37 rfl ?_
          refine G_if_eq (pc := 39) (tgt := 57) dX9_exit_39 rfl (fun h_39 => ?_) (fun h_39 => ?_)
          · try simp only [bq0, ne_eq, Classical.not_not] at h_39
            refine G_aload_n (pc := 57) dX9_exit_57 rfl ?_
            refine G_getI (pc := 58) dX9_exit_58 fk_X9_94 rfl rfl rfl ?_
            refine G_bipush (pc := 61) (x := 60) dX9_exit_61 rfl (by decide) ?_
            refine G_icmp_ne (pc := 63) (tgt := 71) dX9_exit_63 rfl (fun h_63 => ?_) (fun h_63 => ?_)
            · refine G_aload_n (pc := 71) dX9_exit_71 rfl ?_
              refine G_iload_n (pc := 72) dX9_exit_72 rfl ?_
              refine G_iload_n (pc := 73) dX9_exit_73 rfl ?_
              refine G_iload_n (pc := 74) dX9_exit_74 rfl ?_
              refine G_iload (pc := 75) dX9_exit_75 rfl ?_
              refine G_cV1 (pc := 77) (c_X9_lay _ _ _ _ _ (by omega) (by omega)) dX9_exit_77 ml_X9_109 rfl rfl rfl (by decide) (Nat.le_of_ble_eq_true rfl) ?_
              exact G_ireturn (pc := 80) dX9_exit_80 (by unfold exitM; rw [show exitR (t 2184 0) (t 2188 0) (t 35) (t 36) (t 37) (t 38) a d b o = _ from by unfold exitR; rfl]; constructor <;> grind)
            · refine G_bipush (pc := 66) (x := (-4)) dX9_exit_66 rfl (by decide) ?_
              refine G_goto (pc := 68) (tgt := 80) dX9_exit_68 rfl ?_
              exact G_ireturn (pc := 80) dX9_exit_80 (by unfold exitM; rw [show exitR (t 2184 0) (t 2188 0) (t 35) (t 36) (t 37) (t 38) a d b o = _ from by unfold exitR; rfl]; constructor <;> grind)
          · try simp only [bq0, ne_eq, Classical.not_not] at h_39
            refine G_aload_n (pc := 42) dX9_exit_42 rfl ?_
            refine G_iload_n (pc := 43) dX9_exit_43 rfl ?_
            refine G_iload_n (pc := 44) dX9_exit_44 rfl ?_
            refine G_cS1 (pc := 45) (c_X9_opposite _ _ (by omega)) dX9_exit_45 ml_X9_97 rfl (by decide) (Nat.le_of_ble_eq_true rfl) ?_
            refine G_cV1 (pc := 48) (c_X9_outOf _ _ _ (by exact hS)) dX9_exit_48 ml_X9_105 rfl rfl rfl (by decide) (Nat.le_of_ble_eq_true rfl) ?_
            refine G_if_lt (pc := 51) (tgt := 57) dX9_exit_51 rfl (fun h_51 => ?_) (fun h_51 => ?_)
            · refine G_aload_n (pc := 57) dX9_exit_57 rfl ?_
              refine G_getI (pc := 58) dX9_exit_58 fk_X9_94 rfl rfl rfl ?_
              refine G_bipush (pc := 61) (x := 60) dX9_exit_61 rfl (by decide) ?_
              refine G_icmp_ne (pc := 63) (tgt := 71) dX9_exit_63 rfl (fun h_63 => ?_) (fun h_63 => ?_)
              · refine G_aload_n (pc := 71) dX9_exit_71 rfl ?_
                refine G_iload_n (pc := 72) dX9_exit_72 rfl ?_
                refine G_iload_n (pc := 73) dX9_exit_73 rfl ?_
                refine G_iload_n (pc := 74) dX9_exit_74 rfl ?_
                refine G_iload (pc := 75) dX9_exit_75 rfl ?_
                refine G_cV1 (pc := 77) (c_X9_lay _ _ _ _ _ (by omega) (by omega)) dX9_exit_77 ml_X9_109 rfl rfl rfl (by decide) (Nat.le_of_ble_eq_true rfl) ?_
                exact G_ireturn (pc := 80) dX9_exit_80 (by unfold exitM; rw [show exitR (t 2184 0) (t 2188 0) (t 35) (t 36) (t 37) (t 38) a d b o = _ from by unfold exitR; rfl]; constructor <;> grind)
              · refine G_bipush (pc := 66) (x := (-4)) dX9_exit_66 rfl (by decide) ?_
                refine G_goto (pc := 68) (tgt := 80) dX9_exit_68 rfl ?_
                exact G_ireturn (pc := 80) dX9_exit_80 (by unfold exitM; rw [show exitR (t 2184 0) (t 2188 0) (t 35) (t 36) (t 37) (t 38) a d b o = _ from by unfold exitR; rfl]; constructor <;> grind)
            · refine G_bipush (pc := 54) (x := (-3)) dX9_exit_54 rfl (by decide) ?_
              exact G_ireturn (pc := 56) dX9_exit_56 (by unfold exitM; rw [show exitR (t 2184 0) (t 2188 0) (t 35) (t 36) (t 37) (t 38) a d b o = _ from by unfold exitR; rfl]; constructor <;> grind)
      · try simp only [bq0, ne_eq, Classical.not_not] at h_23
        refine G_iconst (pc := 26) dX9_exit_26 (by decide) ?_
        exact G_ireturn (pc := 27) dX9_exit_27 (by unfold exitM; rw [show exitR (t 2184 0) (t 2188 0) (t 35) (t 36) (t 37) (t 38) a d b o = _ from by unfold exitR; rfl]; constructor <;> grind)
def cutM (t : Sto) (g l : Int) : Sto := sv (sv (sv (sv (su t 2188 0 (t 2188 0 - 1)) 35 (cutN (t 35) g l)) 36 (cutN (t 36) g l)) 37 (cutN (t 37) g l)) 38 (cutN (t 38) g l)
theorem cutM_step (t : Sto) (g l : Int) (h : g ≤ l) : su (su (su (su (cutM t g l) 35 l (cutN (t 35) g l (l + 1))) 36 l (cutN (t 36) g l (l + 1))) 37 l (cutN (t 37) g l (l + 1))) 38 l (cutN (t 38) g l (l + 1)) = cutM t g (l + 1) := by
  funext w
  unfold cutM
  simp only [su_sv]
  by_cases h16 : w = 38
  · subst h16; simp (disch := decide) only [sv_at, sv_ne]; exact cutN_step h
  by_cases h15 : w = 37
  · subst h15; simp (disch := decide) only [sv_at, sv_ne]; exact cutN_step h
  by_cases h14 : w = 36
  · subst h14; simp (disch := decide) only [sv_at, sv_ne]; exact cutN_step h
  by_cases h13 : w = 35
  · subst h13; simp (disch := decide) only [sv_at, sv_ne]; exact cutN_step h
  rw [sv_ne h16, sv_ne h15, sv_ne h14, sv_ne h13, sv_ne h16, sv_ne h15, sv_ne h14, sv_ne h13, sv_ne h16, sv_ne h15, sv_ne h14, sv_ne h13]
theorem cutM_at (t : Sto) (g l : Int) : cutM t g l 35 = cutN (t 35) g l ∧ cutM t g l 36 = cutN (t 36) g l ∧ cutM t g l 37 = cutN (t 37) g l ∧ cutM t g l 38 = cutN (t 38) g l ∧ cutM t g l 2188 0 = t 2188 0 - 1 := by
  unfold cutM
  simp (disch := decide) only [sv_at, sv_ne, su_at]
  exact ⟨trivial, trivial, trivial, trivial, trivial⟩
theorem cutM_0 (t : Sto) (g : Int) : cutM t g g = su t 2188 0 (t 2188 0 - 1) := by
  unfold cutM
  simp only [cutN_0]
  funext w
  by_cases h16 : w = 38
  · subst h16; simp (disch := decide) only [sv_at, sv_ne, su_ne]
  by_cases h15 : w = 37
  · subst h15; simp (disch := decide) only [sv_at, sv_ne, su_ne]
  by_cases h14 : w = 36
  · subst h14; simp (disch := decide) only [sv_at, sv_ne, su_ne]
  by_cases h13 : w = 35
  · subst h13; simp (disch := decide) only [sv_at, sv_ne, su_ne]
  rw [sv_ne h16, sv_ne h15, sv_ne h14, sv_ne h13]
def cutX9 (t : Sto) (g : Int) : Sto := if 0 ≤ g ∧ g < t 2188 0 then cutM t g (t 2188 0 - 1) else t
theorem c_X9_cut (t : Sto) (g : Int) (hS : SM t) (hbo : ∀ l, t 38 l = 0 ∨ t 38 l = 1) : CT yX9_cut cX9_cut 3 (some .int) 2 [mP 31, mI g] t (fun r t' => r = some (mI (cutR (t 2188 0) g)) ∧ t' = cutX9 t g) := by
  refine CT_of rfl rfl (Nat.le_of_ble_eq_true rfl) (fun E ht has => ?_)
  have hk := hS.1
  have loop : ∀ l, l ≤ t 2188 0 - 1 → g ≤ l → 0 ≤ g → G E cX9_cut RX9 (some .int) 2 22 [some (mP 31), some (mI g), some (mI l)] [] (cutM t g l) (fun r t' => r = some (mI (t 2188 0 - 1)) ∧ t' = cutM t g (t 2188 0 - 1)) := by
    refine up_ind (fun l hl ih h0 hg => ?_)
    obtain ⟨e13, e14, e15, e16, e1⟩ := cutM_at t g l
    have hbo : cutN (t 38) g l (l + 1) = 0 ∨ cutN (t 38) g l (l + 1) = 1 := by unfold cutN; split <;> exact hbo _
    refine G_iload_n (pc := 22) dX9_cut_22 rfl ?_
    refine G_aload_n (pc := 23) dX9_cut_23 rfl ?_
    refine G_getI (pc := 24) dX9_cut_24 fk_X9_94 rfl rfl rfl ?_
    rw [e1]
    refine G_icmp_ge (pc := 27) (tgt := 92) dX9_cut_27 rfl (fun h_27 => ?_) (fun h_27 => ?_)
    · have hl2 : l = t 2188 0 - 1 := by omega
      subst hl2
      refine G_aload_n (pc := 92) dX9_cut_92 rfl ?_
      refine G_getI (pc := 93) dX9_cut_93 fk_X9_94 rfl rfl rfl ?_
      rw [e1]
      exact G_ireturn (pc := 96) dX9_cut_96 ⟨rfl, rfl⟩
    · refine G_aload_n (pc := 30) dX9_cut_30 rfl ?_
      refine G_getP (pc := 31) dX9_cut_31 fk_X9_19 rfl rfl rfl ?_
      refine G_iload_n (pc := 34) dX9_cut_34 rfl ?_
      refine G_aload_n (pc := 35) dX9_cut_35 rfl ?_
      refine G_getP (pc := 36) dX9_cut_36 fk_X9_19 rfl rfl rfl ?_
      refine G_iload_n (pc := 39) dX9_cut_39 rfl ?_
      refine G_iconst (pc := 40) dX9_cut_40 (by decide) ?_
      refine G_iadd (pc := 41) dX9_cut_41 (by omega) ?_
      refine G_iaload (pc := 42) dX9_cut_42 rfl rfl (by omega) ?_
      rw [e13]
      refine G_iastore (pc := 43) dX9_cut_43 rfl rfl (by omega) ?_
      refine G_aload_n (pc := 44) dX9_cut_44 rfl ?_
      refine G_getP (pc := 45) dX9_cut_45 fk_X9_22 rfl rfl rfl ?_
      refine G_iload_n (pc := 48) dX9_cut_48 rfl ?_
      refine G_aload_n (pc := 49) dX9_cut_49 rfl ?_
      refine G_getP (pc := 50) dX9_cut_50 fk_X9_22 rfl rfl rfl ?_
      refine G_iload_n (pc := 53) dX9_cut_53 rfl ?_
      refine G_iconst (pc := 54) dX9_cut_54 (by decide) ?_
      refine G_iadd (pc := 55) dX9_cut_55 (by omega) ?_
      refine G_iaload (pc := 56) dX9_cut_56 rfl rfl (by omega) ?_
      try simp (disch := decide) only [su_ne, su_at, su_same, sv_ne, sv_at]
      rw [e14]
      refine G_iastore (pc := 57) dX9_cut_57 rfl rfl (by omega) ?_
      refine G_aload_n (pc := 58) dX9_cut_58 rfl ?_
      refine G_getP (pc := 59) dX9_cut_59 fk_X9_25 rfl rfl rfl ?_
      refine G_iload_n (pc := 62) dX9_cut_62 rfl ?_
      refine G_aload_n (pc := 63) dX9_cut_63 rfl ?_
      refine G_getP (pc := 64) dX9_cut_64 fk_X9_25 rfl rfl rfl ?_
      refine G_iload_n (pc := 67) dX9_cut_67 rfl ?_
      refine G_iconst (pc := 68) dX9_cut_68 (by decide) ?_
      refine G_iadd (pc := 69) dX9_cut_69 (by omega) ?_
      refine G_iaload (pc := 70) dX9_cut_70 rfl rfl (by omega) ?_
      try simp (disch := decide) only [su_ne, su_at, su_same, sv_ne, sv_at]
      rw [e15]
      refine G_iastore (pc := 71) dX9_cut_71 rfl rfl (by omega) ?_
      refine G_aload_n (pc := 72) dX9_cut_72 rfl ?_
      refine G_getP (pc := 73) dX9_cut_73 fk_X9_28 rfl rfl rfl ?_
      refine G_iload_n (pc := 76) dX9_cut_76 rfl ?_
      refine G_aload_n (pc := 77) dX9_cut_77 rfl ?_
      refine G_getP (pc := 78) dX9_cut_78 fk_X9_28 rfl rfl rfl ?_
      refine G_iload_n (pc := 81) dX9_cut_81 rfl ?_
      refine G_iconst (pc := 82) dX9_cut_82 (by decide) ?_
      refine G_iadd (pc := 83) dX9_cut_83 (by omega) ?_
      refine G_baload (pc := 84) dX9_cut_84 rfl rfl (by omega) ?_
      try simp (disch := decide) only [su_ne, su_at, su_same, sv_ne, sv_at]
      rw [e16]
      refine G_bastore (pc := 85) dX9_cut_85 rfl rfl (by omega) (by exact hbo) ?_
      refine G_iinc (pc := 86) dX9_cut_86 rfl rfl (by omega) ?_
      refine G_goto (pc := 89) (tgt := 22) dX9_cut_89 rfl ?_
      rw [cutM_step t g l h0]
      exact ih (by omega) (by omega) hg
  refine G_aload_n (pc := 0) dX9_cut_0 rfl ?_
  refine G_iload_n (pc := 1) dX9_cut_1 rfl ?_
  refine G_cV1 (pc := 2) (c_X9_isLink _ _ (by omega)) dX9_cut_2 ml_X9_113 rfl rfl rfl (by decide) (Nat.le_of_ble_eq_true rfl) ?_
  refine G_if_ne (pc := 5) (tgt := 10) dX9_cut_5 rfl (fun h_5 => ?_) (fun h_5 => ?_)
  · try simp only [bq0, ne_eq, Classical.not_not] at h_5
    refine G_aload_n (pc := 10) dX9_cut_10 rfl ?_
    refine G_dup (pc := 11) dX9_cut_11 rfl ?_
    refine G_getI (pc := 12) dX9_cut_12 fk_X9_94 rfl rfl rfl ?_
    refine G_iconst (pc := 15) dX9_cut_15 (by decide) ?_
    refine G_isub (pc := 16) dX9_cut_16 (by omega) ?_
    refine G_put (pc := 17) dX9_cut_17 fk_X9_94 fw_X9_4 rfl rfl rfl (fun h => absurd h (by decide)) ?_
    refine G_iload_n (pc := 20) dX9_cut_20 rfl ?_
    refine G_istore_n (pc := 21) dX9_cut_21 (Nat.le_of_ble_eq_true rfl) rfl ?_
    have h := loop g (by omega) (by omega) (by omega)
    rw [cutM_0] at h
    unfold cutR cutX9
    rw [if_pos h_5, if_pos h_5]
    exact h
  · try simp only [bq0, ne_eq, Classical.not_not] at h_5
    refine G_iconst (pc := 8) dX9_cut_8 (by decide) ?_
    exact G_ireturn (pc := 9) dX9_cut_9 (qeq' (by unfold cutR; grind) (by unfold cutX9; grind))
