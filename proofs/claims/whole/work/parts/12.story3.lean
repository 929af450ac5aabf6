/-! STORY: the class's own methods -/
def roomR (n w g : Int) : Int := if 1 ≤ w ∧ w ≤ 5 ∧ 0 ≤ g ∧ g ≤ 9 then (if 24 ≤ n then -4 else n) else -1
def roomC (t : Sto) (w g : Int) : Sto := if (1 ≤ w ∧ w ≤ 5 ∧ 0 ≤ g ∧ g ≤ 9) ∧ ¬ 24 ≤ t 267 0 then addRoomC t w g else t
theorem c_X8_room (t : Sto) (w g : Int) (hn : 0 ≤ t 267 0 ∧ t 267 0 ≤ 24) : CT yX8_room cX8_room 3 (some .int) 2 [mP 0, mI w, mI g] t (fun a t' => a = some (mI (roomR (t 267 0) w g)) ∧ t' = roomC t w g) := by
  refine CT_of rfl rfl (Nat.le_of_ble_eq_true rfl) (fun E ht has => ?_)
  refine G_iload_n (pc := 0) dX8_room_0 rfl ?_
  refine G_iconst (pc := 1) dX8_room_1 (by decide) ?_
  refine G_icmp_lt (pc := 2) (tgt := 17) dX8_room_2 rfl (fun h_2 => ?_) (fun h_2 => ?_)
  · refine G_iconst (pc := 17) dX8_room_17 (by decide) ?_
    exact G_ireturn (pc := 18) dX8_room_18 (qeq' (by unfold roomR; grind) (by unfold roomC; grind))
  · refine G_iload_n (pc := 5) dX8_room_5 rfl ?_
    refine G_iconst (pc := 6) dX8_room_6 (by decide) ?_
    refine G_icmp_gt (pc := 7) (tgt := 17) dX8_room_7 rfl (fun h_7 => ?_) (fun h_7 => ?_)
    · refine G_iconst (pc := 17) dX8_room_17 (by decide) ?_
      exact G_ireturn (pc := 18) dX8_room_18 (qeq' (by unfold roomR; grind) (by unfold roomC; grind))
    · refine G_iload_n (pc := 10) dX8_room_10 rfl ?_
      refine G_cS1 (pc := 11) (c_X8_isKind _ _) dX8_room_11 ml_X8_57 rfl (by decide) (Nat.le_of_ble_eq_true rfl) ?_
      refine G_if_ne (pc := 14) (tgt := 19) dX8_room_14 rfl (fun h_14 => ?_) (fun h_14 => ?_)
      · try simp only [bq0, ne_eq, Classical.not_not] at h_14
        refine G_aload_n (pc := 19) dX8_room_19 rfl ?_
        refine G_getP (pc := 20) dX8_room_20 fk_X8_10 rfl rfl rfl ?_
        refine G_cV1 (pc := 23) (c_X5_isFullOfRooms _) dX8_room_23 ml_X8_61 rfl rfl rfl (by decide) (Nat.le_of_ble_eq_true rfl) ?_
        refine G_if_eq (pc := 26) (tgt := 34) dX8_room_26 rfl (fun h_26 => ?_) (fun h_26 => ?_)
        · try simp only [bq0, ne_eq, Classical.not_not] at h_26
          refine G_aload_n (pc := 34) dX8_room_34 rfl ?_
          refine G_getP (pc := 35) dX8_room_35 fk_X8_10 rfl rfl rfl ?_
          refine G_iload_n (pc := 38) dX8_room_38 rfl ?_
          refine G_iload_n (pc := 39) dX8_room_39 rfl ?_
          refine G_cV1 (pc := 40) (c_X5_addRoom _ _ _ (by omega)) dX8_room_40 ml_X8_65 rfl rfl rfl (by decide) (Nat.le_of_ble_eq_true rfl) ?_
          exact G_ireturn (pc := 43) dX8_room_43 (qeq' (by unfold roomR; grind) (by unfold roomC; grind))
        · try simp only [bq0, ne_eq, Classical.not_not] at h_26
          refine G_bipush (pc := 29) (x := (-4)) dX8_room_29 rfl (by decide) ?_
          refine G_goto (pc := 31) (tgt := 43) dX8_room_31 rfl ?_
          exact G_ireturn (pc := 43) dX8_room_43 (qeq' (by unfold roomR; grind) (by unfold roomC; grind))
      · try simp only [bq0, ne_eq, Classical.not_not] at h_14
        refine G_iconst (pc := 17) dX8_room_17 (by decide) ?_
        exact G_ireturn (pc := 18) dX8_room_18 (qeq' (by unfold roomR; grind) (by unfold roomC; grind))
noncomputable def exitR (n k : Int) (fr di to bo : Int → Int) (a d b o : Int) : Int := if 0 ≤ a ∧ a < n ∧ 0 ≤ d ∧ d ≤ 9 ∧ 0 ≤ b ∧ b < n then (if 0 ≤ outS k fr di to bo a d ∨ (o ≠ 0 ∧ 0 ≤ outS k fr di to bo b (oppI d)) then -3 else if 60 ≤ k then -4 else k) else -1
noncomputable def exitC (t : Sto) (a d b o : Int) : Sto := if 0 ≤ exitR (t 267 0) (t 272 0) (t 13) (t 14) (t 15) (t 16) a d b o then addLinkC t a d b o else t
theorem c_X8_exit (t : Sto) (a d b o : Int) (hS : SC t) (ho : o = 0 ∨ o = 1) : CT yX8_exit cX8_exit 6 (some .int) 2 [mP 0, mI a, mI d, mI b, mI o] t (fun r t' => r = some (mI (exitR (t 267 0) (t 272 0) (t 13) (t 14) (t 15) (t 16) a d b o)) ∧ t' = exitC t a d b o) := by
  refine CT_of rfl rfl (Nat.le_of_ble_eq_true rfl) (fun E ht has => ?_)
  have hb := hS.1
  refine G_aload_n (pc := 0) dX8_exit_0 rfl ?_
  refine G_getP (pc := 1) dX8_exit_1 fk_X8_10 rfl rfl rfl ?_
  refine G_iload_n (pc := 4) dX8_exit_4 rfl ?_
  refine G_cV1 (pc := 5) (c_X5_isRoom _ _) dX8_exit_5 ml_X8_69 rfl rfl rfl (by decide) (Nat.le_of_ble_eq_true rfl) ?_
  refine G_if_eq (pc := 8) (tgt := 29) dX8_exit_8 rfl (fun h_8 => ?_) (fun h_8 => ?_)
  · try simp only [bq0, ne_eq, Classical.not_not] at h_8
    refine G_iconst (pc := 29) dX8_exit_29 (by decide) ?_
    exact G_ireturn (pc := 30) dX8_exit_30 (by unfold exitC; rw [show exitR (t 267 0) (t 272 0) (t 13) (t 14) (t 15) (t 16) a d b o = _ from by unfold exitR; rfl]; constructor <;> grind)
  · try simp only [bq0, ne_eq, Classical.not_not] at h_8
    refine G_iload_n (pc := 11) dX8_exit_11 rfl ?_
    refine G_cS1 (pc := 12) (c_X8_isDirection _ _) dX8_exit_12 ml_X8_72 rfl (by decide) (Nat.le_of_ble_eq_true rfl) ?_
    refine G_if_eq (pc := 15) (tgt := 29) dX8_exit_15 rfl (fun h_15 => ?_) (fun h_15 => ?_)
    · try simp only [bq0, ne_eq, Classical.not_not] at h_15
      refine G_iconst (pc := 29) dX8_exit_29 (by decide) ?_
      exact G_ireturn (pc := 30) dX8_exit_30 (by unfold exitC; rw [show exitR (t 267 0) (t 272 0) (t 13) (t 14) (t 15) (t 16) a d b o = _ from by unfold exitR; rfl]; constructor <;> grind)
    · try simp only [bq0, ne_eq, Classical.not_not] at h_15
      refine G_aload_n (pc := 18) dX8_exit_18 rfl ?_
      refine G_getP (pc := 19) dX8_exit_19 fk_X8_10 rfl rfl rfl ?_
      refine G_iload_n (pc := 22) dX8_exit_22 rfl ?_
      refine G_cV1 (pc := 23) (c_X5_isRoom _ _) dX8_exit_23 ml_X8_69 rfl rfl rfl (by decide) (Nat.le_of_ble_eq_true rfl) ?_
      refine G_if_ne (pc := 26) (tgt := 31) dX8_exit_26 rfl (fun h_26 => ?_) (fun h_26 => ?_)
      · try simp only [bq0, ne_eq, Classical.not_not] at h_26
        refine G_join (pc := 31) (P := fun v => v = (if 0 ≤ outS (t 272 0) (t 13) (t 14) (t 15) (t 16) a d ∨ (o ≠ 0 ∧ 0 ≤ outS (t 272 0) (t 13) (t 14) (t 15) (t 16) b (oppI d)) then (1 : Int) else 0)) 69 (fun v_69 hv_69 => ?_) (fun j_69 => ?_)
        · refine G_istore (pc := 69) dX8_exit_69 (Nat.le_of_ble_eq_true rfl) rfl ?_
          refine G_iload (pc := 71) dX8_exit_71 rfl ?_
          refine G_if_eq (pc := 73) (tgt := 79) dX8_exit_73 rfl (fun h_73 => ?_) (fun h_73 => ?_)
          · try simp only [bq0, ne_eq, Classical.not_not] at h_73
            rw [hv_69] at h_73; simp only [bq0] at h_73
            refine G_aload_n (pc := 79) dX8_exit_79 rfl ?_
            refine G_getP (pc := 80) dX8_exit_80 fk_X8_10 rfl rfl rfl ?_
            refine G_cV1 (pc := 83) (c_X5_isFullOfLinks _) dX8_exit_83 ml_X8_82 rfl rfl rfl (by decide) (Nat.le_of_ble_eq_true rfl) ?_
            refine G_if_eq (pc := 86) (tgt := 94) dX8_exit_86 rfl (fun h_86 => ?_) (fun h_86 => ?_)
            · try simp only [bq0, ne_eq, Classical.not_not] at h_86
              refine G_aload_n (pc := 94) dX8_exit_94 rfl ?_
              refine G_getP (pc := 95) dX8_exit_95 fk_X8_10 rfl rfl rfl ?_
              refine G_iload_n (pc := 98) dX8_exit_98 rfl ?_
              refine G_iload_n (pc := 99) dX8_exit_99 rfl ?_
              refine G_iload_n (pc := 100) dX8_exit_100 rfl ?_
              refine G_iload (pc := 101) dX8_exit_101 rfl ?_
              refine G_cV1 (pc := 103) (c_X5_addLink _ _ _ _ _ (by omega) (by omega)) dX8_exit_103 ml_X8_85 rfl rfl rfl (by decide) (Nat.le_of_ble_eq_true rfl) ?_
              exact G_ireturn (pc := 106) dX8_exit_106 (by unfold exitC; rw [show exitR (t 267 0) (t 272 0) (t 13) (t 14) (t 15) (t 16) a d b o = _ from by unfold exitR; rfl]; constructor <;> grind)
            · try simp only [bq0, ne_eq, Classical.not_not] at h_86
              refine G_bipush (pc := 89) (x := (-4)) dX8_exit_89 rfl (by decide) ?_
              refine G_goto (pc := 91) (tgt := 106) dX8_exit_91 rfl ?_
              exact G_ireturn (pc := 106) dX8_exit_106 (by unfold exitC; rw [show exitR (t 267 0) (t 272 0) (t 13) (t 14) (t 15) (t 16) a d b o = _ from by unfold exitR; rfl]; constructor <;> grind)
          · try simp only [bq0, ne_eq, Classical.not_not] at h_73
            rw [hv_69] at h_73; simp only [bq0, Classical.not_not] at h_73
            refine G_bipush (pc := 76) (x := (-3)) dX8_exit_76 rfl (by decide) ?_
            exact G_ireturn (pc := 78) dX8_exit_78 (by unfold exitC; rw [show exitR (t 267 0) (t 272 0) (t 13) (t 14) (t 15) (t 16) a d b o = _ from by unfold exitR; rfl]; constructor <;> grind)
        · refine G_aload_n (pc := 31) dX8_exit_31 rfl ?_
          refine G_getP (pc := 32) dX8_exit_32 fk_X8_10 rfl rfl rfl ?_
          refine G_iload_n (pc := 35) dX8_exit_35 rfl ?_
          refine G_iload_n (pc := 36) dX8_exit_36 rfl ?_
          refine G_cV1 (pc := 37) (c_X5_leading _ _ _ (by exact hS)) dX8_exit_37 ml_X8_75 rfl rfl rfl (by decide) (Nat.le_of_ble_eq_true rfl) ?_
          refine G_if_ge (pc := 40) (tgt := 64) dX8_exit_40 rfl (fun h_40 => ?_) (fun h_40 => ?_)
          · refine G_iconst (pc := 64) dX8_exit_64 (by decide) ?_
            refine G_goto (pc := 65) (tgt := 69) dX8_exit_65 rfl ?_
            exact j_69 _ (by unfold oppI at *; grind)
          · refine G_iload (pc := 43) dX8_exit_43 rfl ?_
            refine G_if_eq (pc := 45) (tgt := 68) dX8_exit_45 rfl (fun h_45 => ?_) (fun h_45 => ?_)
            · try simp only [bq0, ne_eq, Classical.not_not] at h_45
              refine G_iconst (pc := 68) dX8_exit_68 (by decide) ?_
              exact j_69 _ (by unfold oppI at *; grind)
            · try simp only [bq0, ne_eq, Classical.not_not] at h_45
              refine G_aload_n (pc := 48) dX8_exit_48 rfl ?_
              refine G_getP (pc := 49) dX8_exit_49 fk_X8_10 rfl rfl rfl ?_
              refine G_iload_n (pc := 52) dX8_exit_52 rfl ?_
              refine G_getstatic (pc := 53) dX8_exit_53 sk_X8_78 ?_
              refine G_iload_n (pc := 56) dX8_exit_56 rfl ?_
              refine G_sload (pc := 57) (k := 0) dX8_exit_57 rfl rfl (by simp only [List.length_cons, List.length_nil]; omega) ?_
              refine G_cV1 (pc := 58) (c_X5_leading _ _ _ (by exact hS)) dX8_exit_58 ml_X8_75 rfl rfl rfl (by decide) (Nat.le_of_ble_eq_true rfl) ?_
              refine G_if_lt (pc := 61) (tgt := 68) dX8_exit_61 rfl (fun h_61 => ?_) (fun h_61 => ?_)
              · refine G_iconst (pc := 68) dX8_exit_68 (by decide) ?_
                exact j_69 _ (by unfold oppI at *; grind)
              · refine G_iconst (pc := 64) dX8_exit_64 (by decide) ?_
                refine G_goto (pc := 65) (tgt := 69) dX8_exit_65 rfl ?_
                exact j_69 _ (by unfold oppI at *; grind)
      · try simp only [bq0, ne_eq, Classical.not_not] at h_26
        refine G_iconst (pc := 29) dX8_exit_29 (by decide) ?_
        exact G_ireturn (pc := 30) dX8_exit_30 (by unfold exitC; rw [show exitR (t 267 0) (t 272 0) (t 13) (t 14) (t 15) (t 16) a d b o = _ from by unfold exitR; rfl]; constructor <;> grind)
def cutR (k g : Int) : Int := if 0 ≤ g ∧ g < k then k - 1 else -1
def cutX8 (t : Sto) (g : Int) : Sto := if 0 ≤ g ∧ g < t 272 0 then cutCT t g else t
theorem c_X8_cut (t : Sto) (g : Int) (hS : SC t) (hb : ∀ l, t 16 l = 0 ∨ t 16 l = 1) : CT yX8_cut cX8_cut 2 (some .int) 1 [mP 0, mI g] t (fun r t' => r = some (mI (cutR (t 272 0) g)) ∧ t' = cutX8 t g) := by
  refine CT_of rfl rfl (Nat.le_of_ble_eq_true rfl) (fun E ht has => ?_)
  have hk := hS.1
  refine G_aload_n (pc := 0) dX8_cut_0 rfl ?_
  refine G_getP (pc := 1) dX8_cut_1 fk_X8_10 rfl rfl rfl ?_
  refine G_iload_n (pc := 4) dX8_cut_4 rfl ?_
  refine G_cV1 (pc := 5) (c_X5_isLink _ _) dX8_cut_5 ml_X8_89 rfl rfl rfl (by decide) (Nat.le_of_ble_eq_true rfl) ?_
  refine G_if_ne (pc := 8) (tgt := 13) dX8_cut_8 rfl (fun h_8 => ?_) (fun h_8 => ?_)
  · try simp only [bq0, ne_eq, Classical.not_not] at h_8
    refine G_aload_n (pc := 13) dX8_cut_13 rfl ?_
    refine G_getP (pc := 14) dX8_cut_14 fk_X8_10 rfl rfl rfl ?_
    refine G_iload_n (pc := 17) dX8_cut_17 rfl ?_
    refine G_cV0 (pc := 18) (c_X5_removeLink _ _ (by omega) (by exact ⟨by omega, hb⟩)) dX8_cut_18 ml_X8_92 rfl rfl rfl (by decide) (Nat.le_of_ble_eq_true rfl) ?_
    refine G_aload_n (pc := 21) dX8_cut_21 rfl ?_
    refine G_getP (pc := 22) dX8_cut_22 fk_X8_10 rfl rfl rfl ?_
    refine G_getI (pc := 25) dX8_cut_25 fk_X8_96 rfl rfl rfl ?_
    try simp (disch := decide) only [su_ne, su_at, su_same, sv_ne, sv_at]
    exact G_ireturn (pc := 28) dX8_cut_28 (qeq' (by unfold cutR cutCT; rw [su_at]; grind) (by unfold cutX8; grind))
  · try simp only [bq0, ne_eq, Classical.not_not] at h_8
    refine G_iconst (pc := 11) dX8_cut_11 (by decide) ?_
    exact G_ireturn (pc := 12) dX8_cut_12 (qeq' (by unfold cutR; grind) (by unfold cutX8; grind))
def markR (n : Int) (th : Int → Int) (r x : Int) : Int := if (0 ≤ r ∧ r < n) ∧ (x = -2 ∨ (0 ≤ x ∧ x ≤ 9)) then th r else -1
def markC (t : Sto) (r x : Int) : Sto := if (0 ≤ r ∧ r < t 267 0) ∧ (x = -2 ∨ (0 ≤ x ∧ x ≤ 9)) then su t 12 r x else t
theorem c_X8_mark (t : Sto) (r x : Int) (hn : 0 ≤ t 267 0 ∧ t 267 0 ≤ 24) : CT yX8_mark cX8_mark 4 (some .int) 1 [mP 0, mI r, mI x] t (fun a t' => a = some (mI (markR (t 267 0) (t 12) r x)) ∧ t' = markC t r x) := by
  refine CT_of rfl rfl (Nat.le_of_ble_eq_true rfl) (fun E ht has => ?_)
  refine G_aload_n (pc := 0) dX8_mark_0 rfl ?_
  refine G_getP (pc := 1) dX8_mark_1 fk_X8_10 rfl rfl rfl ?_
  refine G_iload_n (pc := 4) dX8_mark_4 rfl ?_
  refine G_cV1 (pc := 5) (c_X5_isRoom _ _) dX8_mark_5 ml_X8_69 rfl rfl rfl (by decide) (Nat.le_of_ble_eq_true rfl) ?_
  refine G_if_eq (pc := 8) (tgt := 24) dX8_mark_8 rfl (fun h_8 => ?_) (fun h_8 => ?_)
  · try simp only [bq0, ne_eq, Classical.not_not] at h_8
    refine G_iconst (pc := 24) dX8_mark_24 (by decide) ?_
    exact G_ireturn (pc := 25) dX8_mark_25 (qeq' (by unfold markR; grind) (by unfold markC; grind))
  · try simp only [bq0, ne_eq, Classical.not_not] at h_8
    refine G_iload_n (pc := 11) dX8_mark_11 rfl ?_
    refine G_bipush (pc := 12) (x := (-2)) dX8_mark_12 rfl (by decide) ?_
    refine G_icmp_eq (pc := 14) (tgt := 26) dX8_mark_14 rfl (fun h_14 => ?_) (fun h_14 => ?_)
    · refine G_aload_n (pc := 26) dX8_mark_26 rfl ?_
      refine G_getP (pc := 27) dX8_mark_27 fk_X8_10 rfl rfl rfl ?_
      refine G_getP (pc := 30) dX8_mark_30 fk_X8_110 rfl rfl rfl ?_
      refine G_iload_n (pc := 33) dX8_mark_33 rfl ?_
      refine G_iaload (pc := 34) dX8_mark_34 rfl rfl (by omega) ?_
      refine G_istore_n (pc := 35) dX8_mark_35 (Nat.le_of_ble_eq_true rfl) rfl ?_
      refine G_aload_n (pc := 36) dX8_mark_36 rfl ?_
      refine G_getP (pc := 37) dX8_mark_37 fk_X8_10 rfl rfl rfl ?_
      refine G_getP (pc := 40) dX8_mark_40 fk_X8_110 rfl rfl rfl ?_
      refine G_iload_n (pc := 43) dX8_mark_43 rfl ?_
      refine G_iload_n (pc := 44) dX8_mark_44 rfl ?_
      refine G_iastore (pc := 45) dX8_mark_45 rfl rfl (by omega) ?_
      refine G_iload_n (pc := 46) dX8_mark_46 rfl ?_
      exact G_ireturn (pc := 47) dX8_mark_47 (qeq' (by unfold markR; grind) (by unfold markC; grind))
    · refine G_iload_n (pc := 17) dX8_mark_17 rfl ?_
      refine G_cS1 (pc := 18) (c_X8_isKind _ _) dX8_mark_18 ml_X8_57 rfl (by decide) (Nat.le_of_ble_eq_true rfl) ?_
      refine G_if_ne (pc := 21) (tgt := 26) dX8_mark_21 rfl (fun h_21 => ?_) (fun h_21 => ?_)
      · try simp only [bq0, ne_eq, Classical.not_not] at h_21
        refine G_aload_n (pc := 26) dX8_mark_26 rfl ?_
        refine G_getP (pc := 27) dX8_mark_27 fk_X8_10 rfl rfl rfl ?_
        refine G_getP (pc := 30) dX8_mark_30 fk_X8_110 rfl rfl rfl ?_
        refine G_iload_n (pc := 33) dX8_mark_33 rfl ?_
        refine G_iaload (pc := 34) dX8_mark_34 rfl rfl (by omega) ?_
        refine G_istore_n (pc := 35) dX8_mark_35 (Nat.le_of_ble_eq_true rfl) rfl ?_
        refine G_aload_n (pc := 36) dX8_mark_36 rfl ?_
        refine G_getP (pc := 37) dX8_mark_37 fk_X8_10 rfl rfl rfl ?_
        refine G_getP (pc := 40) dX8_mark_40 fk_X8_110 rfl rfl rfl ?_
        refine G_iload_n (pc := 43) dX8_mark_43 rfl ?_
        refine G_iload_n (pc := 44) dX8_mark_44 rfl ?_
        refine G_iastore (pc := 45) dX8_mark_45 rfl rfl (by omega) ?_
        refine G_iload_n (pc := 46) dX8_mark_46 rfl ?_
        exact G_ireturn (pc := 47) dX8_mark_47 (qeq' (by unfold markR; grind) (by unfold markC; grind))
      · try simp only [bq0, ne_eq, Classical.not_not] at h_21
        refine G_iconst (pc := 24) dX8_mark_24 (by decide) ?_
        exact G_ireturn (pc := 25) dX8_mark_25 (qeq' (by unfold markR; grind) (by unfold markC; grind))
def linkR (k : Int) (fr di to bo : Int → Int) (i w : Int) : Int := if 0 ≤ i ∧ i < k then (if w = 0 then fr i else if w = 1 then di i else if w = 2 then to i else if w = 3 then (if bo i = 0 then 0 else 1) else if w = 4 then (if fr i = to i then 1 else 0) else -1) else -1
theorem c_X8_link (t : Sto) (i w : Int) (hS : SC t) : CT yX8_link cX8_link 3 (some .int) 1 [mP 0, mI i, mI w] t (fun a t' => a = some (mI (linkR (t 272 0) (t 13) (t 14) (t 15) (t 16) i w)) ∧ t' = t) := by
  refine CT_of rfl rfl (Nat.le_of_ble_eq_true rfl) (fun E ht has => ?_)
  have hk := hS.1
  refine G_aload_n (pc := 0) dX8_link_0 rfl ?_
  refine G_getP (pc := 1) dX8_link_1 fk_X8_10 rfl rfl rfl ?_
  refine G_iload_n (pc := 4) dX8_link_4 rfl ?_
  refine G_cV1 (pc := 5) (c_X5_isLink _ _) dX8_link_5 ml_X8_89 rfl rfl rfl (by decide) (Nat.le_of_ble_eq_true rfl) ?_
  refine G_if_ne (pc := 8) (tgt := 13) dX8_link_8 rfl (fun h_8 => ?_) (fun h_8 => ?_)
  · try simp only [bq0, ne_eq, Classical.not_not] at h_8
    refine G_iload_n (pc := 13) dX8_link_13 rfl ?_
    rcases (show w = 0 ∨ w = 1 ∨ w = 2 ∨ w = 3 ∨ w = 4 ∨ (w < 0 ∨ 4 < w) by omega) with h_14 | h_14 | h_14 | h_14 | h_14 | h_14
    · subst h_14
      refine G_tableAt (pc := 14) (off := 34) (tgt := 48) dX8_link_14 (by decide) rfl rfl ?_
      refine G_aload_n (pc := 48) dX8_link_48 rfl ?_
      refine G_getP (pc := 49) dX8_link_49 fk_X8_10 rfl rfl rfl ?_
      refine G_getP (pc := 52) dX8_link_52 fk_X8_117 rfl rfl rfl ?_
      refine G_iload_n (pc := 55) dX8_link_55 rfl ?_
      refine G_iaload (pc := 56) dX8_link_56 rfl rfl (by omega) ?_
      exact G_ireturn (pc := 57) dX8_link_57 (qeq (by unfold linkR; grind))
    · subst h_14
      refine G_tableAt (pc := 14) (off := 44) (tgt := 58) dX8_link_14 (by decide) rfl rfl ?_
      refine G_aload_n (pc := 58) dX8_link_58 rfl ?_
      refine G_getP (pc := 59) dX8_link_59 fk_X8_10 rfl rfl rfl ?_
      refine G_getP (pc := 62) dX8_link_62 fk_X8_120 rfl rfl rfl ?_
      refine G_iload_n (pc := 65) dX8_link_65 rfl ?_
      refine G_iaload (pc := 66) dX8_link_66 rfl rfl (by omega) ?_
      exact G_ireturn (pc := 67) dX8_link_67 (qeq (by unfold linkR; grind))
    · subst h_14
      refine G_tableAt (pc := 14) (off := 54) (tgt := 68) dX8_link_14 (by decide) rfl rfl ?_
      refine G_aload_n (pc := 68) dX8_link_68 rfl ?_
      refine G_getP (pc := 69) dX8_link_69 fk_X8_10 rfl rfl rfl ?_
      refine G_getP (pc := 72) dX8_link_72 fk_X8_123 rfl rfl rfl ?_
      refine G_iload_n (pc := 75) dX8_link_75 rfl ?_
      refine G_iaload (pc := 76) dX8_link_76 rfl rfl (by omega) ?_
      exact G_ireturn (pc := 77) dX8_link_77 (qeq (by unfold linkR; grind))
    · subst h_14
      refine G_tableAt (pc := 14) (off := 64) (tgt := 78) dX8_link_14 (by decide) rfl rfl ?_
      refine G_aload_n (pc := 78) dX8_link_78 rfl ?_
      refine G_getP (pc := 79) dX8_link_79 fk_X8_10 rfl rfl rfl ?_
      refine G_getP (pc := 82) dX8_link_82 fk_X8_126 rfl rfl rfl ?_
      refine G_iload_n (pc := 85) dX8_link_85 rfl ?_
      refine G_baload (pc := 86) dX8_link_86 rfl rfl (by omega) ?_
      refine G_if_eq (pc := 87) (tgt := 94) dX8_link_87 rfl (fun h_87 => ?_) (fun h_87 => ?_)
      · try simp only [bq0, ne_eq, Classical.not_not] at h_87
        refine G_iconst (pc := 94) dX8_link_94 (by decide) ?_
        exact G_ireturn (pc := 95) dX8_link_95 (qeq (by unfold linkR; grind))
      · try simp only [bq0, ne_eq, Classical.not_not] at h_87
        refine G_iconst (pc := 90) dX8_link_90 (by decide) ?_
        refine G_goto (pc := 91) (tgt := 95) dX8_link_91 rfl ?_
        exact G_ireturn (pc := 95) dX8_link_95 (qeq (by unfold linkR; grind))
    · subst h_14
      refine G_tableAt (pc := 14) (off := 82) (tgt := 96) dX8_link_14 (by decide) rfl rfl ?_
      refine G_aload_n (pc := 96) dX8_link_96 rfl ?_
      refine G_getP (pc := 97) dX8_link_97 fk_X8_10 rfl rfl rfl ?_
      refine G_iload_n (pc := 100) dX8_link_100 rfl ?_
      refine G_cV1 (pc := 101) (c_X5_isLoop _ _ (by omega)) dX8_link_101 ml_X8_130 rfl rfl rfl (by decide) (Nat.le_of_ble_eq_true rfl) ?_
      refine G_if_eq (pc := 104) (tgt := 111) dX8_link_104 rfl (fun h_104 => ?_) (fun h_104 => ?_)
      · try simp only [bq0, ne_eq, Classical.not_not] at h_104
        refine G_iconst (pc := 111) dX8_link_111 (by decide) ?_
        exact G_ireturn (pc := 112) dX8_link_112 (qeq (by unfold linkR; grind))
      · try simp only [bq0, ne_eq, Classical.not_not] at h_104
        refine G_iconst (pc := 107) dX8_link_107 (by decide) ?_
        refine G_goto (pc := 108) (tgt := 112) dX8_link_108 rfl ?_
        exact G_ireturn (pc := 112) dX8_link_112 (qeq (by unfold linkR; grind))
    · refine G_tableOut (pc := 14) (tgt := 113) dX8_link_14 h_14 rfl ?_
      refine G_iconst (pc := 113) dX8_link_113 (by decide) ?_
      exact G_ireturn (pc := 114) dX8_link_114 (qeq (by unfold linkR; grind))
  · try simp only [bq0, ne_eq, Classical.not_not] at h_8
    refine G_iconst (pc := 11) dX8_link_11 (by decide) ?_
    exact G_ireturn (pc := 12) dX8_link_12 (qeq (by unfold linkR; grind))
noncomputable def outR (n k : Int) (fr di to bo : Int → Int) (r w : Int) : Int := if 0 ≤ r ∧ r < n ∧ 0 ≤ w ∧ w ≤ 9 then outS k fr di to bo r w else -1
theorem c_X8_out (t : Sto) (r w : Int) (hS : SC t) : CT yX8_out cX8_out 3 (some .int) 2 [mP 0, mI r, mI w] t (fun a t' => a = some (mI (outR (t 267 0) (t 272 0) (t 13) (t 14) (t 15) (t 16) r w)) ∧ t' = t) := by
  refine CT_of rfl rfl (Nat.le_of_ble_eq_true rfl) (fun E ht has => ?_)
  refine G_aload_n (pc := 0) dX8_out_0 rfl ?_
  refine G_getP (pc := 1) dX8_out_1 fk_X8_10 rfl rfl rfl ?_
  refine G_iload_n (pc := 4) dX8_out_4 rfl ?_
  refine G_cV1 (pc := 5) (c_X5_isRoom _ _) dX8_out_5 ml_X8_69 rfl rfl rfl (by decide) (Nat.le_of_ble_eq_true rfl) ?_
  refine G_if_eq (pc := 8) (tgt := 30) dX8_out_8 rfl (fun h_8 => ?_) (fun h_8 => ?_)
  · try simp only [bq0, ne_eq, Classical.not_not] at h_8
    refine G_iconst (pc := 30) dX8_out_30 (by decide) ?_
    exact G_ireturn (pc := 31) dX8_out_31 (qeq (by unfold outR; grind))
  · try simp only [bq0, ne_eq, Classical.not_not] at h_8
    refine G_iload_n (pc := 11) dX8_out_11 rfl ?_
    refine G_cS1 (pc := 12) (c_X8_isDirection _ _) dX8_out_12 ml_X8_72 rfl (by decide) (Nat.le_of_ble_eq_true rfl) ?_
    refine G_if_eq (pc := 15) (tgt := 30) dX8_out_15 rfl (fun h_15 => ?_) (fun h_15 => ?_)
    · try simp only [bq0, ne_eq, Classical.not_not] at h_15
      refine G_iconst (pc := 30) dX8_out_30 (by decide) ?_
      exact G_ireturn (pc := 31) dX8_out_31 (qeq (by unfold outR; grind))
    · try simp only [bq0, ne_eq, Classical.not_not] at h_15
      refine G_aload_n (pc := 18) dX8_out_18 rfl ?_
      refine G_getP (pc := 19) dX8_out_19 fk_X8_10 rfl rfl rfl ?_
      refine G_iload_n (pc := 22) dX8_out_22 rfl ?_
      refine G_iload_n (pc := 23) dX8_out_23 rfl ?_
      refine G_cV1 (pc := 24) (c_X5_leading _ _ _ (by exact hS)) dX8_out_24 ml_X8_75 rfl rfl rfl (by decide) (Nat.le_of_ble_eq_true rfl) ?_
      refine G_goto (pc := 27) (tgt := 31) dX8_out_27 rfl ?_
      exact G_ireturn (pc := 31) dX8_out_31 (qeq (by unfold outR; grind))
