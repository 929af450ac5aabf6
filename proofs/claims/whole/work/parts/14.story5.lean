/-! STORY: the reference's play, marks, links -/
noncomputable def backS (k : Int) (fr di to bo : Int → Int) (a d b : Int) : Int := fst (fun l => bo l = 0 ∧ fr l = b ∧ di l = oppI d ∧ to l = a) 0 k
theorem backS_r (k : Int) (fr di to bo : Int → Int) (a d b : Int) : backS k fr di to bo a d b = -2 ∨ (0 ≤ backS k fr di to bo a d b ∧ backS k fr di to bo a d b < k) := by
  rcases fst_spec (fun l => bo l = 0 ∧ fr l = b ∧ di l = oppI d ∧ to l = a) 0 k with ⟨x, y⟩ | ⟨x, y, z, e⟩
  · exact Or.inl x
  · exact Or.inr ⟨x, y⟩
theorem c_X9_backOf (t : Sto) (a d b : Int) (hS : SM t) (hd : 0 ≤ d ∧ d ≤ 9) : CT yX9_backOf cX9_backOf 5 (some .int) 1 [mP 31, mI a, mI d, mI b] t (fun r t' => r = some (mI (backS (t 2188 0) (t 35) (t 36) (t 37) (t 38) a d b)) ∧ t' = t) := by
  refine CT_of rfl rfl (Nat.le_of_ble_eq_true rfl) (fun E ht has => ?_)
  obtain ⟨hb, hS⟩ := hS
  have loop : ∀ l, l ≤ t 2188 0 → 0 ≤ l → fst (fun l => t 38 l = 0 ∧ t 35 l = b ∧ t 36 l = oppI d ∧ t 37 l = a) l (t 2188 0) = backS (t 2188 0) (t 35) (t 36) (t 37) (t 38) a d b → G E cX9_backOf RX9 (some .int) 1 3 [some (mP 31), some (mI a), some (mI d), some (mI b), some (mI l)] [] t (fun r t' => r = some (mI (backS (t 2188 0) (t 35) (t 36) (t 37) (t 38) a d b)) ∧ t' = t) := by
    refine up_ind (fun l hl ih h0 hX => ?_)
    refine G_iload (pc := 3) dX9_backOf_3 rfl ?_
    refine G_aload_n (pc := 5) dX9_backOf_5 rfl ?_
    refine G_getI (pc := 6) dX9_backOf_6 fk_X9_94 rfl rfl rfl ?_
    refine G_icmp_ge (pc := 9) (tgt := 67) dX9_backOf_9 rfl (fun h_9 => ?_) (fun h_9 => ?_)
    · refine G_bipush (pc := 67) (x := (-2)) dX9_backOf_67 rfl (by decide) ?_
      exact G_ireturn (pc := 69) dX9_backOf_69 (qeq (by rw [← hX, fst_ge (by omega)]))
    · refine G_aload_n (pc := 12) dX9_backOf_12 rfl ?_
      refine G_getP (pc := 13) dX9_backOf_13 fk_X9_28 rfl rfl rfl ?_
      refine G_iload (pc := 16) dX9_backOf_16 rfl ?_
      refine G_baload (pc := 18) dX9_backOf_18 rfl rfl (by omega) ?_
      refine G_if_ne (pc := 19) (tgt := 61) dX9_backOf_19 rfl (fun h_19 => ?_) (fun h_19 => ?_)
      · try simp only [bq0, ne_eq, Classical.not_not] at h_19
        refine G_iinc (pc := 61) dX9_backOf_61 rfl rfl (by omega) ?_
        refine G_goto (pc := 64) (tgt := 3) dX9_backOf_64 rfl ?_
        exact ih (by omega) (by omega) ((fst_neg (by omega) (by omega)).symm.trans hX)
      · try simp only [bq0, ne_eq, Classical.not_not] at h_19
        refine G_aload_n (pc := 22) dX9_backOf_22 rfl ?_
        refine G_getP (pc := 23) dX9_backOf_23 fk_X9_19 rfl rfl rfl ?_
        refine G_iload (pc := 26) dX9_backOf_26 rfl ?_
        refine G_iaload (pc := 28) dX9_backOf_28 rfl rfl (by omega) ?_
        refine G_iload_n (pc := 29) dX9_backOf_29 rfl ?_
        refine G_icmp_ne (pc := 30) (tgt := 61) dX9_backOf_30 rfl (fun h_30 => ?_) (fun h_30 => ?_)
        · refine G_iinc (pc := 61) dX9_backOf_61 rfl rfl (by omega) ?_
          refine G_goto (pc := 64) (tgt := 3) dX9_backOf_64 rfl ?_
          exact ih (by omega) (by omega) ((fst_neg (by omega) (by omega)).symm.trans hX)
        · refine G_aload_n (pc := 33) dX9_backOf_33 rfl ?_
          refine G_getP (pc := 34) dX9_backOf_34 fk_X9_22 rfl rfl rfl ?_
          refine G_iload (pc := 37) dX9_backOf_37 rfl ?_
          refine G_iaload (pc := 39) dX9_backOf_39 rfl rfl (by omega) ?_
          refine G_iload_n (pc := 40) dX9_backOf_40 rfl ?_
          refine G_cS1 (pc := 41) (c_X9_opposite _ _ (by omega)) dX9_backOf_41 ml_X9_97 rfl (by decide) (Nat.le_of_ble_eq_true rfl) ?_
          refine G_icmp_ne (pc := 44) (tgt := 61) dX9_backOf_44 rfl (fun h_44 => ?_) (fun h_44 => ?_)
          · refine G_iinc (pc := 61) dX9_backOf_61 rfl rfl (by omega) ?_
            refine G_goto (pc := 64) (tgt := 3) dX9_backOf_64 rfl ?_
            exact ih (by omega) (by omega) ((fst_neg (by omega) (by omega)).symm.trans hX)
          · refine G_aload_n (pc := 47) dX9_backOf_47 rfl ?_
            refine G_getP (pc := 48) dX9_backOf_48 fk_X9_25 rfl rfl rfl ?_
            refine G_iload (pc := 51) dX9_backOf_51 rfl ?_
            refine G_iaload (pc := 53) dX9_backOf_53 rfl rfl (by omega) ?_
            refine G_iload_n (pc := 54) dX9_backOf_54 rfl ?_
            refine G_icmp_ne (pc := 55) (tgt := 61) dX9_backOf_55 rfl (fun h_55 => ?_) (fun h_55 => ?_)
            · refine G_iinc (pc := 61) dX9_backOf_61 rfl rfl (by omega) ?_
              refine G_goto (pc := 64) (tgt := 3) dX9_backOf_64 rfl ?_
              exact ih (by omega) (by omega) ((fst_neg (by omega) (by omega)).symm.trans hX)
            · refine G_iload (pc := 58) dX9_backOf_58 rfl ?_
              exact G_ireturn (pc := 60) dX9_backOf_60 (qeq (by rw [← hX, fst_pos (by omega) (by omega)]))
  refine G_iconst (pc := 0) dX9_backOf_0 (by decide) ?_
  refine G_istore (pc := 1) dX9_backOf_1 (Nat.le_of_ble_eq_true rfl) rfl ?_
  exact loop 0 (by omega) (by omega) rfl
noncomputable def playRM (n k : Int) (fr di to bo : Int → Int) (a d b : Int) : Int := if (0 ≤ a ∧ a < n) ∧ (0 ≤ d ∧ d ≤ 9) ∧ (b = -2 ∨ (0 ≤ b ∧ b < n)) then (if 0 ≤ outS k fr di to bo a d then (if b = -2 ∨ endS fr di to (outS k fr di to bo a d) a d ≠ b then -3 else b) else if b ≠ -2 ∧ 0 ≤ backS k fr di to bo a d b then b else if (b = -2 ∧ 24 ≤ n) ∨ 60 ≤ k then -4 else if b = -2 then n else b) else -1
noncomputable def playM (t : Sto) (a d b : Int) : Sto := if ((0 ≤ a ∧ a < t 2184 0) ∧ (0 ≤ d ∧ d ≤ 9) ∧ (b = -2 ∨ (0 ≤ b ∧ b < t 2184 0))) ∧ ¬ 0 ≤ outS (t 2188 0) (t 35) (t 36) (t 37) (t 38) a d then (if b ≠ -2 ∧ 0 ≤ backS (t 2188 0) (t 35) (t 36) (t 37) (t 38) a d b then su t 38 (backS (t 2188 0) (t 35) (t 36) (t 37) (t 38) a d b) 1 else if (b = -2 ∧ 24 ≤ t 2184 0) ∨ 60 ≤ t 2188 0 then t else if b = -2 then layM (addRoomM t 1 (t 33 a)) a d (t 2184 0) 0 else layM t a d b 0) else t
theorem roomM_new (t : Sto) (g : Int) (hg : 0 ≤ g ∧ g ≤ 9) (hn : t 2184 0 < 24) : roomM t 1 g = addRoomM t 1 g ∧ roomR (t 2184 0) 1 g = t 2184 0 := by
  unfold roomM roomR
  rw [if_pos (by omega), if_pos (by omega), if_neg (by omega)]
  exact ⟨rfl, rfl⟩
theorem addRoomM_2188 (t : Sto) (w g : Int) : addRoomM t w g 2188 0 = t 2188 0 := by
  unfold addRoomM
  simp (disch := decide) only [su_ne]
set_option maxHeartbeats 4000000 in
theorem c_X9_play (t : Sto) (a d b : Int) (hS : SM t) (hg : ∀ r, 0 ≤ r → r < t 2184 0 → 0 ≤ t 33 r ∧ t 33 r ≤ 9) : CT yX9_play cX9_play 8 (some .int) 2 [mP 31, mI a, mI d, mI b] t (fun r t' => r = some (mI (playRM (t 2184 0) (t 2188 0) (t 35) (t 36) (t 37) (t 38) a d b)) ∧ t' = playM t a d b) := by
  refine CT_of rfl rfl (Nat.le_of_ble_eq_true rfl) (fun E ht has => ?_)
  have hb := hS.1
  have hr := outS_r (t 2188 0) (t 35) (t 36) (t 37) (t 38) a d
  have hr2 := backS_r (t 2188 0) (t 35) (t 36) (t 37) (t 38) a d b
  refine G_aload_n (pc := 0) dX9_play_0 rfl ?_
  refine G_iload_n (pc := 1) dX9_play_1 rfl ?_
  refine G_cV1 (pc := 2) (c_X9_isRoom _ _ (by omega)) dX9_play_2 ml_X9_101 rfl rfl rfl (by decide) (Nat.le_of_ble_eq_true rfl) ?_
  refine G_if_eq (pc := 5) (tgt := 32) dX9_play_5 rfl (fun h_5 => ?_) (fun h_5 => ?_)
  · try simp only [bq0, ne_eq, Classical.not_not] at h_5
    refine G_iconst (pc := 32) dX9_play_32 (by decide) ?_
    exact G_ireturn (pc := 33) dX9_play_33 (qeq' (by unfold playRM; grind) (by unfold playM; grind))
  · try simp only [bq0, ne_eq, Classical.not_not] at h_5
    refine G_iload_n (pc := 8) dX9_play_8 rfl ?_
    refine G_iconst (pc := 9) dX9_play_9 (by decide) ?_
    refine G_bipush (pc := 10) (x := 9) dX9_play_10 rfl (by decide) ?_
    refine G_cS1 (pc := 12) (c_X9_in _ _ _ _) dX9_play_12 ml_X9_90 rfl (by decide) (Nat.le_of_ble_eq_true rfl) ?_
    refine G_if_eq (pc := 15) (tgt := 32) dX9_play_15 rfl (fun h_15 => ?_) (fun h_15 => ?_)
    · try simp only [bq0, ne_eq, Classical.not_not] at h_15
      refine G_iconst (pc := 32) dX9_play_32 (by decide) ?_
      exact G_ireturn (pc := 33) dX9_play_33 (qeq' (by unfold playRM; grind) (by unfold playM; grind))
    · try simp only [bq0, ne_eq, Classical.not_not] at h_15
      refine G_iload_n (pc := 18) dX9_play_18 rfl ?_
      refine G_bipush (pc := 19) (x := (-2)) dX9_play_19 rfl (by decide) ?_
      refine G_icmp_eq (pc := 21) (tgt := 34) dX9_play_21 rfl (fun h_21 => ?_) (fun h_21 => ?_)
      · refine G_aload_n (pc := 34) dX9_play_34 rfl ?_
        refine G_iload_n (pc := 35) dX9_play_35 rfl ?_
        refine G_iload_n (pc := 36) dX9_play_36 rfl ?_
        refine G_cV1 (pc := 37) (c_X9_outOf _ _ _ (by exact hS)) dX9_play_37 ml_X9_105 rfl rfl rfl (by decide) (Nat.le_of_ble_eq_true rfl) ?_
        refine G_istore (pc := 40) dX9_play_40 (Nat.le_of_ble_eq_true rfl) rfl ?_
        refine G_iload (pc := 42) dX9_play_42 rfl ?_
        refine G_if_lt (pc := 44) (tgt := 72) dX9_play_44 rfl (fun h_44 => ?_) (fun h_44 => ?_)
        · refine G_iload_n (pc := 72) dX9_play_72 rfl ?_
          refine G_bipush (pc := 73) (x := (-2)) dX9_play_73 rfl (by decide) ?_
          refine G_icmp_ne (pc := 75) (tgt := 83) dX9_play_75 rfl (fun h_75 => ?_) (fun h_75 => ?_)
          · refine G_aload_n (pc := 83) dX9_play_83 rfl ?_
            refine G_iload_n (pc := 84) dX9_play_84 rfl ?_
            refine G_iload_n (pc := 85) dX9_play_85 rfl ?_
            refine G_iload_n (pc := 86) dX9_play_86 rfl ?_
            refine G_cV1 (pc := 87) (c_X9_backOf _ _ _ _ (by exact hS) (by omega)) dX9_play_87 ml_X9_120 rfl rfl rfl (by decide) (Nat.le_of_ble_eq_true rfl) ?_
            refine G_istore (pc := 90) dX9_play_90 (Nat.le_of_ble_eq_true rfl) rfl ?_
            refine G_iload (pc := 92) dX9_play_92 rfl ?_
            refine G_if_lt (pc := 94) (tgt := 107) dX9_play_94 rfl (fun h_94 => ?_) (fun h_94 => ?_)
            · refine G_iload_n (pc := 107) dX9_play_107 rfl ?_
              refine G_bipush (pc := 108) (x := (-2)) dX9_play_108 rfl (by decide) ?_
              refine G_icmp_ne (pc := 110) (tgt := 122) dX9_play_110 rfl (fun h_110 => ?_) (fun h_110 => ?_)
              · refine G_aload_n (pc := 122) dX9_play_122 rfl ?_
                refine G_getI (pc := 123) dX9_play_123 fk_X9_94 rfl rfl rfl ?_
                refine G_bipush (pc := 126) (x := 60) dX9_play_126 rfl (by decide) ?_
                refine G_icmp_ne (pc := 128) (tgt := 134) dX9_play_128 rfl (fun h_128 => ?_) (fun h_128 => ?_)
                · refine G_iload_n (pc := 134) dX9_play_134 rfl ?_
                  refine G_bipush (pc := 135) (x := (-2)) dX9_play_135 rfl (by decide) ?_
                  refine G_icmp_ne (pc := 137) (tgt := 154) dX9_play_137 rfl (fun h_137 => ?_) (fun h_137 => ?_)
                  · refine G_iload_n (pc := 154) dX9_play_154 rfl ?_
                    refine G_istore (pc := 155) dX9_play_155 (Nat.le_of_ble_eq_true rfl) rfl ?_
                    refine G_aload_n (pc := 157) dX9_play_157 rfl ?_
                    refine G_iload_n (pc := 158) dX9_play_158 rfl ?_
                    refine G_iload_n (pc := 159) dX9_play_159 rfl ?_
                    refine G_iload (pc := 160) dX9_play_160 rfl ?_
                    refine G_iconst (pc := 162) dX9_play_162 (by decide) ?_
                    refine G_cV1 (pc := 163) (c_X9_lay _ _ _ _ _ (by first | omega | (rw [addRoomM_2188]; omega)) (by exact Or.inl rfl)) dX9_play_163 ml_X9_109 rfl rfl rfl (by decide) (Nat.le_of_ble_eq_true rfl) ?_
                    refine G_istore (pc := 166) dX9_play_166 (Nat.le_of_ble_eq_true rfl) rfl ?_
                    refine G_iload (pc := 168) dX9_play_168 rfl ?_
                    exact G_ireturn (pc := 170) dX9_play_170 (qeq' (by unfold playRM; grind) (by unfold playM; grind))
                  · refine G_aload_n (pc := 140) dX9_play_140 rfl ?_
                    refine G_iconst (pc := 141) dX9_play_141 (by decide) ?_
                    refine G_aload_n (pc := 142) dX9_play_142 rfl ?_
                    refine G_getP (pc := 143) dX9_play_143 fk_X9_13 rfl rfl rfl ?_
                    refine G_iload_n (pc := 146) dX9_play_146 rfl ?_
                    refine G_iaload (pc := 147) dX9_play_147 rfl rfl (by omega) ?_
                    have hga := hg a (by omega) (by omega)
                    have hrn := roomM_new t (t 33 a) hga (by omega)
                    refine G_cV1 (pc := 148) (c_X9_room _ _ _ (by omega)) dX9_play_148 ml_X9_123 rfl rfl rfl (by decide) (Nat.le_of_ble_eq_true rfl) ?_
                    rw [hrn.1, hrn.2]
                    refine G_goto (pc := 151) (tgt := 155) dX9_play_151 rfl ?_
                    refine G_istore (pc := 155) dX9_play_155 (Nat.le_of_ble_eq_true rfl) rfl ?_
                    refine G_aload_n (pc := 157) dX9_play_157 rfl ?_
                    refine G_iload_n (pc := 158) dX9_play_158 rfl ?_
                    refine G_iload_n (pc := 159) dX9_play_159 rfl ?_
                    refine G_iload (pc := 160) dX9_play_160 rfl ?_
                    refine G_iconst (pc := 162) dX9_play_162 (by decide) ?_
                    refine G_cV1 (pc := 163) (c_X9_lay _ _ _ _ _ (by first | omega | (rw [addRoomM_2188]; omega)) (by exact Or.inl rfl)) dX9_play_163 ml_X9_109 rfl rfl rfl (by decide) (Nat.le_of_ble_eq_true rfl) ?_
                    refine G_istore (pc := 166) dX9_play_166 (Nat.le_of_ble_eq_true rfl) rfl ?_
                    refine G_iload (pc := 168) dX9_play_168 rfl ?_
                    exact G_ireturn (pc := 170) dX9_play_170 (qeq' (by unfold playRM; grind) (by unfold playM; grind))
                · refine G_bipush (pc := 131) (x := (-4)) dX9_play_131 rfl (by decide) ?_
                  exact G_ireturn (pc := 133) dX9_play_133 (qeq' (by unfold playRM; grind) (by unfold playM; grind))
              · refine G_aload_n (pc := 113) dX9_play_113 rfl ?_
                refine G_getI (pc := 114) dX9_play_114 fk_X9_86 rfl rfl rfl ?_
                refine G_bipush (pc := 117) (x := 24) dX9_play_117 rfl (by decide) ?_
                refine G_icmp_eq (pc := 119) (tgt := 131) dX9_play_119 rfl (fun h_119 => ?_) (fun h_119 => ?_)
                · refine G_bipush (pc := 131) (x := (-4)) dX9_play_131 rfl (by decide) ?_
                  exact G_ireturn (pc := 133) dX9_play_133 (qeq' (by unfold playRM; grind) (by unfold playM; grind))
                · refine G_aload_n (pc := 122) dX9_play_122 rfl ?_
                  refine G_getI (pc := 123) dX9_play_123 fk_X9_94 rfl rfl rfl ?_
                  refine G_bipush (pc := 126) (x := 60) dX9_play_126 rfl (by decide) ?_
                  refine G_icmp_ne (pc := 128) (tgt := 134) dX9_play_128 rfl (fun h_128 => ?_) (fun h_128 => ?_)
                  · refine G_iload_n (pc := 134) dX9_play_134 rfl ?_
                    refine G_bipush (pc := 135) (x := (-2)) dX9_play_135 rfl (by decide) ?_
                    refine G_icmp_ne (pc := 137) (tgt := 154) dX9_play_137 rfl (fun h_137 => ?_) (fun h_137 => ?_)
                    · refine G_iload_n (pc := 154) dX9_play_154 rfl ?_
                      refine G_istore (pc := 155) dX9_play_155 (Nat.le_of_ble_eq_true rfl) rfl ?_
                      refine G_aload_n (pc := 157) dX9_play_157 rfl ?_
                      refine G_iload_n (pc := 158) dX9_play_158 rfl ?_
                      refine G_iload_n (pc := 159) dX9_play_159 rfl ?_
                      refine G_iload (pc := 160) dX9_play_160 rfl ?_
                      refine G_iconst (pc := 162) dX9_play_162 (by decide) ?_
                      refine G_cV1 (pc := 163) (c_X9_lay _ _ _ _ _ (by first | omega | (rw [addRoomM_2188]; omega)) (by exact Or.inl rfl)) dX9_play_163 ml_X9_109 rfl rfl rfl (by decide) (Nat.le_of_ble_eq_true rfl) ?_
                      refine G_istore (pc := 166) dX9_play_166 (Nat.le_of_ble_eq_true rfl) rfl ?_
                      refine G_iload (pc := 168) dX9_play_168 rfl ?_
                      exact G_ireturn (pc := 170) dX9_play_170 (qeq' (by unfold playRM; grind) (by unfold playM; grind))
                    · refine G_aload_n (pc := 140) dX9_play_140 rfl ?_
                      refine G_iconst (pc := 141) dX9_play_141 (by decide) ?_
                      refine G_aload_n (pc := 142) dX9_play_142 rfl ?_
                      refine G_getP (pc := 143) dX9_play_143 fk_X9_13 rfl rfl rfl ?_
                      refine G_iload_n (pc := 146) dX9_play_146 rfl ?_
                      refine G_iaload (pc := 147) dX9_play_147 rfl rfl (by omega) ?_
                      have hga := hg a (by omega) (by omega)
                      have hrn := roomM_new t (t 33 a) hga (by omega)
                      refine G_cV1 (pc := 148) (c_X9_room _ _ _ (by omega)) dX9_play_148 ml_X9_123 rfl rfl rfl (by decide) (Nat.le_of_ble_eq_true rfl) ?_
                      rw [hrn.1, hrn.2]
                      refine G_goto (pc := 151) (tgt := 155) dX9_play_151 rfl ?_
                      refine G_istore (pc := 155) dX9_play_155 (Nat.le_of_ble_eq_true rfl) rfl ?_
                      refine G_aload_n (pc := 157) dX9_play_157 rfl ?_
                      refine G_iload_n (pc := 158) dX9_play_158 rfl ?_
                      refine G_iload_n (pc := 159) dX9_play_159 rfl ?_
                      refine G_iload (pc := 160) dX9_play_160 rfl ?_
                      refine G_iconst (pc := 162) dX9_play_162 (by decide) ?_
                      refine G_cV1 (pc := 163) (c_X9_lay _ _ _ _ _ (by first | omega | (rw [addRoomM_2188]; omega)) (by exact Or.inl rfl)) dX9_play_163 ml_X9_109 rfl rfl rfl (by decide) (Nat.le_of_ble_eq_true rfl) ?_
                      refine G_istore (pc := 166) dX9_play_166 (Nat.le_of_ble_eq_true rfl) rfl ?_
                      refine G_iload (pc := 168) dX9_play_168 rfl ?_
                      exact G_ireturn (pc := 170) dX9_play_170 (qeq' (by unfold playRM; grind) (by unfold playM; grind))
                  · refine G_bipush (pc := 131) (x := (-4)) dX9_play_131 rfl (by decide) ?_
                    exact G_ireturn (pc := 133) dX9_play_133 (qeq' (by unfold playRM; grind) (by unfold playM; grind))
            · refine G_aload_n (pc := 97) dX9_play_97 rfl ?_
              refine G_getP (pc := 98) dX9_play_98 fk_X9_28 rfl rfl rfl ?_
              refine G_iload (pc := 101) dX9_play_101 rfl ?_
              refine G_iconst (pc := 103) dX9_play_103 (by decide) ?_
              refine G_bastore (pc := 104) dX9_play_104 rfl rfl (by omega) (by first | exact Or.inl rfl | exact Or.inr rfl | omega) ?_
              refine G_iload_n (pc := 105) dX9_play_105 rfl ?_
              exact G_ireturn (pc := 106) dX9_play_106 (qeq' (by unfold playRM; grind) (by unfold playM; grind))
          · refine G_bipush (pc := 78) (x := (-2)) dX9_play_78 rfl (by decide) ?_
            refine G_goto (pc := 80) (tgt := 90) dX9_play_80 rfl ?_
            refine G_istore (pc := 90) dX9_play_90 (Nat.le_of_ble_eq_true rfl) rfl ?_
            refine G_iload (pc := 92) dX9_play_92 rfl ?_
            refine G_if_lt (pc := 94) (tgt := 107) dX9_play_94 rfl (fun h_94 => ?_) (fun h_94 => ?_)
            · refine G_iload_n (pc := 107) dX9_play_107 rfl ?_
              refine G_bipush (pc := 108) (x := (-2)) dX9_play_108 rfl (by decide) ?_
              refine G_icmp_ne (pc := 110) (tgt := 122) dX9_play_110 rfl (fun h_110 => ?_) (fun h_110 => ?_)
              · refine G_aload_n (pc := 122) dX9_play_122 rfl ?_
                refine G_getI (pc := 123) dX9_play_123 fk_X9_94 rfl rfl rfl ?_
                refine G_bipush (pc := 126) (x := 60) dX9_play_126 rfl (by decide) ?_
                refine G_icmp_ne (pc := 128) (tgt := 134) dX9_play_128 rfl (fun h_128 => ?_) (fun h_128 => ?_)
                · refine G_iload_n (pc := 134) dX9_play_134 rfl ?_
                  refine G_bipush (pc := 135) (x := (-2)) dX9_play_135 rfl (by decide) ?_
                  refine G_icmp_ne (pc := 137) (tgt := 154) dX9_play_137 rfl (fun h_137 => ?_) (fun h_137 => ?_)
                  · refine G_iload_n (pc := 154) dX9_play_154 rfl ?_
                    refine G_istore (pc := 155) dX9_play_155 (Nat.le_of_ble_eq_true rfl) rfl ?_
                    refine G_aload_n (pc := 157) dX9_play_157 rfl ?_
                    refine G_iload_n (pc := 158) dX9_play_158 rfl ?_
                    refine G_iload_n (pc := 159) dX9_play_159 rfl ?_
                    refine G_iload (pc := 160) dX9_play_160 rfl ?_
                    refine G_iconst (pc := 162) dX9_play_162 (by decide) ?_
                    refine G_cV1 (pc := 163) (c_X9_lay _ _ _ _ _ (by first | omega | (rw [addRoomM_2188]; omega)) (by exact Or.inl rfl)) dX9_play_163 ml_X9_109 rfl rfl rfl (by decide) (Nat.le_of_ble_eq_true rfl) ?_
                    refine G_istore (pc := 166) dX9_play_166 (Nat.le_of_ble_eq_true rfl) rfl ?_
                    refine G_iload (pc := 168) dX9_play_168 rfl ?_
                    exact G_ireturn (pc := 170) dX9_play_170 (qeq' (by unfold playRM; grind) (by unfold playM; grind))
                  · refine G_aload_n (pc := 140) dX9_play_140 rfl ?_
                    refine G_iconst (pc := 141) dX9_play_141 (by decide) ?_
                    refine G_aload_n (pc := 142) dX9_play_142 rfl ?_
                    refine G_getP (pc := 143) dX9_play_143 fk_X9_13 rfl rfl rfl ?_
                    refine G_iload_n (pc := 146) dX9_play_146 rfl ?_
                    refine G_iaload (pc := 147) dX9_play_147 rfl rfl (by omega) ?_
                    have hga := hg a (by omega) (by omega)
                    have hrn := roomM_new t (t 33 a) hga (by omega)
                    refine G_cV1 (pc := 148) (c_X9_room _ _ _ (by omega)) dX9_play_148 ml_X9_123 rfl rfl rfl (by decide) (Nat.le_of_ble_eq_true rfl) ?_
                    rw [hrn.1, hrn.2]
                    refine G_goto (pc := 151) (tgt := 155) dX9_play_151 rfl ?_
                    refine G_istore (pc := 155) dX9_play_155 (Nat.le_of_ble_eq_true rfl) rfl ?_
                    refine G_aload_n (pc := 157) dX9_play_157 rfl ?_
                    refine G_iload_n (pc := 158) dX9_play_158 rfl ?_
                    refine G_iload_n (pc := 159) dX9_play_159 rfl ?_
                    refine G_iload (pc := 160) dX9_play_160 rfl ?_
                    refine G_iconst (pc := 162) dX9_play_162 (by decide) ?_
                    refine G_cV1 (pc := 163) (c_X9_lay _ _ _ _ _ (by first | omega | (rw [addRoomM_2188]; omega)) (by exact Or.inl rfl)) dX9_play_163 ml_X9_109 rfl rfl rfl (by decide) (Nat.le_of_ble_eq_true rfl) ?_
                    refine G_istore (pc := 166) dX9_play_166 (Nat.le_of_ble_eq_true rfl) rfl ?_
                    refine G_iload (pc := 168) dX9_play_168 rfl ?_
                    exact G_ireturn (pc := 170) dX9_play_170 (qeq' (by unfold playRM; grind) (by unfold playM; grind))
                · refine G_bipush (pc := 131) (x := (-4)) dX9_play_131 rfl (by decide) ?_
                  exact G_ireturn (pc := 133) dX9_play_133 (qeq' (by unfold playRM; grind) (by unfold playM; grind))
              · refine G_aload_n (pc := 113) dX9_play_113 rfl ?_
                refine G_getI (pc := 114) dX9_play_114 fk_X9_86 rfl rfl rfl ?_
                refine G_bipush (pc := 117) (x := 24) dX9_play_117 rfl (by decide) ?_
                refine G_icmp_eq (pc := 119) (tgt := 131) dX9_play_119 rfl (fun h_119 => ?_) (fun h_119 => ?_)
                · refine G_bipush (pc := 131) (x := (-4)) dX9_play_131 rfl (by decide) ?_
                  exact G_ireturn (pc := 133) dX9_play_133 (qeq' (by unfold playRM; grind) (by unfold playM; grind))
                · refine G_aload_n (pc := 122) dX9_play_122 rfl ?_
                  refine G_getI (pc := 123) dX9_play_123 fk_X9_94 rfl rfl rfl ?_
                  refine G_bipush (pc := 126) (x := 60) dX9_play_126 rfl (by decide) ?_
                  refine G_icmp_ne (pc := 128) (tgt := 134) dX9_play_128 rfl (fun h_128 => ?_) (fun h_128 => ?_)
                  · refine G_iload_n (pc := 134) dX9_play_134 rfl ?_
                    refine G_bipush (pc := 135) (x := (-2)) dX9_play_135 rfl (by decide) ?_
                    refine G_icmp_ne (pc := 137) (tgt := 154) dX9_play_137 rfl (fun h_137 => ?_) (fun h_137 => ?_)
                    · refine G_iload_n (pc := 154) dX9_play_154 rfl ?_
                      refine G_istore (pc := 155) dX9_play_155 (Nat.le_of_ble_eq_true rfl) rfl ?_
                      refine G_aload_n (pc := 157) dX9_play_157 rfl ?_
                      refine G_iload_n (pc := 158) dX9_play_158 rfl ?_
                      refine G_iload_n (pc := 159) dX9_play_159 rfl ?_
                      refine G_iload (pc := 160) dX9_play_160 rfl ?_
                      refine G_iconst (pc := 162) dX9_play_162 (by decide) ?_
                      refine G_cV1 (pc := 163) (c_X9_lay _ _ _ _ _ (by first | omega | (rw [addRoomM_2188]; omega)) (by exact Or.inl rfl)) dX9_play_163 ml_X9_109 rfl rfl rfl (by decide) (Nat.le_of_ble_eq_true rfl) ?_
                      refine G_istore (pc := 166) dX9_play_166 (Nat.le_of_ble_eq_true rfl) rfl ?_
                      refine G_iload (pc := 168) dX9_play_168 rfl ?_
                      exact G_ireturn (pc := 170) dX9_play_170 (qeq' (by unfold playRM; grind) (by unfold playM; grind))
                    · refine G_aload_n (pc := 140) dX9_play_140 rfl ?_
                      refine G_iconst (pc := 141) dX9_play_141 (by decide) ?_
                      refine G_aload_n (pc := 142) dX9_play_142 rfl ?_
                      refine G_getP (pc := 143) dX9_play_143 fk_X9_13 rfl rfl rfl ?_
                      refine G_iload_n (pc := 146) dX9_play_146 rfl ?_
                      refine G_iaload (pc := 147) dX9_play_147 rfl rfl (by omega) ?_
                      have hga := hg a (by omega) (by omega)
                      have hrn := roomM_new t (t 33 a) hga (by omega)
                      refine G_cV1 (pc := 148) (c_X9_room _ _ _ (by omega)) dX9_play_148 ml_X9_123 rfl rfl rfl (by decide) (Nat.le_of_ble_eq_true rfl) ?_
                      rw [hrn.1, hrn.2]
                      refine G_goto (pc := 151) (tgt := 155) dX9_play_151 rfl ?_
                      refine G_istore (pc := 155) dX9_play_155 (Nat.le_of_ble_eq_true rfl) rfl ?_
                      refine G_aload_n (pc := 157) dX9_play_157 rfl ?_
                      refine G_iload_n (pc := 158) dX9_play_158 rfl ?_
                      refine G_iload_n (pc := 159) dX9_play_159 rfl ?_
                      refine G_iload (pc := 160) dX9_play_160 rfl ?_
                      refine G_iconst (pc := 162) dX9_play_162 (by decide) ?_
                      refine G_cV1 (pc := 163) (c_X9_lay _ _ _ _ _ (by first | omega | (rw [addRoomM_2188]; omega)) (by exact Or.inl rfl)) dX9_play_163 ml_X9_109 rfl rfl rfl (by decide) (Nat.le_of_ble_eq_true rfl) ?_
                      refine G_istore (pc := 166) dX9_play_166 (Nat.le_of_ble_eq_true rfl) rfl ?_
                      refine G_iload (pc := 168) dX9_play_168 rfl ?_
                      exact G_ireturn (pc := 170) dX9_play_170 (qeq' (by unfold playRM; grind) (by unfold playM; grind))
                  · refine G_bipush (pc := 131) (x := (-4)) dX9_play_131 rfl (by decide) ?_
                    exact G_ireturn (pc := 133) dX9_play_133 (qeq' (by unfold playRM; grind) (by unfold playM; grind))
            · refine G_aload_n (pc := 97) dX9_play_97 rfl ?_
              refine G_getP (pc := 98) dX9_play_98 fk_X9_28 rfl rfl rfl ?_
              refine G_iload (pc := 101) dX9_play_101 rfl ?_
              refine G_iconst (pc := 103) dX9_play_103 (by decide) ?_
              refine G_bastore (pc := 104) dX9_play_104 rfl rfl (by omega) (by first | exact Or.inl rfl | exact Or.inr rfl | omega) ?_
              refine G_iload_n (pc := 105) dX9_play_105 rfl ?_
              exact G_ireturn (pc := 106) dX9_play_106 (qeq' (by unfold playRM; grind) (by unfold playM; grind))
        · refine G_iload_n (pc := 47) dX9_play_47 rfl ?_
          refine G_bipush (pc := 48) (x := (-2)) dX9_play_48 rfl (by decide) ?_
          refine G_icmp_eq (pc := 50) (tgt := 65) dX9_play_50 rfl (fun h_50 => ?_) (fun h_50 => ?_)
          · refine G_bipush (pc := 65) (x := (-3)) dX9_play_65 rfl (by decide) ?_
            refine G_goto (pc := 67) (tgt := 71) dX9_play_67 rfl ?_
            exact G_ireturn (pc := 71) dX9_play_71 (qeq' (by unfold playRM; grind) (by unfold playM; grind))
          · refine G_aload_n (pc := 53) dX9_play_53 rfl ?_
            refine G_iload (pc := 54) dX9_play_54 rfl ?_
            refine G_iload_n (pc := 56) dX9_play_56 rfl ?_
            refine G_iload_n (pc := 57) dX9_play_57 rfl ?_
            refine G_cV1 (pc := 58) (c_X9_endOf _ _ _ _ (by omega)) dX9_play_58 ml_X9_116 rfl rfl rfl (by decide) (Nat.le_of_ble_eq_true rfl) ?_
            refine G_iload_n (pc := 61) dX9_play_61 rfl ?_
            refine G_icmp_eq (pc := 62) (tgt := 70) dX9_play_62 rfl (fun h_62 => ?_) (fun h_62 => ?_)
            · refine G_iload_n (pc := 70) dX9_play_70 rfl ?_
              exact G_ireturn (pc := 71) dX9_play_71 (qeq' (by unfold playRM; grind) (by unfold playM; grind))
            · refine G_bipush (pc := 65) (x := (-3)) dX9_play_65 rfl (by decide) ?_
              refine G_goto (pc := 67) (tgt := 71) dX9_play_67 rfl ?_
              exact G_ireturn (pc := 71) dX9_play_71 (qeq' (by unfold playRM; grind) (by unfold playM; grind))
      · refine G_aload_n (pc := 24) dX9_play_24 rfl ?_
        refine G_iload_n (pc := 25) dX9_play_25 rfl ?_
        refine G_cV1 (pc := 26) (c_X9_isRoom _ _ (by omega)) dX9_play_26 ml_X9_101 rfl rfl rfl (by decide) (Nat.le_of_ble_eq_true rfl) ?_
        refine G_if_ne (pc := 29) (tgt := 34) dX9_play_29 rfl (fun h_29 => ?_) (fun h_29 => ?_)
        · try simp only [bq0, ne_eq, Classical.not_not] at h_29
          refine G_aload_n (pc := 34) dX9_play_34 rfl ?_
          refine G_iload_n (pc := 35) dX9_play_35 rfl ?_
          refine G_iload_n (pc := 36) dX9_play_36 rfl ?_
          refine G_cV1 (pc := 37) (c_X9_outOf _ _ _ (by exact hS)) dX9_play_37 ml_X9_105 rfl rfl rfl (by decide) (Nat.le_of_ble_eq_true rfl) ?_
          refine G_istore (pc := 40) dX9_play_40 (Nat.le_of_ble_eq_true rfl) rfl ?_
          refine G_iload (pc := 42) dX9_play_42 rfl ?_
          refine G_if_lt (pc := 44) (tgt := 72) dX9_play_44 rfl (fun h_44 => ?_) (fun h_44 => ?_)
          · refine G_iload_n (pc := 72) dX9_play_72 rfl ?_
            refine G_bipush (pc := 73) (x := (-2)) dX9_play_73 rfl (by decide) ?_
            refine G_icmp_ne (pc := 75) (tgt := 83) dX9_play_75 rfl (fun h_75 => ?_) (fun h_75 => ?_)
            · refine G_aload_n (pc := 83) dX9_play_83 rfl ?_
              refine G_iload_n (pc := 84) dX9_play_84 rfl ?_
              refine G_iload_n (pc := 85) dX9_play_85 rfl ?_
              refine G_iload_n (pc := 86) dX9_play_86 rfl ?_
              refine G_cV1 (pc := 87) (c_X9_backOf _ _ _ _ (by exact hS) (by omega)) dX9_play_87 ml_X9_120 rfl rfl rfl (by decide) (Nat.le_of_ble_eq_true rfl) ?_
              refine G_istore (pc := 90) dX9_play_90 (Nat.le_of_ble_eq_true rfl) rfl ?_
              refine G_iload (pc := 92) dX9_play_92 rfl ?_
              refine G_if_lt (pc := 94) (tgt := 107) dX9_play_94 rfl (fun h_94 => ?_) (fun h_94 => ?_)
              · refine G_iload_n (pc := 107) dX9_play_107 rfl ?_
                refine G_bipush (pc := 108) (x := (-2)) dX9_play_108 rfl (by decide) ?_
                refine G_icmp_ne (pc := 110) (tgt := 122) dX9_play_110 rfl (fun h_110 => ?_) (fun h_110 => ?_)
                · refine G_aload_n (pc := 122) dX9_play_122 rfl ?_
                  refine G_getI (pc := 123) dX9_play_123 fk_X9_94 rfl rfl rfl ?_
                  refine G_bipush (pc := 126) (x := 60) dX9_play_126 rfl (by decide) ?_
                  refine G_icmp_ne (pc := 128) (tgt := 134) dX9_play_128 rfl (fun h_128 => ?_) (fun h_128 => ?_)
                  · refine G_iload_n (pc := 134) dX9_play_134 rfl ?_
                    refine G_bipush (pc := 135) (x := (-2)) dX9_play_135 rfl (by decide) ?_
                    refine G_icmp_ne (pc := 137) (tgt := 154) dX9_play_137 rfl (fun h_137 => ?_) (fun h_137 => ?_)
                    · refine G_iload_n (pc := 154) dX9_play_154 rfl ?_
                      refine G_istore (pc := 155) dX9_play_155 (Nat.le_of_ble_eq_true rfl) rfl ?_
                      refine G_aload_n (pc := 157) dX9_play_157 rfl ?_
                      refine G_iload_n (pc := 158) dX9_play_158 rfl ?_
                      refine G_iload_n (pc := 159) dX9_play_159 rfl ?_
                      refine G_iload (pc := 160) dX9_play_160 rfl ?_
                      refine G_iconst (pc := 162) dX9_play_162 (by decide) ?_
                      refine G_cV1 (pc := 163) (c_X9_lay _ _ _ _ _ (by first | omega | (rw [addRoomM_2188]; omega)) (by exact Or.inl rfl)) dX9_play_163 ml_X9_109 rfl rfl rfl (by decide) (Nat.le_of_ble_eq_true rfl) ?_
                      refine G_istore (pc := 166) dX9_play_166 (Nat.le_of_ble_eq_true rfl) rfl ?_
                      refine G_iload (pc := 168) dX9_play_168 rfl ?_
                      exact G_ireturn (pc := 170) dX9_play_170 (qeq' (by unfold playRM; grind) (by unfold playM; grind))
                    · refine G_aload_n (pc := 140) dX9_play_140 rfl ?_
                      refine G_iconst (pc := 141) dX9_play_141 (by decide) ?_
                      refine G_aload_n (pc := 142) dX9_play_142 rfl ?_
                      refine G_getP (pc := 143) dX9_play_143 fk_X9_13 rfl rfl rfl ?_
                      refine G_iload_n (pc := 146) dX9_play_146 rfl ?_
                      refine G_iaload (pc := 147) dX9_play_147 rfl rfl (by omega) ?_
                      have hga := hg a (by omega) (by omega)
                      have hrn := roomM_new t (t 33 a) hga (by omega)
                      refine G_cV1 (pc := 148) (c_X9_room _ _ _ (by omega)) dX9_play_148 ml_X9_123 rfl rfl rfl (by decide) (Nat.le_of_ble_eq_true rfl) ?_
                      rw [hrn.1, hrn.2]
                      refine G_goto (pc := 151) (tgt := 155) dX9_play_151 rfl ?_
                      refine G_istore (pc := 155) dX9_play_155 (Nat.le_of_ble_eq_true rfl) rfl ?_
                      refine G_aload_n (pc := 157) dX9_play_157 rfl ?_
                      refine G_iload_n (pc := 158) dX9_play_158 rfl ?_
                      refine G_iload_n (pc := 159) dX9_play_159 rfl ?_
                      refine G_iload (pc := 160) dX9_play_160 rfl ?_
                      refine G_iconst (pc := 162) dX9_play_162 (by decide) ?_
                      refine G_cV1 (pc := 163) (c_X9_lay _ _ _ _ _ (by first | omega | (rw [addRoomM_2188]; omega)) (by exact Or.inl rfl)) dX9_play_163 ml_X9_109 rfl rfl rfl (by decide) (Nat.le_of_ble_eq_true rfl) ?_
                      refine G_istore (pc := 166) dX9_play_166 (Nat.le_of_ble_eq_true rfl) rfl ?_
                      refine G_iload (pc := 168) dX9_play_168 rfl ?_
                      exact G_ireturn (pc := 170) dX9_play_170 (qeq' (by unfold playRM; grind) (by unfold playM; grind))
                  · refine G_bipush (pc := 131) (x := (-4)) dX9_play_131 rfl (by decide) ?_
                    exact G_ireturn (pc := 133) dX9_play_133 (qeq' (by unfold playRM; grind) (by unfold playM; grind))
                · refine G_aload_n (pc := 113) dX9_play_113 rfl ?_
                  refine G_getI (pc := 114) dX9_play_114 fk_X9_86 rfl rfl rfl ?_
                  refine G_bipush (pc := 117) (x := 24) dX9_play_117 rfl (by decide) ?_
                  refine G_icmp_eq (pc := 119) (tgt := 131) dX9_play_119 rfl (fun h_119 => ?_) (fun h_119 => ?_)
                  · refine G_bipush (pc := 131) (x := (-4)) dX9_play_131 rfl (by decide) ?_
                    exact G_ireturn (pc := 133) dX9_play_133 (qeq' (by unfold playRM; grind) (by unfold playM; grind))
                  · refine G_aload_n (pc := 122) dX9_play_122 rfl ?_
                    refine G_getI (pc := 123) dX9_play_123 fk_X9_94 rfl rfl rfl ?_
                    refine G_bipush (pc := 126) (x := 60) dX9_play_126 rfl (by decide) ?_
                    refine G_icmp_ne (pc := 128) (tgt := 134) dX9_play_128 rfl (fun h_128 => ?_) (fun h_128 => ?_)
                    · refine G_iload_n (pc := 134) dX9_play_134 rfl ?_
                      refine G_bipush (pc := 135) (x := (-2)) dX9_play_135 rfl (by decide) ?_
                      refine G_icmp_ne (pc := 137) (tgt := 154) dX9_play_137 rfl (fun h_137 => ?_) (fun h_137 => ?_)
                      · refine G_iload_n (pc := 154) dX9_play_154 rfl ?_
                        refine G_istore (pc := 155) dX9_play_155 (Nat.le_of_ble_eq_true rfl) rfl ?_
                        refine G_aload_n (pc := 157) dX9_play_157 rfl ?_
                        refine G_iload_n (pc := 158) dX9_play_158 rfl ?_
                        refine G_iload_n (pc := 159) dX9_play_159 rfl ?_
                        refine G_iload (pc := 160) dX9_play_160 rfl ?_
                        refine G_iconst (pc := 162) dX9_play_162 (by decide) ?_
                        refine G_cV1 (pc := 163) (c_X9_lay _ _ _ _ _ (by first | omega | (rw [addRoomM_2188]; omega)) (by exact Or.inl rfl)) dX9_play_163 ml_X9_109 rfl rfl rfl (by decide) (Nat.le_of_ble_eq_true rfl) ?_
                        refine G_istore (pc := 166) dX9_play_166 (Nat.le_of_ble_eq_true rfl) rfl ?_
                        refine G_iload (pc := 168) dX9_play_168 rfl ?_
                        exact G_ireturn (pc := 170) dX9_play_170 (qeq' (by unfold playRM; grind) (by unfold playM; grind))
                      · refine G_aload_n (pc := 140) dX9_play_140 rfl ?_
                        refine G_iconst (pc := 141) dX9_play_141 (by decide) ?_
                        refine G_aload_n (pc := 142) dX9_play_142 rfl ?_
                        refine G_getP (pc := 143) dX9_play_143 fk_X9_13 rfl rfl rfl ?_
                        refine G_iload_n (pc := 146) dX9_play_146 rfl ?_
                        refine G_iaload (pc := 147) dX9_play_147 rfl rfl (by omega) ?_
                        have hga := hg a (by omega) (by omega)
                        have hrn := roomM_new t (t 33 a) hga (by omega)
                        refine G_cV1 (pc := 148) (c_X9_room _ _ _ (by omega)) dX9_play_148 ml_X9_123 rfl rfl rfl (by decide) (Nat.le_of_ble_eq_true rfl) ?_
                        rw [hrn.1, hrn.2]
                        refine G_goto (pc := 151) (tgt := 155) dX9_play_151 rfl ?_
                        refine G_istore (pc := 155) dX9_play_155 (Nat.le_of_ble_eq_true rfl) rfl ?_
                        refine G_aload_n (pc := 157) dX9_play_157 rfl ?_
                        refine G_iload_n (pc := 158) dX9_play_158 rfl ?_
                        refine G_iload_n (pc := 159) dX9_play_159 rfl ?_
                        refine G_iload (pc := 160) dX9_play_160 rfl ?_
                        refine G_iconst (pc := 162) dX9_play_162 (by decide) ?_
                        refine G_cV1 (pc := 163) (c_X9_lay _ _ _ _ _ (by first | omega | (rw [addRoomM_2188]; omega)) (by exact Or.inl rfl)) dX9_play_163 ml_X9_109 rfl rfl rfl (by decide) (Nat.le_of_ble_eq_true rfl) ?_
                        refine G_istore (pc := 166) dX9_play_166 (Nat.le_of_ble_eq_true rfl) rfl ?_
                        refine G_iload (pc := 168) dX9_play_168 rfl ?_
                        exact G_ireturn (pc := 170) dX9_play_170 (qeq' (by unfold playRM; grind) (by unfold playM; grind))
                    · refine G_bipush (pc := 131) (x := (-4)) dX9_play_131 rfl (by decide) ?_
                      exact G_ireturn (pc := 133) dX9_play_133 (qeq' (by unfold playRM; grind) (by unfold playM; grind))
              · refine G_aload_n (pc := 97) dX9_play_97 rfl ?_
                refine G_getP (pc := 98) dX9_play_98 fk_X9_28 rfl rfl rfl ?_
                refine G_iload (pc := 101) dX9_play_101 rfl ?_
                refine G_iconst (pc := 103) dX9_play_103 (by decide) ?_
                refine G_bastore (pc := 104) dX9_play_104 rfl rfl (by omega) (by first | exact Or.inl rfl | exact Or.inr rfl | omega) ?_
                refine G_iload_n (pc := 105) dX9_play_105 rfl ?_
                exact G_ireturn (pc := 106) dX9_play_106 (qeq' (by unfold playRM; grind) (by unfold playM; grind))
            · refine G_bipush (pc := 78) (x := (-2)) dX9_play_78 rfl (by decide) ?_
              refine G_goto (pc := 80) (tgt := 90) dX9_play_80 rfl ?_
              refine G_istore (pc := 90) dX9_play_90 (Nat.le_of_ble_eq_true rfl) rfl ?_
              refine G_iload (pc := 92) dX9_play_92 rfl ?_
              refine G_if_lt (pc := 94) (tgt := 107) dX9_play_94 rfl (fun h_94 => ?_) (fun h_94 => ?_)
              · refine G_iload_n (pc := 107) dX9_play_107 rfl ?_
                refine G_bipush (pc := 108) (x := (-2)) dX9_play_108 rfl (by decide) ?_
                refine G_icmp_ne (pc := 110) (tgt := 122) dX9_play_110 rfl (fun h_110 => ?_) (fun h_110 => ?_)
                · refine G_aload_n (pc := 122) dX9_play_122 rfl ?_
                  refine G_getI (pc := 123) dX9_play_123 fk_X9_94 rfl rfl rfl ?_
                  refine G_bipush (pc := 126) (x := 60) dX9_play_126 rfl (by decide) ?_
                  refine G_icmp_ne (pc := 128) (tgt := 134) dX9_play_128 rfl (fun h_128 => ?_) (fun h_128 => ?_)
                  · refine G_iload_n (pc := 134) dX9_play_134 rfl ?_
                    refine G_bipush (pc := 135) (x := (-2)) dX9_play_135 rfl (by decide) ?_
                    refine G_icmp_ne (pc := 137) (tgt := 154) dX9_play_137 rfl (fun h_137 => ?_) (fun h_137 => ?_)
                    · refine G_iload_n (pc := 154) dX9_play_154 rfl ?_
                      refine G_istore (pc := 155) dX9_play_155 (Nat.le_of_ble_eq_true rfl) rfl ?_
                      refine G_aload_n (pc := 157) dX9_play_157 rfl ?_
                      refine G_iload_n (pc := 158) dX9_play_158 rfl ?_
                      refine G_iload_n (pc := 159) dX9_play_159 rfl ?_
                      refine G_iload (pc := 160) dX9_play_160 rfl ?_
                      refine G_iconst (pc := 162) dX9_play_162 (by decide) ?_
                      refine G_cV1 (pc := 163) (c_X9_lay _ _ _ _ _ (by first | omega | (rw [addRoomM_2188]; omega)) (by exact Or.inl rfl)) dX9_play_163 ml_X9_109 rfl rfl rfl (by decide) (Nat.le_of_ble_eq_true rfl) ?_
                      refine G_istore (pc := 166) dX9_play_166 (Nat.le_of_ble_eq_true rfl) rfl ?_
                      refine G_iload (pc := 168) dX9_play_168 rfl ?_
                      exact G_ireturn (pc := 170) dX9_play_170 (qeq' (by unfold playRM; grind) (by unfold playM; grind))
                    · refine G_aload_n (pc := 140) dX9_play_140 rfl ?_
                      refine G_iconst (pc := 141) dX9_play_141 (by decide) ?_
                      refine G_aload_n (pc := 142) dX9_play_142 rfl ?_
                      refine G_getP (pc := 143) dX9_play_143 fk_X9_13 rfl rfl rfl ?_
                      refine G_iload_n (pc := 146) dX9_play_146 rfl ?_
                      refine G_iaload (pc := 147) dX9_play_147 rfl rfl (by omega) ?_
                      have hga := hg a (by omega) (by omega)
                      have hrn := roomM_new t (t 33 a) hga (by omega)
                      refine G_cV1 (pc := 148) (c_X9_room _ _ _ (by omega)) dX9_play_148 ml_X9_123 rfl rfl rfl (by decide) (Nat.le_of_ble_eq_true rfl) ?_
                      rw [hrn.1, hrn.2]
                      refine G_goto (pc := 151) (tgt := 155) dX9_play_151 rfl ?_
                      refine G_istore (pc := 155) dX9_play_155 (Nat.le_of_ble_eq_true rfl) rfl ?_
                      refine G_aload_n (pc := 157) dX9_play_157 rfl ?_
                      refine G_iload_n (pc := 158) dX9_play_158 rfl ?_
                      refine G_iload_n (pc := 159) dX9_play_159 rfl ?_
                      refine G_iload (pc := 160) dX9_play_160 rfl ?_
                      refine G_iconst (pc := 162) dX9_play_162 (by decide) ?_
                      refine G_cV1 (pc := 163) (c_X9_lay _ _ _ _ _ (by first | omega | (rw [addRoomM_2188]; omega)) (by exact Or.inl rfl)) dX9_play_163 ml_X9_109 rfl rfl rfl (by decide) (Nat.le_of_ble_eq_true rfl) ?_
                      refine G_istore (pc := 166) dX9_play_166 (Nat.le_of_ble_eq_true rfl) rfl ?_
                      refine G_iload (pc := 168) dX9_play_168 rfl ?_
                      exact G_ireturn (pc := 170) dX9_play_170 (qeq' (by unfold playRM; grind) (by unfold playM; grind))
                  · refine G_bipush (pc := 131) (x := (-4)) dX9_play_131 rfl (by decide) ?_
                    exact G_ireturn (pc := 133) dX9_play_133 (qeq' (by unfold playRM; grind) (by unfold playM; grind))
                · refine G_aload_n (pc := 113) dX9_play_113 rfl ?_
                  refine G_getI (pc := 114) dX9_play_114 fk_X9_86 rfl rfl rfl ?_
                  refine G_bipush (pc := 117) (x := 24) dX9_play_117 rfl (by decide) ?_
                  refine G_icmp_eq (pc := 119) (tgt := 131) dX9_play_119 rfl (fun h_119 => ?_) (fun h_119 => ?_)
                  · refine G_bipush (pc := 131) (x := (-4)) dX9_play_131 rfl (by decide) ?_
                    exact G_ireturn (pc := 133) dX9_play_133 (qeq' (by unfold playRM; grind) (by unfold playM; grind))
                  · refine G_aload_n (pc := 122) dX9_play_122 rfl ?_
                    refine G_getI (pc := 123) dX9_play_123 fk_X9_94 rfl rfl rfl ?_
                    refine G_bipush (pc := 126) (x := 60) dX9_play_126 rfl (by decide) ?_
                    refine G_icmp_ne (pc := 128) (tgt := 134) dX9_play_128 rfl (fun h_128 => ?_) (fun h_128 => ?_)
                    · refine G_iload_n (pc := 134) dX9_play_134 rfl ?_
                      refine G_bipush (pc := 135) (x := (-2)) dX9_play_135 rfl (by decide) ?_
                      refine G_icmp_ne (pc := 137) (tgt := 154) dX9_play_137 rfl (fun h_137 => ?_) (fun h_137 => ?_)
                      · refine G_iload_n (pc := 154) dX9_play_154 rfl ?_
                        refine G_istore (pc := 155) dX9_play_155 (Nat.le_of_ble_eq_true rfl) rfl ?_
                        refine G_aload_n (pc := 157) dX9_play_157 rfl ?_
                        refine G_iload_n (pc := 158) dX9_play_158 rfl ?_
                        refine G_iload_n (pc := 159) dX9_play_159 rfl ?_
                        refine G_iload (pc := 160) dX9_play_160 rfl ?_
                        refine G_iconst (pc := 162) dX9_play_162 (by decide) ?_
                        refine G_cV1 (pc := 163) (c_X9_lay _ _ _ _ _ (by first | omega | (rw [addRoomM_2188]; omega)) (by exact Or.inl rfl)) dX9_play_163 ml_X9_109 rfl rfl rfl (by decide) (Nat.le_of_ble_eq_true rfl) ?_
                        refine G_istore (pc := 166) dX9_play_166 (Nat.le_of_ble_eq_true rfl) rfl ?_
                        refine G_iload (pc := 168) dX9_play_168 rfl ?_
                        exact G_ireturn (pc := 170) dX9_play_170 (qeq' (by unfold playRM; grind) (by unfold playM; grind))
                      · refine G_aload_n (pc := 140) dX9_play_140 rfl ?_
                        refine G_iconst (pc := 141) dX9_play_141 (by decide) ?_
                        refine G_aload_n (pc := 142) dX9_play_142 rfl ?_
                        refine G_getP (pc := 143) dX9_play_143 fk_X9_13 rfl rfl rfl ?_
                        refine G_iload_n (pc := 146) dX9_play_146 rfl ?_
                        refine G_iaload (pc := 147) dX9_play_147 rfl rfl (by omega) ?_
                        have hga := hg a (by omega) (by omega)
                        have hrn := roomM_new t (t 33 a) hga (by omega)
                        refine G_cV1 (pc := 148) (c_X9_room _ _ _ (by omega)) dX9_play_148 ml_X9_123 rfl rfl rfl (by decide) (Nat.le_of_ble_eq_true rfl) ?_
                        rw [hrn.1, hrn.2]
                        refine G_goto (pc := 151) (tgt := 155) dX9_play_151 rfl ?_
                        refine G_istore (pc := 155) dX9_play_155 (Nat.le_of_ble_eq_true rfl) rfl ?_
                        refine G_aload_n (pc := 157) dX9_play_157 rfl ?_
                        refine G_iload_n (pc := 158) dX9_play_158 rfl ?_
                        refine G_iload_n (pc := 159) dX9_play_159 rfl ?_
                        refine G_iload (pc := 160) dX9_play_160 rfl ?_
                        refine G_iconst (pc := 162) dX9_play_162 (by decide) ?_
                        refine G_cV1 (pc := 163) (c_X9_lay _ _ _ _ _ (by first | omega | (rw [addRoomM_2188]; omega)) (by exact Or.inl rfl)) dX9_play_163 ml_X9_109 rfl rfl rfl (by decide) (Nat.le_of_ble_eq_true rfl) ?_
                        refine G_istore (pc := 166) dX9_play_166 (Nat.le_of_ble_eq_true rfl) rfl ?_
                        refine G_iload (pc := 168) dX9_play_168 rfl ?_
                        exact G_ireturn (pc := 170) dX9_play_170 (qeq' (by unfold playRM; grind) (by unfold playM; grind))
                    · refine G_bipush (pc := 131) (x := (-4)) dX9_play_131 rfl (by decide) ?_
                      exact G_ireturn (pc := 133) dX9_play_133 (qeq' (by unfold playRM; grind) (by unfold playM; grind))
              · refine G_aload_n (pc := 97) dX9_play_97 rfl ?_
                refine G_getP (pc := 98) dX9_play_98 fk_X9_28 rfl rfl rfl ?_
                refine G_iload (pc := 101) dX9_play_101 rfl ?_
                refine G_iconst (pc := 103) dX9_play_103 (by decide) ?_
                refine G_bastore (pc := 104) dX9_play_104 rfl rfl (by omega) (by first | exact Or.inl rfl | exact Or.inr rfl | omega) ?_
                refine G_iload_n (pc := 105) dX9_play_105 rfl ?_
                exact G_ireturn (pc := 106) dX9_play_106 (qeq' (by unfold playRM; grind) (by unfold playM; grind))
          · refine G_iload_n (pc := 47) dX9_play_47 rfl ?_
            refine G_bipush (pc := 48) (x := (-2)) dX9_play_48 rfl (by decide) ?_
            refine G_icmp_eq (pc := 50) (tgt := 65) dX9_play_50 rfl (fun h_50 => ?_) (fun h_50 => ?_)
            · refine G_bipush (pc := 65) (x := (-3)) dX9_play_65 rfl (by decide) ?_
              refine G_goto (pc := 67) (tgt := 71) dX9_play_67 rfl ?_
              exact G_ireturn (pc := 71) dX9_play_71 (qeq' (by unfold playRM; grind) (by unfold playM; grind))
            · refine G_aload_n (pc := 53) dX9_play_53 rfl ?_
              refine G_iload (pc := 54) dX9_play_54 rfl ?_
              refine G_iload_n (pc := 56) dX9_play_56 rfl ?_
              refine G_iload_n (pc := 57) dX9_play_57 rfl ?_
              refine G_cV1 (pc := 58) (c_X9_endOf _ _ _ _ (by omega)) dX9_play_58 ml_X9_116 rfl rfl rfl (by decide) (Nat.le_of_ble_eq_true rfl) ?_
              refine G_iload_n (pc := 61) dX9_play_61 rfl ?_
              refine G_icmp_eq (pc := 62) (tgt := 70) dX9_play_62 rfl (fun h_62 => ?_) (fun h_62 => ?_)
              · refine G_iload_n (pc := 70) dX9_play_70 rfl ?_
                exact G_ireturn (pc := 71) dX9_play_71 (qeq' (by unfold playRM; grind) (by unfold playM; grind))
              · refine G_bipush (pc := 65) (x := (-3)) dX9_play_65 rfl (by decide) ?_
                refine G_goto (pc := 67) (tgt := 71) dX9_play_67 rfl ?_
                exact G_ireturn (pc := 71) dX9_play_71 (qeq' (by unfold playRM; grind) (by unfold playM; grind))
        · try simp only [bq0, ne_eq, Classical.not_not] at h_29
          refine G_iconst (pc := 32) dX9_play_32 (by decide) ?_
          exact G_ireturn (pc := 33) dX9_play_33 (qeq' (by unfold playRM; grind) (by unfold playM; grind))
def markM (t : Sto) (r x : Int) : Sto := if (0 ≤ r ∧ r < t 2184 0) ∧ (x = -2 ∨ (0 ≤ x ∧ x ≤ 9)) then su t 34 r x else t
theorem c_X9_mark (t : Sto) (r x : Int) (hn : 0 ≤ t 2184 0 ∧ t 2184 0 ≤ 24) : CT yX9_mark cX9_mark 4 (some .int) 2 [mP 31, mI r, mI x] t (fun a t' => a = some (mI (markR (t 2184 0) (t 34) r x)) ∧ t' = markM t r x) := by
  refine CT_of rfl rfl (Nat.le_of_ble_eq_true rfl) (fun E ht has => ?_)
  refine G_aload_n (pc := 0) dX9_mark_0 rfl ?_
  refine G_iload_n (pc := 1) dX9_mark_1 rfl ?_
  refine G_cV1 (pc := 2) (c_X9_isRoom _ _ (by omega)) dX9_mark_2 ml_X9_101 rfl rfl rfl (by decide) (Nat.le_of_ble_eq_true rfl) ?_
  refine G_if_eq (pc := 5) (tgt := 24) dX9_mark_5 rfl (fun h_5 => ?_) (fun h_5 => ?_)
  · try simp only [bq0, ne_eq, Classical.not_not] at h_5
    refine G_iconst (pc := 24) dX9_mark_24 (by decide) ?_
    exact G_ireturn (pc := 25) dX9_mark_25 (qeq' (by unfold markR; grind) (by unfold markM; grind))
  · try simp only [bq0, ne_eq, Classical.not_not] at h_5
    refine G_iload_n (pc := 8) dX9_mark_8 rfl ?_
    refine G_bipush (pc := 9) (x := (-2)) dX9_mark_9 rfl (by decide) ?_
    refine G_icmp_eq (pc := 11) (tgt := 26) dX9_mark_11 rfl (fun h_11 => ?_) (fun h_11 => ?_)
    · refine G_aload_n (pc := 26) dX9_mark_26 rfl ?_
      refine G_getP (pc := 27) dX9_mark_27 fk_X9_16 rfl rfl rfl ?_
      refine G_iload_n (pc := 30) dX9_mark_30 rfl ?_
      refine G_iaload (pc := 31) dX9_mark_31 rfl rfl (by omega) ?_
      refine G_istore_n (pc := 32) dX9_mark_32 (Nat.le_of_ble_eq_true rfl) rfl ?_
      refine G_aload_n (pc := 33) dX9_mark_33 rfl ?_
      refine G_getP (pc := 34) dX9_mark_34 fk_X9_16 rfl rfl rfl ?_
      refine G_iload_n (pc := 37) dX9_mark_37 rfl ?_
      refine G_iload_n (pc := 38) dX9_mark_38 rfl ?_
      refine G_iastore (pc := 39) dX9_mark_39 rfl rfl (by omega) ?_
      refine G_iload_n (pc := 40) dX9_mark_40 rfl ?_
      exact G_ireturn (pc := 41) dX9_mark_41 (qeq' (by unfold markR; grind) (by unfold markM; grind))
    · refine G_iload_n (pc := 14) dX9_mark_14 rfl ?_
      refine G_iconst (pc := 15) dX9_mark_15 (by decide) ?_
      refine G_bipush (pc := 16) (x := 9) dX9_mark_16 rfl (by decide) ?_
      refine G_cS1 (pc := 18) (c_X9_in _ _ _ _) dX9_mark_18 ml_X9_90 rfl (by decide) (Nat.le_of_ble_eq_true rfl) ?_
      refine G_if_ne (pc := 21) (tgt := 26) dX9_mark_21 rfl (fun h_21 => ?_) (fun h_21 => ?_)
      · try simp only [bq0, ne_eq, Classical.not_not] at h_21
        refine G_aload_n (pc := 26) dX9_mark_26 rfl ?_
        refine G_getP (pc := 27) dX9_mark_27 fk_X9_16 rfl rfl rfl ?_
        refine G_iload_n (pc := 30) dX9_mark_30 rfl ?_
        refine G_iaload (pc := 31) dX9_mark_31 rfl rfl (by omega) ?_
        refine G_istore_n (pc := 32) dX9_mark_32 (Nat.le_of_ble_eq_true rfl) rfl ?_
        refine G_aload_n (pc := 33) dX9_mark_33 rfl ?_
        refine G_getP (pc := 34) dX9_mark_34 fk_X9_16 rfl rfl rfl ?_
        refine G_iload_n (pc := 37) dX9_mark_37 rfl ?_
        refine G_iload_n (pc := 38) dX9_mark_38 rfl ?_
        refine G_iastore (pc := 39) dX9_mark_39 rfl rfl (by omega) ?_
        refine G_iload_n (pc := 40) dX9_mark_40 rfl ?_
        exact G_ireturn (pc := 41) dX9_mark_41 (qeq' (by unfold markR; grind) (by unfold markM; grind))
      · try simp only [bq0, ne_eq, Classical.not_not] at h_21
        refine G_iconst (pc := 24) dX9_mark_24 (by decide) ?_
        exact G_ireturn (pc := 25) dX9_mark_25 (qeq' (by unfold markR; grind) (by unfold markM; grind))
theorem c_X9_link (t : Sto) (i w : Int) (hS : SM t) : CT yX9_link cX9_link 3 (some .int) 2 [mP 31, mI i, mI w] t (fun a t' => a = some (mI (linkR (t 2188 0) (t 35) (t 36) (t 37) (t 38) i w)) ∧ t' = t) := by
  refine CT_of rfl rfl (Nat.le_of_ble_eq_true rfl) (fun E ht has => ?_)
  have hk := hS.1
  refine G_aload_n (pc := 0) dX9_link_0 rfl ?_
  refine G_iload_n (pc := 1) dX9_link_1 rfl ?_
  refine G_cV1 (pc := 2) (c_X9_isLink _ _ (by omega)) dX9_link_2 ml_X9_113 rfl rfl rfl (by decide) (Nat.le_of_ble_eq_true rfl) ?_
  refine G_if_eq (pc := 5) (tgt := 17) dX9_link_5 rfl (fun h_5 => ?_) (fun h_5 => ?_)
  · try simp only [bq0, ne_eq, Classical.not_not] at h_5
    refine G_iconst (pc := 17) dX9_link_17 (by decide) ?_
    exact G_ireturn (pc := 18) dX9_link_18 (qeq (by unfold linkR; grind))
  · try simp only [bq0, ne_eq, Classical.not_not] at h_5
    refine G_iload_n (pc := 8) dX9_link_8 rfl ?_
    refine G_iconst (pc := 9) dX9_link_9 (by decide) ?_
    refine G_iconst (pc := 10) dX9_link_10 (by decide) ?_
    refine G_cS1 (pc := 11) (c_X9_in _ _ _ _) dX9_link_11 ml_X9_90 rfl (by decide) (Nat.le_of_ble_eq_true rfl) ?_
    refine G_if_ne (pc := 14) (tgt := 19) dX9_link_14 rfl (fun h_14 => ?_) (fun h_14 => ?_)
    · try simp only [bq0, ne_eq, Classical.not_not] at h_14
      refine G_iload_n (pc := 19) dX9_link_19 rfl ?_
      refine G_if_ne (pc := 20) (tgt := 32) dX9_link_20 rfl (fun h_20 => ?_) (fun h_20 => ?_)
      · try simp only [bq0, ne_eq, Classical.not_not] at h_20
        refine G_iload_n (pc := 32) dX9_link_32 rfl ?_
        refine G_iconst (pc := 33) dX9_link_33 (by decide) ?_
        refine G_icmp_ne (pc := 34) (tgt := 46) dX9_link_34 rfl (fun h_34 => ?_) (fun h_34 => ?_)
        · refine G_iload_n (pc := 46) dX9_link_46 rfl ?_
          refine G_iconst (pc := 47) dX9_link_47 (by decide) ?_
          refine G_icmp_ne (pc := 48) (tgt := 60) dX9_link_48 rfl (fun h_48 => ?_) (fun h_48 => ?_)
          · refine G_iload_n (pc := 60) dX9_link_60 rfl ?_
            refine G_iconst (pc := 61) dX9_link_61 (by decide) ?_
            refine G_icmp_ne (pc := 62) (tgt := 82) dX9_link_62 rfl (fun h_62 => ?_) (fun h_62 => ?_)
            · refine G_aload_n (pc := 82) dX9_link_82 rfl ?_
              refine G_getP (pc := 83) dX9_link_83 fk_X9_19 rfl rfl rfl ?_
              refine G_iload_n (pc := 86) dX9_link_86 rfl ?_
              refine G_iaload (pc := 87) dX9_link_87 rfl rfl (by omega) ?_
              refine G_aload_n (pc := 88) dX9_link_88 rfl ?_
              refine G_getP (pc := 89) dX9_link_89 fk_X9_25 rfl rfl rfl ?_
              refine G_iload_n (pc := 92) dX9_link_92 rfl ?_
              refine G_iaload (pc := 93) dX9_link_93 rfl rfl (by omega) ?_
              refine G_icmp_ne (pc := 94) (tgt := 101) dX9_link_94 rfl (fun h_94 => ?_) (fun h_94 => ?_)
              · refine G_iconst (pc := 101) dX9_link_101 (by decide) ?_
                exact G_ireturn (pc := 102) dX9_link_102 (qeq (by unfold linkR; grind))
              · refine G_iconst (pc := 97) dX9_link_97 (by decide) ?_
                refine G_goto (pc := 98) (tgt := 102) dX9_link_98 rfl ?_
                exact G_ireturn (pc := 102) dX9_link_102 (qeq (by unfold linkR; grind))
            · refine G_aload_n (pc := 65) dX9_link_65 rfl ?_
              refine G_getP (pc := 66) dX9_link_66 fk_X9_28 rfl rfl rfl ?_
              refine G_iload_n (pc := 69) dX9_link_69 rfl ?_
              refine G_baload (pc := 70) dX9_link_70 rfl rfl (by omega) ?_
              refine G_if_eq (pc := 71) (tgt := 78) dX9_link_71 rfl (fun h_71 => ?_) (fun h_71 => ?_)
              · try simp only [bq0, ne_eq, Classical.not_not] at h_71
                refine G_iconst (pc := 78) dX9_link_78 (by decide) ?_
                refine G_goto (pc := 79) (tgt := 102) dX9_link_79 rfl ?_
                exact G_ireturn (pc := 102) dX9_link_102 (qeq (by unfold linkR; grind))
              · try simp only [bq0, ne_eq, Classical.not_not] at h_71
                refine G_iconst (pc := 74) dX9_link_74 (by decide) ?_
                refine G_goto (pc := 75) (tgt := 102) dX9_link_75 rfl ?_
                exact G_ireturn (pc := 102) dX9_link_102 (qeq (by unfold linkR; grind))
          · refine G_aload_n (pc := 51) dX9_link_51 rfl ?_
            refine G_getP (pc := 52) dX9_link_52 fk_X9_25 rfl rfl rfl ?_
            refine G_iload_n (pc := 55) dX9_link_55 rfl ?_
            refine G_iaload (pc := 56) dX9_link_56 rfl rfl (by omega) ?_
            refine G_goto (pc := 57) (tgt := 102) dX9_link_57 rfl ?_
            exact G_ireturn (pc := 102) dX9_link_102 (qeq (by unfold linkR; grind))
        · refine G_aload_n (pc := 37) dX9_link_37 rfl ?_
          refine G_getP (pc := 38) dX9_link_38 fk_X9_22 rfl rfl rfl ?_
          refine G_iload_n (pc := 41) dX9_link_41 rfl ?_
          refine G_iaload (pc := 42) dX9_link_42 rfl rfl (by omega) ?_
          refine G_goto (pc := 43) (tgt := 102) dX9_link_43 rfl ?_
          exact G_ireturn (pc := 102) dX9_link_102 (qeq (by unfold linkR; grind))
      · try simp only [bq0, ne_eq, Classical.not_not] at h_20
        refine G_aload_n (pc := 23) dX9_link_23 rfl ?_
        refine G_getP (pc := 24) dX9_link_24 fk_X9_19 rfl rfl rfl ?_
        refine G_iload_n (pc := 27) dX9_link_27 rfl ?_
        refine G_iaload (pc := 28) dX9_link_28 rfl rfl (by omega) ?_
        refine G_goto (pc := 29) (tgt := 102) dX9_link_29 rfl ?_
        exact G_ireturn (pc := 102) dX9_link_102 (qeq (by unfold linkR; grind))
    · try simp only [bq0, ne_eq, Classical.not_not] at h_14
      refine G_iconst (pc := 17) dX9_link_17 (by decide) ?_
      exact G_ireturn (pc := 18) dX9_link_18 (qeq (by unfold linkR; grind))
theorem c_X9_out (t : Sto) (r w : Int) (hS : SM t) : CT yX9_out cX9_out 3 (some .int) 2 [mP 31, mI r, mI w] t (fun a t' => a = some (mI (outR (t 2184 0) (t 2188 0) (t 35) (t 36) (t 37) (t 38) r w)) ∧ t' = t) := by
  refine CT_of rfl rfl (Nat.le_of_ble_eq_true rfl) (fun E ht has => ?_)
  have hk := hS.1
  refine G_aload_n (pc := 0) dX9_out_0 rfl ?_
  refine G_iload_n (pc := 1) dX9_out_1 rfl ?_
  refine G_cV1 (pc := 2) (c_X9_isRoom _ _ (by omega)) dX9_out_2 ml_X9_101 rfl rfl rfl (by decide) (Nat.le_of_ble_eq_true rfl) ?_
  refine G_if_eq (pc := 5) (tgt := 18) dX9_out_5 rfl (fun h_5 => ?_) (fun h_5 => ?_)
  · try simp only [bq0, ne_eq, Classical.not_not] at h_5
    refine G_iconst (pc := 18) dX9_out_18 (by decide) ?_
    refine G_goto (pc := 19) (tgt := 28) dX9_out_19 rfl ?_
    exact G_ireturn (pc := 28) dX9_out_28 (qeq (by unfold outR; grind))
  · try simp only [bq0, ne_eq, Classical.not_not] at h_5
    refine G_iload_n (pc := 8) dX9_out_8 rfl ?_
    refine G_iconst (pc := 9) dX9_out_9 (by decide) ?_
    refine G_bipush (pc := 10) (x := 9) dX9_out_10 rfl (by decide) ?_
    refine G_cS1 (pc := 12) (c_X9_in _ _ _ _) dX9_out_12 ml_X9_90 rfl (by decide) (Nat.le_of_ble_eq_true rfl) ?_
    refine G_if_ne (pc := 15) (tgt := 22) dX9_out_15 rfl (fun h_15 => ?_) (fun h_15 => ?_)
    · try simp only [bq0, ne_eq, Classical.not_not] at h_15
      refine G_aload_n (pc := 22) dX9_out_22 rfl ?_
      refine G_iload_n (pc := 23) dX9_out_23 rfl ?_
      refine G_iload_n (pc := 24) dX9_out_24 rfl ?_
      refine G_cV1 (pc := 25) (c_X9_outOf _ _ _ (by omega)) dX9_out_25 ml_X9_105 rfl rfl rfl (by decide) (Nat.le_of_ble_eq_true rfl) ?_
      exact G_ireturn (pc := 28) dX9_out_28 (qeq (by unfold outR; grind))
    · try simp only [bq0, ne_eq, Classical.not_not] at h_15
      refine G_iconst (pc := 18) dX9_out_18 (by decide) ?_
      refine G_goto (pc := 19) (tgt := 28) dX9_out_19 rfl ?_
      exact G_ireturn (pc := 28) dX9_out_28 (qeq (by unfold outR; grind))
