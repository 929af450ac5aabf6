/-! MOVING A PART: the reference, walked -/
theorem c_X9_movePart (t : Sto) (east : Int) (hc : 1 ≤ t 2210 0 ∧ t 2210 0 ≤ 24) (ho : ∀ i, 0 ≤ i → i < t 2210 0 → 0 ≤ t 50 i ∧ t 50 i < 24) (hv : ∀ i, 0 ≤ i → i < t 2210 0 → (-1000 ≤ t 53 (t 50 i) ∧ t 53 (t 50 i) ≤ 1000) ∧ (-1000 ≤ t 54 (t 50 i) ∧ t 54 (t 50 i) ≤ 1000)) (he : 0 ≤ east ∧ east ≤ 100000) : CT yX9_movePart cX9_movePart 7 (some .int) 0 [mP 31, mI east] t (fun a t' => a = some (mI (mxO (t 2210 0) (t 50) (t 53) + east - mnO (t 2210 0) (t 50) (t 53) + 2)) ∧ t' = mpS t (t 2210 0) (east - mnO (t 2210 0) (t 50) (t 53)) (mnO (t 2210 0) (t 50) (t 54))) := by
  refine CT_of rfl rfl (Nat.le_of_ble_eq_true rfl) (fun E ht has => ?_)
  have v0 := hv 0 (by omega) (by omega)
  have o0 := ho 0 (by omega) (by omega)
  have bx := mnO_b (c := t 2210 0) (B := 1000) (o := t 50) (f := t 53) hc.1 (fun i i0 i1 => (hv i i0 i1).1) (l := 1) (by omega) (by omega) v0.1
  have bY := mnO_b (c := t 2210 0) (B := 1000) (o := t 50) (f := t 54) hc.1 (fun i i0 i1 => (hv i i0 i1).2) (l := 1) (by omega) (by omega) v0.2
  have hle : mnO (t 2210 0) (t 50) (t 53) ≤ t 53 (t 50 0) := itr_inv (F := fun (i m : Int) => if t 53 (t 50 i) < m then t 53 (t 50 i) else m) (P := fun m => m ≤ t 53 (t 50 0)) (l0 := 1) (fun i m _ _ hm => by
    show (if t 53 (t 50 i) < m then t 53 (t 50 i) else m) ≤ _
    split <;> omega) 1 hc.1 _ (Int.le_refl _) (Int.le_refl _)
  have dX : mnO (t 2210 0) (t 50) (t 53) = itr (fun (i m : Int) => if t 53 (t 50 i) < m then t 53 (t 50 i) else m) 0 (t 2210 0) (t 53 (t 50 0)) := by
    rw [itr_lt (by omega), if_neg (by omega)]; rfl
  have dY : mnO (t 2210 0) (t 50) (t 54) = itr (fun (i m : Int) => if t 54 (t 50 i) < m then t 54 (t 50 i) else m) 0 (t 2210 0) (t 54 (t 50 0)) := by
    rw [itr_lt (by omega), if_neg (by omega)]; rfl
  have dG : mxO (t 2210 0) (t 50) (t 53) = itr (fun (i m : Int) => if m < t 53 (t 50 i) then t 53 (t 50 i) else m) 1 (t 2210 0) (t 53 (t 50 0)) := rfl
  have bx' : -1000 ≤ mnO (t 2210 0) (t 50) (t 53) ∧ mnO (t 2210 0) (t 50) (t 53) ≤ 1000 := bx
  have bY' : -1000 ≤ mnO (t 2210 0) (t 50) (t 54) ∧ mnO (t 2210 0) (t 50) (t 54) ≤ 1000 := bY
  clear bx bY
  generalize mnO (t 2210 0) (t 50) (t 53) = LX at *
  generalize mxO (t 2210 0) (t 50) (t 53) = GX at *
  generalize mnO (t 2210 0) (t 50) (t 54) = LY at *
  have loop2 : ∀ i, i ≤ t 2210 0 → ∀ (rn : Int) (o6 : Option MV), 0 ≤ i → (-200000 ≤ rn ∧ rn ≤ 200000) → ((i = 0 ∧ rn = east) ∨ (1 ≤ i ∧ itr (fun (i m : Int) => if m < t 53 (t 50 i) then t 53 (t 50 i) else m) i (t 2210 0) (rn - east + LX - 2) = GX)) → G E cX9_movePart RX9 (some .int) 0 114 [some (mP 31), some (mI east), some (mI LX), some (mI LY), some (mI rn), some (mI i), o6] [] (mpS t i (east - LX) LY) (fun a t' => a = some (mI (GX + east - LX + 2)) ∧ t' = mpS t (t 2210 0) (east - LX) LY) := by
    refine up_ind (fun i hi ih rn o6 h0 hrn hR => ?_)
    have p1 := mpS_ne t i (east - LX) LY (w := 2210) (by decide)
    have p2 := mpS_ne t i (east - LX) LY (w := 50) (by decide)
    have p3 := mpS_ne t i (east - LX) LY (w := 53) (by decide)
    have p4 := mpS_ne t i (east - LX) LY (w := 54) (by decide)
    have p5 := mpS_ne t i (east - LX) LY (w := 55) (by decide)
    have nxt : i < t 2210 0 → ∀ v, v = (if rn < t 53 (t 50 i) + (east - LX) + 2 then t 53 (t 50 i) + (east - LX) + 2 else rn) → itr (fun (i m : Int) => if m < t 53 (t 50 i) then t 53 (t 50 i) else m) (i + 1) (t 2210 0) (v - east + LX - 2) = GX := by
      intro hlt v hvv
      rcases hR with ⟨z1, z2⟩ | ⟨z1, z2⟩
      · subst z1
        rw [if_pos (by omega)] at hvv
        rw [dG, hvv]
        congr 1
        omega
      · rw [itr_lt hlt] at z2
        rw [← z2, hvv]
        congr 1
        split <;> split <;> omega
    refine G_iload (pc := 114) dX9_movePart_114 rfl ?_
    refine G_aload_n (pc := 116) dX9_movePart_116 rfl ?_
    refine G_getI (pc := 117) dX9_movePart_117 fk_X9_175 rfl rfl rfl ?_
    rw [p1]
    refine G_icmp_ge (pc := 120) (tgt := 224) dX9_movePart_120 rfl (fun h_120 => ?_) (fun h_120 => ?_)
    · refine G_iload (pc := 224) dX9_movePart_224 rfl ?_
      exact G_ireturn (pc := 226) dX9_movePart_226 (qeq' (by rcases hR with ⟨z1, z2⟩ | ⟨z1, z2⟩; omega; (rw [itr_ge (by omega)] at z2; omega)) (by rw [show i = t 2210 0 by omega]))
    · have hr := ho i h0 (by omega)
      have hvi := hv i h0 (by omega)
      refine G_aload_n (pc := 123) dX9_movePart_123 rfl ?_
      refine G_getP (pc := 124) dX9_movePart_124 fk_X9_65 rfl rfl rfl ?_
      refine G_iload (pc := 127) dX9_movePart_127 rfl ?_
      refine G_iaload (pc := 129) dX9_movePart_129 rfl rfl (by omega) ?_
      rw [p2]
      refine G_istore (pc := 130) dX9_movePart_130 (Nat.le_of_ble_eq_true rfl) rfl ?_
      refine G_aload_n (pc := 132) dX9_movePart_132 rfl ?_
      refine G_getP (pc := 133) dX9_movePart_133 fk_X9_32 rfl rfl rfl ?_
      refine G_iload (pc := 136) dX9_movePart_136 rfl ?_
      refine G_iconst (pc := 138) dX9_movePart_138 (by decide) ?_
      refine G_bastore (pc := 139) dX9_movePart_139 rfl rfl (by omega) (by first | exact Or.inl rfl | exact Or.inr rfl | omega) ?_
      refine G_aload_n (pc := 140) dX9_movePart_140 rfl ?_
      refine G_getP (pc := 141) dX9_movePart_141 fk_X9_35 rfl rfl rfl ?_
      refine G_iload (pc := 144) dX9_movePart_144 rfl ?_
      refine G_aload_n (pc := 146) dX9_movePart_146 rfl ?_
      refine G_getP (pc := 147) dX9_movePart_147 fk_X9_74 rfl rfl rfl ?_
      refine G_iload (pc := 150) dX9_movePart_150 rfl ?_
      refine G_iaload (pc := 152) dX9_movePart_152 rfl rfl (by omega) ?_
      try simp (disch := decide) only [su_ne, su_at, su_same, sv_ne, sv_at]
      try rw [p3]
      refine G_iload_n (pc := 153) dX9_movePart_153 rfl ?_
      refine G_isub (pc := 154) dX9_movePart_154 (by omega) ?_
      refine G_iload_n (pc := 155) dX9_movePart_155 rfl ?_
      refine G_iadd (pc := 156) dX9_movePart_156 (by omega) ?_
      rw [show t 53 (t 50 i) - LX + east = t 53 (t 50 i) + (east - LX) by omega]
      refine G_iastore (pc := 157) dX9_movePart_157 rfl rfl (by omega) ?_
      refine G_aload_n (pc := 158) dX9_movePart_158 rfl ?_
      refine G_getP (pc := 159) dX9_movePart_159 fk_X9_38 rfl rfl rfl ?_
      refine G_iload (pc := 162) dX9_movePart_162 rfl ?_
      refine G_aload_n (pc := 164) dX9_movePart_164 rfl ?_
      refine G_getP (pc := 165) dX9_movePart_165 fk_X9_77 rfl rfl rfl ?_
      refine G_iload (pc := 168) dX9_movePart_168 rfl ?_
      refine G_iaload (pc := 170) dX9_movePart_170 rfl rfl (by omega) ?_
      try simp (disch := decide) only [su_ne, su_at, su_same, sv_ne, sv_at]
      try rw [p4]
      refine G_iload_n (pc := 171) dX9_movePart_171 rfl ?_
      refine G_isub (pc := 172) dX9_movePart_172 (by omega) ?_
      refine G_iastore (pc := 173) dX9_movePart_173 rfl rfl (by omega) ?_
      refine G_aload_n (pc := 174) dX9_movePart_174 rfl ?_
      refine G_getP (pc := 175) dX9_movePart_175 fk_X9_41 rfl rfl rfl ?_
      refine G_iload (pc := 178) dX9_movePart_178 rfl ?_
      refine G_aload_n (pc := 180) dX9_movePart_180 rfl ?_
      refine G_getP (pc := 181) dX9_movePart_181 fk_X9_80 rfl rfl rfl ?_
      refine G_iload (pc := 184) dX9_movePart_184 rfl ?_
      refine G_iaload (pc := 186) dX9_movePart_186 rfl rfl (by omega) ?_
      try simp (disch := decide) only [su_ne, su_at, su_same, sv_ne, sv_at]
      try rw [p5]
      refine G_iastore (pc := 187) dX9_movePart_187 rfl rfl (by omega) ?_
      try rw [mpS_step t h0]
      refine G_join (pc := 188) (P := fun v => v = (if rn < t 53 (t 50 i) + (east - LX) + 2 then t 53 (t 50 i) + (east - LX) + 2 else rn)) 216 (fun v_216 hv_216 => ?_) (fun j_216 => ?_)
      · refine G_istore (pc := 216) dX9_movePart_216 (Nat.le_of_ble_eq_true rfl) rfl ?_
        refine G_iinc (pc := 218) dX9_movePart_218 rfl rfl (by omega) ?_
        refine G_goto (pc := 221) (tgt := 114) dX9_movePart_221 rfl ?_
        exact ih (by omega) _ _ (by omega) (by rw [hv_216]; split <;> omega) (Or.inr ⟨by omega, nxt (by omega) _ hv_216⟩)
      · try rw [mpS_step t h0]
        refine G_aload_n (pc := 188) dX9_movePart_188 rfl ?_
        refine G_getP (pc := 189) dX9_movePart_189 fk_X9_35 rfl rfl rfl ?_
        refine G_iload (pc := 192) dX9_movePart_192 rfl ?_
        refine G_iaload (pc := 194) dX9_movePart_194 rfl rfl (by omega) ?_
        try simp (disch := decide) only [su_ne, su_at, su_same, sv_ne, sv_at]
        rw [(mpS_at t (i + 1) (east - LX) LY).2.1, onR_in h0 (by omega)]
        refine G_iconst (pc := 195) dX9_movePart_195 (by decide) ?_
        refine G_iadd (pc := 196) dX9_movePart_196 (by omega) ?_
        refine G_iload (pc := 197) dX9_movePart_197 rfl ?_
        refine G_icmp_le (pc := 199) (tgt := 214) dX9_movePart_199 rfl (fun h_199 => ?_) (fun h_199 => ?_)
        · refine G_iload (pc := 214) dX9_movePart_214 rfl ?_
          exact j_216 _ (by first | rw [if_pos (by omega)] | rw [if_neg (by omega)])
        · refine G_aload_n (pc := 202) dX9_movePart_202 rfl ?_
          refine G_getP (pc := 203) dX9_movePart_203 fk_X9_35 rfl rfl rfl ?_
          refine G_iload (pc := 206) dX9_movePart_206 rfl ?_
          refine G_iaload (pc := 208) dX9_movePart_208 rfl rfl (by omega) ?_
          try simp (disch := decide) only [su_ne, su_at, su_same, sv_ne, sv_at]
          rw [(mpS_at t (i + 1) (east - LX) LY).2.1, onR_in h0 (by omega)]
          refine G_iconst (pc := 209) dX9_movePart_209 (by decide) ?_
          refine G_iadd (pc := 210) dX9_movePart_210 (by omega) ?_
          refine G_goto (pc := 211) (tgt := 216) dX9_movePart_211 rfl ?_
          exact j_216 _ (by first | rw [if_pos (by omega)] | rw [if_neg (by omega)])
  have loop1 : ∀ i, i ≤ t 2210 0 → ∀ (a b : Int) (o5 o6 : Option MV), 0 ≤ i → itr (fun (i m : Int) => if t 53 (t 50 i) < m then t 53 (t 50 i) else m) i (t 2210 0) a = LX → itr (fun (i m : Int) => if t 54 (t 50 i) < m then t 54 (t 50 i) else m) i (t 2210 0) b = LY → G E cX9_movePart RX9 (some .int) 0 27 [some (mP 31), some (mI east), some (mI a), some (mI b), some (mI i), o5, o6] [] t (fun a t' => a = some (mI (GX + east - LX + 2)) ∧ t' = mpS t (t 2210 0) (east - LX) LY) := by
    refine up_ind (fun i hi ih a b o5 o6 h0 hA hB => ?_)
    refine G_iload (pc := 27) dX9_movePart_27 rfl ?_
    refine G_aload_n (pc := 29) dX9_movePart_29 rfl ?_
    refine G_getI (pc := 30) dX9_movePart_30 fk_X9_175 rfl rfl rfl ?_
    refine G_icmp_ge (pc := 33) (tgt := 108) dX9_movePart_33 rfl (fun h_33 => ?_) (fun h_33 => ?_)
    · rw [itr_ge (by omega)] at hA hB
      subst hA hB
      refine G_iload_n (pc := 108) dX9_movePart_108 rfl ?_
      refine G_istore (pc := 109) dX9_movePart_109 (Nat.le_of_ble_eq_true rfl) rfl ?_
      refine G_iconst (pc := 111) dX9_movePart_111 (by decide) ?_
      refine G_istore (pc := 112) dX9_movePart_112 (Nat.le_of_ble_eq_true rfl) rfl ?_
      have h := loop2 0 (by omega) east o6 (by omega) (by omega) (Or.inl ⟨rfl, rfl⟩)
      rw [mpS_0] at h
      exact h
    · have hr := ho i h0 (by omega)
      rw [itr_lt (by omega)] at hA hB
      refine G_join (pc := 36) (P := fun v => v = (if t 53 (t 50 i) < a then t 53 (t 50 i) else a)) 68 (fun v_68 hv_68 => ?_) (fun j_68 => ?_)
      · refine G_istore_n (pc := 68) dX9_movePart_68 (Nat.le_of_ble_eq_true rfl) rfl ?_
        refine G_join (pc := 69) (P := fun v => v = (if t 54 (t 50 i) < b then t 54 (t 50 i) else b)) 101 (fun v_101 hv_101 => ?_) (fun j_101 => ?_)
        · refine G_istore_n (pc := 101) dX9_movePart_101 (Nat.le_of_ble_eq_true rfl) rfl ?_
          refine G_iinc (pc := 102) dX9_movePart_102 rfl rfl (by omega) ?_
          refine G_goto (pc := 105) (tgt := 27) dX9_movePart_105 rfl ?_
          exact ih (by omega) _ _ _ _ (by omega) (by rw [hv_68]; exact hA) (by rw [hv_101]; exact hB)
        · refine G_aload_n (pc := 69) dX9_movePart_69 rfl ?_
          refine G_getP (pc := 70) dX9_movePart_70 fk_X9_77 rfl rfl rfl ?_
          refine G_aload_n (pc := 73) dX9_movePart_73 rfl ?_
          refine G_getP (pc := 74) dX9_movePart_74 fk_X9_65 rfl rfl rfl ?_
          refine G_iload (pc := 77) dX9_movePart_77 rfl ?_
          refine G_iaload (pc := 79) dX9_movePart_79 rfl rfl (by omega) ?_
          refine G_iaload (pc := 80) dX9_movePart_80 rfl rfl (by omega) ?_
          refine G_iload_n (pc := 81) dX9_movePart_81 rfl ?_
          refine G_icmp_ge (pc := 82) (tgt := 100) dX9_movePart_82 rfl (fun h_82 => ?_) (fun h_82 => ?_)
          · refine G_iload_n (pc := 100) dX9_movePart_100 rfl ?_
            exact j_101 _ (by first | rw [if_pos (by omega)] | rw [if_neg (by omega)])
          · refine G_aload_n (pc := 85) dX9_movePart_85 rfl ?_
            refine G_getP (pc := 86) dX9_movePart_86 fk_X9_77 rfl rfl rfl ?_
            refine G_aload_n (pc := 89) dX9_movePart_89 rfl ?_
            refine G_getP (pc := 90) dX9_movePart_90 fk_X9_65 rfl rfl rfl ?_
            refine G_iload (pc := 93) dX9_movePart_93 rfl ?_
            refine G_iaload (pc := 95) dX9_movePart_95 rfl rfl (by omega) ?_
            refine G_iaload (pc := 96) dX9_movePart_96 rfl rfl (by omega) ?_
            refine G_goto (pc := 97) (tgt := 101) dX9_movePart_97 rfl ?_
            exact j_101 _ (by first | rw [if_pos (by omega)] | rw [if_neg (by omega)])
      · refine G_aload_n (pc := 36) dX9_movePart_36 rfl ?_
        refine G_getP (pc := 37) dX9_movePart_37 fk_X9_74 rfl rfl rfl ?_
        refine G_aload_n (pc := 40) dX9_movePart_40 rfl ?_
        refine G_getP (pc := 41) dX9_movePart_41 fk_X9_65 rfl rfl rfl ?_
        refine G_iload (pc := 44) dX9_movePart_44 rfl ?_
        refine G_iaload (pc := 46) dX9_movePart_46 rfl rfl (by omega) ?_
        refine G_iaload (pc := 47) dX9_movePart_47 rfl rfl (by omega) ?_
        refine G_iload_n (pc := 48) dX9_movePart_48 rfl ?_
        refine G_icmp_ge (pc := 49) (tgt := 67) dX9_movePart_49 rfl (fun h_49 => ?_) (fun h_49 => ?_)
        · refine G_iload_n (pc := 67) dX9_movePart_67 rfl ?_
          exact j_68 _ (by first | rw [if_pos (by omega)] | rw [if_neg (by omega)])
        · refine G_aload_n (pc := 52) dX9_movePart_52 rfl ?_
          refine G_getP (pc := 53) dX9_movePart_53 fk_X9_74 rfl rfl rfl ?_
          refine G_aload_n (pc := 56) dX9_movePart_56 rfl ?_
          refine G_getP (pc := 57) dX9_movePart_57 fk_X9_65 rfl rfl rfl ?_
          refine G_iload (pc := 60) dX9_movePart_60 rfl ?_
          refine G_iaload (pc := 62) dX9_movePart_62 rfl rfl (by omega) ?_
          refine G_iaload (pc := 63) dX9_movePart_63 rfl rfl (by omega) ?_
          refine G_goto (pc := 64) (tgt := 68) dX9_movePart_64 rfl ?_
          exact j_68 _ (by first | rw [if_pos (by omega)] | rw [if_neg (by omega)])
  refine G_aload_n (pc := 0) dX9_movePart_0 rfl ?_
  refine G_getP (pc := 1) dX9_movePart_1 fk_X9_74 rfl rfl rfl ?_
  refine G_aload_n (pc := 4) dX9_movePart_4 rfl ?_
  refine G_getP (pc := 5) dX9_movePart_5 fk_X9_65 rfl rfl rfl ?_
  refine G_iconst (pc := 8) dX9_movePart_8 (by decide) ?_
  refine G_iaload (pc := 9) dX9_movePart_9 rfl rfl (by omega) ?_
  refine G_iaload (pc := 10) dX9_movePart_10 rfl rfl (by omega) ?_
  refine G_istore_n (pc := 11) dX9_movePart_11 (Nat.le_of_ble_eq_true rfl) rfl ?_
  refine G_aload_n (pc := 12) dX9_movePart_12 rfl ?_
  refine G_getP (pc := 13) dX9_movePart_13 fk_X9_77 rfl rfl rfl ?_
  refine G_aload_n (pc := 16) dX9_movePart_16 rfl ?_
  refine G_getP (pc := 17) dX9_movePart_17 fk_X9_65 rfl rfl rfl ?_
  refine G_iconst (pc := 20) dX9_movePart_20 (by decide) ?_
  refine G_iaload (pc := 21) dX9_movePart_21 rfl rfl (by omega) ?_
  refine G_iaload (pc := 22) dX9_movePart_22 rfl rfl (by omega) ?_
  refine G_istore_n (pc := 23) dX9_movePart_23 (Nat.le_of_ble_eq_true rfl) rfl ?_
  refine G_iconst (pc := 24) dX9_movePart_24 (by decide) ?_
  refine G_istore (pc := 25) dX9_movePart_25 (Nat.le_of_ble_eq_true rfl) rfl ?_
  exact loop1 0 (by omega) _ _ _ _ (by omega) dX.symm dY.symm
