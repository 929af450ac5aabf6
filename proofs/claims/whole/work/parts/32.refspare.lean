/-! SPARE PLACES and standing: the reference -/
set_option maxHeartbeats 1000000 in
theorem c_X9_spare (t : Sto) (r : Int) (hS : SM t) (hr : 0 ≤ r ∧ r < t 2184 0) (hnb : 0 ≤ nbS (t 2188 0) (t 35) (t 37) (t 46) r) (hX : BD (t 47)) (hY : BD (t 48)) (hL : BD (t 49)) : CT yX9_spare cX9_spare 7 none 1 [mP 31, mI r] t (fun a t' => a = none ∧ t' = cM3 t (spX (t 2184 0) (t 2188 0) (t 35) (t 37) (t 46) (t 47) (t 48) (t 49) r) (spY (t 2184 0) (t 2188 0) (t 35) (t 37) (t 46) (t 47) (t 48) (t 49) r) (spL (t 2188 0) (t 35) (t 37) (t 46) (t 49) r)) := by
  refine CT_of rfl rfl (Nat.le_of_ble_eq_true rfl) (fun E ht has => ?_)
  have hb := hS.1
  have hnr := nbS_r (ps := t 46) hS r
  have hoo' : nbS (t 2188 0) (t 35) (t 37) (t 46) r = if fst (nbP (t 35) (t 37) (t 46) r) 0 (t 2188 0) < 0 then -2 else othE (t 35) (t 37) r (fst (nbP (t 35) (t 37) (t 46) r) 0 (t 2188 0)) := rfl
  unfold spX spY spL
  generalize hoo : nbS (t 2188 0) (t 35) (t 37) (t 46) r = o at *
  have hsf := spFar_ok (n := t 2184 0) (ps := t 46) (xs := t 47) (ys := t 48) (ls := t 49) (by omega) (t 47 o) (t 48 o) (t 49 o)
  have hxo := hX o
  have hyo := hY o
  generalize hZ : spFar (t 2184 0) (t 46) (t 47) (t 48) (t 49) (t 47 o) (t 48 o) (t 49 o) = Z at *
  have q1 : ∀ a b z, su (cM3 t a b (t 49 o)) 2207 0 z = cM3 t z b (t 49 o) := fun a b z => by
    unfold cM3
    funext w j
    unfold su
    by_cases h2 : w = 2207
    · subst h2; by_cases hj : j = 0 <;> simp [hj]
    · simp [h2]
  have q2 : ∀ a b z, su (cM3 t a b (t 49 o)) 2208 0 z = cM3 t a z (t 49 o) := fun a b z => by
    unfold cM3
    funext w j
    unfold su
    by_cases h2 : w = 2208
    · subst h2; by_cases hj : j = 0 <;> simp [hj]
    · simp [h2]
  have p1 : ∀ a b, cM3 t a b (t 49 o) 2184 = t 2184 := fun a b => cM3_ne t _ _ _ (by decide)
  have p2 : ∀ a b, cM3 t a b (t 49 o) 46 = t 46 := fun a b => cM3_ne t _ _ _ (by decide)
  have p3 : ∀ a b, cM3 t a b (t 49 o) 47 = t 47 := fun a b => cM3_ne t _ _ _ (by decide)
  have p4 : ∀ a b, cM3 t a b (t 49 o) 48 = t 48 := fun a b => cM3_ne t _ _ _ (by decide)
  have p5 : ∀ a b, cM3 t a b (t 49 o) 49 = t 49 := fun a b => cM3_ne t _ _ _ (by decide)
  have p6 : ∀ a b, cM3 t a b (t 49 o) 2207 0 = a ∧ cM3 t a b (t 49 o) 2208 0 = b ∧ cM3 t a b (t 49 o) 2209 0 = t 49 o := fun a b => cM3_at t a b _
  -- one place of a row
  have one : ∀ far dy s : Int, (1 ≤ far ∧ far ≤ 24) → (-far ≤ dy ∧ dy ≤ far) → (s = -1 ∨ s = 1) → ∀ a b : Int,
      fst (fun j => atS (t 2184 0) (t 46) (t 47) (t 48) (t 49) (rgX (t 47 o) far j) (rgY (t 48 o) far j) (t 49 o) < 0) (2 * (dy + far) + (s + 1) / 2) (4 * far + 2) = ringS (t 2184 0) (t 46) (t 47) (t 48) (t 49) (t 47 o) (t 48 o) (t 49 o) far →
      (0 ≤ ringS (t 2184 0) (t 46) (t 47) (t 48) (t 49) (t 47 o) (t 48 o) (t 49 o) far → far = Z) →
      (∀ a b s', s' = s + 2 → fst (fun j => atS (t 2184 0) (t 46) (t 47) (t 48) (t 49) (rgX (t 47 o) far j) (rgY (t 48 o) far j) (t 49 o) < 0) (2 * (dy + far) + (s + 1) / 2 + 1) (4 * far + 2) = ringS (t 2184 0) (t 46) (t 47) (t 48) (t 49) (t 47 o) (t 48 o) (t 49 o) far → G E cX9_spare RX9 none 1 152 [some (mP 31), some (mI r), some (mI o), some (mI far), some (mI dy), some (mI (far - absI dy)), some (mI s')] [] (cM3 t a b (t 49 o)) (fun a t' => a = none ∧ t' = cM3 t (rgX (t 47 o) Z (ringS (t 2184 0) (t 46) (t 47) (t 48) (t 49) (t 47 o) (t 48 o) (t 49 o) Z)) (rgY (t 48 o) Z (ringS (t 2184 0) (t 46) (t 47) (t 48) (t 49) (t 47 o) (t 48 o) (t 49 o) Z)) (t 49 o))) →
      G E cX9_spare RX9 none 1 152 [some (mP 31), some (mI r), some (mI o), some (mI far), some (mI dy), some (mI (far - absI dy)), some (mI s)] [] (cM3 t a b (t 49 o)) (fun a t' => a = none ∧ t' = cM3 t (rgX (t 47 o) Z (ringS (t 2184 0) (t 46) (t 47) (t 48) (t 49) (t 47 o) (t 48 o) (t 49 o) Z)) (rgY (t 48 o) Z (ringS (t 2184 0) (t 46) (t 47) (t 48) (t 49) (t 47 o) (t 48 o) (t 49 o) Z)) (t 49 o)) := by
    intro far dy s hfar hdy hs a b hX0 hfz hnext
    have ha : 0 ≤ absI dy ∧ absI dy ≤ 25 := by unfold absI; split <;> omega
    have hm : -50 ≤ s * (far - absI dy) ∧ s * (far - absI dy) ≤ 50 := by rcases hs with e | e <;> rw [e] <;> omega
    have e1 : rgX (t 47 o) far (2 * (dy + far) + (s + 1) / 2) = t 47 o + s * (far - absI dy) := by
      unfold rgX
      rcases hs with e | e
      · subst e; rw [if_pos (by omega), show -far + (2 * (dy + far) + (-1 + 1) / 2) / 2 = dy by omega]; omega
      · subst e; rw [if_neg (by omega), show -far + (2 * (dy + far) + (1 + 1) / 2) / 2 = dy by omega]; omega
    have e3 : rgY (t 48 o) far (2 * (dy + far) + (s + 1) / 2) = t 48 o + dy := by
      unfold rgY
      rcases hs with e | e
      · subst e; omega
      · subst e; omega
    refine G_iload (pc := 152) dX9_spare_152 rfl ?_
    refine G_iconst (pc := 154) dX9_spare_154 (by decide) ?_
    refine G_icmp_ge (pc := 155) (tgt := 213) dX9_spare_155 rfl (fun h_155 => ?_) (fun h_155 => ?_)
    · omega
    · refine G_aload_n (pc := 158) dX9_spare_158 rfl ?_
      refine G_aload_n (pc := 159) dX9_spare_159 rfl ?_
      refine G_getP (pc := 160) dX9_spare_160 fk_X9_56 rfl rfl rfl ?_
      refine G_iload_n (pc := 163) dX9_spare_163 rfl ?_
      refine G_iaload (pc := 164) dX9_spare_164 rfl rfl (by omega) ?_
      rw [p3]
      refine G_iload (pc := 165) dX9_spare_165 rfl ?_
      refine G_iload (pc := 167) dX9_spare_167 rfl ?_
      refine G_imul (pc := 169) dX9_spare_169 (by omega) ?_
      refine G_iadd (pc := 170) dX9_spare_170 (by omega) ?_
      refine G_put (pc := 171) dX9_spare_171 fk_X9_154 fw_X9_23 rfl rfl rfl (fun h => absurd h (by decide)) ?_
      rw [q1]
      refine G_aload_n (pc := 174) dX9_spare_174 rfl ?_
      refine G_aload_n (pc := 175) dX9_spare_175 rfl ?_
      refine G_getP (pc := 176) dX9_spare_176 fk_X9_59 rfl rfl rfl ?_
      refine G_iload_n (pc := 179) dX9_spare_179 rfl ?_
      refine G_iaload (pc := 180) dX9_spare_180 rfl rfl (by omega) ?_
      try simp (disch := decide) only [su_ne, su_at, su_same, sv_ne, sv_at]
      rw [p4]
      refine G_iload (pc := 181) dX9_spare_181 rfl ?_
      refine G_iadd (pc := 183) dX9_spare_183 (by omega) ?_
      refine G_put (pc := 184) dX9_spare_184 fk_X9_157 fw_X9_24 rfl rfl rfl (fun h => absurd h (by decide)) ?_
      rw [q2]
      refine G_aload_n (pc := 187) dX9_spare_187 rfl ?_
      refine G_aload_n (pc := 188) dX9_spare_188 rfl ?_
      refine G_getI (pc := 189) dX9_spare_189 fk_X9_154 rfl rfl rfl ?_
      try simp (disch := decide) only [su_ne, su_at, su_same, sv_ne, sv_at]
      refine G_aload_n (pc := 192) dX9_spare_192 rfl ?_
      refine G_getI (pc := 193) dX9_spare_193 fk_X9_157 rfl rfl rfl ?_
      try simp (disch := decide) only [su_ne, su_at, su_same, sv_ne, sv_at]
      refine G_aload_n (pc := 196) dX9_spare_196 rfl ?_
      refine G_getI (pc := 197) dX9_spare_197 fk_X9_160 rfl rfl rfl ?_
      try simp (disch := decide) only [su_ne, su_at, su_same, sv_ne, sv_at]
      rw [(p6 _ _).1, (p6 _ _).2.1, (p6 _ _).2.2]
      refine G_cV1 (pc := 200) (c_X9_at _ _ _ _ (by rw [p1]; omega)) dX9_spare_200 ml_X9_151 rfl rfl rfl (by decide) (Nat.le_of_ble_eq_true rfl) ?_
      rw [p1, p2, p3, p4, p5, ← e1, ← e3]
      refine G_if_ge (pc := 203) (tgt := 207) dX9_spare_203 rfl (fun h_203 => ?_) (fun h_203 => ?_)
      · rw [fst_neg (by omega) (by exact Int.not_lt.mpr h_203)] at hX0
        refine G_iinc (pc := 207) dX9_spare_207 rfl rfl (by omega) ?_
        refine G_goto (pc := 210) (tgt := 152) dX9_spare_210 rfl ?_
        exact hnext _ _ _ rfl hX0
      · rw [fst_pos (by omega) (by exact Int.not_le.mp h_203)] at hX0
        exact G_return (pc := 206) dX9_spare_206 ⟨rfl, by rw [← hfz (by omega), ← hX0]⟩
  have rows : ∀ far : Int, (1 ≤ far ∧ far ≤ 24) → (0 ≤ ringS (t 2184 0) (t 46) (t 47) (t 48) (t 49) (t 47 o) (t 48 o) (t 49 o) far → far = Z) →
      (∀ a b (o4 o5 o6 : Option MV), ringS (t 2184 0) (t 46) (t 47) (t 48) (t 49) (t 47 o) (t 48 o) (t 49 o) far = -2 → G E cX9_spare RX9 none 1 219 [some (mP 31), some (mI r), some (mI o), some (mI far), o4, o5, o6] [] (cM3 t a b (t 49 o)) (fun a t' => a = none ∧ t' = cM3 t (rgX (t 47 o) Z (ringS (t 2184 0) (t 46) (t 47) (t 48) (t 49) (t 47 o) (t 48 o) (t 49 o) Z)) (rgY (t 48 o) Z (ringS (t 2184 0) (t 46) (t 47) (t 48) (t 49) (t 47 o) (t 48 o) (t 49 o) Z)) (t 49 o))) →
      ∀ dy, dy ≤ far + 1 → ∀ (a b : Int) (o5 o6 : Option MV), -far ≤ dy → fst (fun j => atS (t 2184 0) (t 46) (t 47) (t 48) (t 49) (rgX (t 47 o) far j) (rgY (t 48 o) far j) (t 49 o) < 0) (2 * (dy + far)) (4 * far + 2) = ringS (t 2184 0) (t 46) (t 47) (t 48) (t 49) (t 47 o) (t 48 o) (t 49 o) far → G E cX9_spare RX9 none 1 126 [some (mP 31), some (mI r), some (mI o), some (mI far), some (mI dy), o5, o6] [] (cM3 t a b (t 49 o)) (fun a t' => a = none ∧ t' = cM3 t (rgX (t 47 o) Z (ringS (t 2184 0) (t 46) (t 47) (t 48) (t 49) (t 47 o) (t 48 o) (t 49 o) Z)) (rgY (t 48 o) Z (ringS (t 2184 0) (t 46) (t 47) (t 48) (t 49) (t 47 o) (t 48 o) (t 49 o) Z)) (t 49 o)) := by
    intro far hfar hfz hend
    refine up_ind (fun dy hdy ih a b o5 o6 h0 hX0 => ?_)
    have ha : 0 ≤ absI dy ∧ absI dy ≤ 25 := by unfold absI; split <;> omega
    have last : ∀ a b s : Int, 2 ≤ s → fst (fun j => atS (t 2184 0) (t 46) (t 47) (t 48) (t 49) (rgX (t 47 o) far j) (rgY (t 48 o) far j) (t 49 o) < 0) (2 * (dy + 1 + far)) (4 * far + 2) = ringS (t 2184 0) (t 46) (t 47) (t 48) (t 49) (t 47 o) (t 48 o) (t 49 o) far → dy ≤ far → G E cX9_spare RX9 none 1 152 [some (mP 31), some (mI r), some (mI o), some (mI far), some (mI dy), some (mI (far - absI dy)), some (mI s)] [] (cM3 t a b (t 49 o)) (fun a t' => a = none ∧ t' = cM3 t (rgX (t 47 o) Z (ringS (t 2184 0) (t 46) (t 47) (t 48) (t 49) (t 47 o) (t 48 o) (t 49 o) Z)) (rgY (t 48 o) Z (ringS (t 2184 0) (t 46) (t 47) (t 48) (t 49) (t 47 o) (t 48 o) (t 49 o) Z)) (t 49 o)) := by
      intro a b s hs hX1 hdf
      refine G_iload (pc := 152) dX9_spare_152 rfl ?_
      refine G_iconst (pc := 154) dX9_spare_154 (by decide) ?_
      refine G_icmp_ge (pc := 155) (tgt := 213) dX9_spare_155 rfl (fun h_155 => ?_) (fun h_155 => ?_)
      · refine G_iinc (pc := 213) dX9_spare_213 rfl rfl (by omega) ?_
        refine G_goto (pc := 216) (tgt := 126) dX9_spare_216 rfl ?_
        exact ih (by omega) _ _ _ _ (by omega) hX1
      · omega
    refine G_iload (pc := 126) dX9_spare_126 rfl ?_
    refine G_iload_n (pc := 128) dX9_spare_128 rfl ?_
    refine G_icmp_gt (pc := 129) (tgt := 219) dX9_spare_129 rfl (fun h_129 => ?_) (fun h_129 => ?_)
    · exact hend _ _ _ _ _ (by rw [← hX0, fst_ge (by omega)])
    · refine G_iload_n (pc := 132) dX9_spare_132 rfl ?_
      refine G_join (pc := 133) (P := fun v => v = absI dy) 146 (fun v_146 hv_146 => ?_) (fun j_146 => ?_)
      · rw [hv_146]
        refine G_isub (pc := 146) dX9_spare_146 (by omega) ?_
        refine G_istore (pc := 147) dX9_spare_147 (Nat.le_of_ble_eq_true rfl) rfl ?_
        refine G_iconst (pc := 149) dX9_spare_149 (by decide) ?_
        refine G_istore (pc := 150) dX9_spare_150 (Nat.le_of_ble_eq_true rfl) rfl ?_
        refine one far dy (-1) hfar (by omega) (Or.inl rfl) _ _ (by rw [← hX0]; congr 1; omega) hfz ?_
        intro a' b' s1 hs1 hX1
        subst hs1
        refine one far dy (-1 + 2) hfar (by omega) (Or.inr (by omega)) _ _ (by rw [← hX1]; congr 1; omega) hfz ?_
        intro a2 b2 s2 hs2 hX2
        exact last _ _ _ (by omega) (by rw [← hX2]; congr 1; omega) (by omega)
      · refine G_iload (pc := 133) dX9_spare_133 rfl ?_
        refine G_if_ge (pc := 135) (tgt := 144) dX9_spare_135 rfl (fun h_135 => ?_) (fun h_135 => ?_)
        · refine G_iload (pc := 144) dX9_spare_144 rfl ?_
          exact j_146 _ (by unfold absI; first | rw [if_pos (by omega)] | rw [if_neg (by omega)])
        · refine G_iload (pc := 138) dX9_spare_138 rfl ?_
          refine G_ineg (pc := 140) dX9_spare_140 (by omega) ?_
          refine G_goto (pc := 141) (tgt := 146) dX9_spare_141 rfl ?_
          exact j_146 _ (by unfold absI; first | rw [if_pos (by omega)] | rw [if_neg (by omega)])
  have loop : ∀ far, far ≤ 25 → ∀ (a b : Int) (o4 o5 o6 : Option MV), 1 ≤ far → fst (fun far => 0 ≤ ringS (t 2184 0) (t 46) (t 47) (t 48) (t 49) (t 47 o) (t 48 o) (t 49 o) far) far 25 = Z → G E cX9_spare RX9 none 1 116 [some (mP 31), some (mI r), some (mI o), some (mI far), o4, o5, o6] [] (cM3 t a b (t 49 o)) (fun a t' => a = none ∧ t' = cM3 t (rgX (t 47 o) Z (ringS (t 2184 0) (t 46) (t 47) (t 48) (t 49) (t 47 o) (t 48 o) (t 49 o) Z)) (rgY (t 48 o) Z (ringS (t 2184 0) (t 46) (t 47) (t 48) (t 49) (t 47 o) (t 48 o) (t 49 o) Z)) (t 49 o)) := by
    refine up_ind (fun far hfar ih a b o4 o5 o6 h0 hX0 => ?_)
    have h25 : far ≤ 24 := by
      rcases Int.lt_or_le 24 far with z | z
      · rw [fst_ge (by omega)] at hX0; omega
      · exact z
    refine G_iload_n (pc := 116) dX9_spare_116 rfl ?_
    refine G_bipush (pc := 117) (x := 100) dX9_spare_117 rfl (by decide) ?_
    refine G_icmp_ge (pc := 119) (tgt := 225) dX9_spare_119 rfl (fun h_119 => ?_) (fun h_119 => ?_)
    · omega
    · refine G_iload_n (pc := 122) dX9_spare_122 rfl ?_
      refine G_ineg (pc := 123) dX9_spare_123 (by omega) ?_
      refine G_istore (pc := 124) dX9_spare_124 (Nat.le_of_ble_eq_true rfl) rfl ?_
      refine rows far ⟨h0, h25⟩ (fun hp => by rw [fst_pos (by omega) (by exact hp)] at hX0; exact hX0) ?_ (-far) (by omega) _ _ _ _ (by omega) (by rw [show 2 * (-far + far) = 0 by omega]; rfl)
      intro a' b' p4' p5' p6' hno
      refine G_iinc (pc := 219) dX9_spare_219 rfl rfl (by omega) ?_
      refine G_goto (pc := 222) (tgt := 116) dX9_spare_222 rfl ?_
      exact ih (by omega) _ _ _ _ _ (by omega) (by rw [fst_neg (by omega) (by exact fun z => by omega)] at hX0; exact hX0)
  have scan : ∀ l, -1 ≤ l → ∀ (c : Int) (o4 o5 o6 : Option MV), l < t 2188 0 → c = (if fst (nbP (t 35) (t 37) (t 46) r) (l + 1) (t 2188 0) < 0 then -2 else othE (t 35) (t 37) r (fst (nbP (t 35) (t 37) (t 46) r) (l + 1) (t 2188 0))) → G E cX9_spare RX9 none 1 10 [some (mP 31), some (mI r), some (mI c), some (mI l), o4, o5, o6] [] t (fun a t' => a = none ∧ t' = cM3 t (rgX (t 47 o) Z (ringS (t 2184 0) (t 46) (t 47) (t 48) (t 49) (t 47 o) (t 48 o) (t 49 o) Z)) (rgY (t 48 o) Z (ringS (t 2184 0) (t 46) (t 47) (t 48) (t 49) (t 47 o) (t 48 o) (t 49 o) Z)) (t 49 o)) := by
    refine down_ind (fun l hl ih c o4 o5 o6 hlk hc => ?_)
    have hstep : 0 ≤ l → (if fst (nbP (t 35) (t 37) (t 46) r) l (t 2188 0) < 0 then -2 else othE (t 35) (t 37) r (fst (nbP (t 35) (t 37) (t 46) r) l (t 2188 0))) = @ite _ (nbP (t 35) (t 37) (t 46) r l) (Classical.propDecidable _) (othE (t 35) (t 37) r l) c := by
      intro hl0
      by_cases hP : nbP (t 35) (t 37) (t 46) r l
      · rw [fst_pos (by omega) hP, if_neg (by omega), if_pos hP]
      · rw [fst_neg (by omega) hP, ← hc, if_neg hP]
    refine G_iload_n (pc := 10) dX9_spare_10 rfl ?_
    refine G_if_lt (pc := 11) (tgt := 104) dX9_spare_11 rfl (fun h_11 => ?_) (fun h_11 => ?_)
    · rw [show l + 1 = 0 by omega, ← hoo'] at hc
      subst hc
      refine G_aload_n (pc := 104) dX9_spare_104 rfl ?_
      refine G_aload_n (pc := 105) dX9_spare_105 rfl ?_
      refine G_getP (pc := 106) dX9_spare_106 fk_X9_62 rfl rfl rfl ?_
      refine G_iload_n (pc := 109) dX9_spare_109 rfl ?_
      refine G_iaload (pc := 110) dX9_spare_110 rfl rfl (by omega) ?_
      refine G_put (pc := 111) dX9_spare_111 fk_X9_160 fw_X9_25 rfl rfl rfl (fun h => absurd h (by decide)) ?_
      refine G_iconst (pc := 114) dX9_spare_114 (by decide) ?_
      refine G_istore_n (pc := 115) dX9_spare_115 (Nat.le_of_ble_eq_true rfl) rfl ?_
      have e : su t 2209 0 (t 49 c) = cM3 t (t 2207 0) (t 2208 0) (t 49 c) := by
        have e9 : ∀ u : Sto, u = t → su t 2209 0 (t 49 c) = su (su u 2208 0 (t 2208 0)) 2209 0 (t 49 c) := fun u hu => by rw [hu, su_id]
        unfold cM3
        exact e9 _ (su_id t 2207 0)
      rw [e]
      exact loop 1 (by omega) _ _ _ _ _ (by omega) hZ
    · obtain ⟨hfr, hto, hdi, -⟩ := hS.2 l (by omega) hlk
      have ho : 0 ≤ othE (t 35) (t 37) r l ∧ othE (t 35) (t 37) r l < t 2184 0 := by unfold othE; split <;> assumption
      refine G_join (pc := 14) (P := fun v => v = othE (t 35) (t 37) r l) 39 (fun v_39 hv_39 => ?_) (fun j_39 => ?_)
      · rw [hv_39]
        refine G_istore (pc := 39) dX9_spare_39 (Nat.le_of_ble_eq_true rfl) rfl ?_
        refine G_join (pc := 41) (P := fun v => v = @ite _ (nbP (t 35) (t 37) (t 46) r l) (Classical.propDecidable _) (1 : Int) 0) 84 (fun v_84 hv_84 => ?_) (fun j_84 => ?_)
        · refine G_istore (pc := 84) dX9_spare_84 (Nat.le_of_ble_eq_true rfl) rfl ?_
          refine G_join (pc := 86) (P := fun v => v = @ite _ (nbP (t 35) (t 37) (t 46) r l) (Classical.propDecidable _) (othE (t 35) (t 37) r l) c) 97 (fun v_97 hv_97 => ?_) (fun j_97 => ?_)
          · refine G_istore_n (pc := 97) dX9_spare_97 (Nat.le_of_ble_eq_true rfl) rfl ?_
            refine G_iinc (pc := 98) dX9_spare_98 rfl rfl (by omega) ?_
            refine G_goto (pc := 101) (tgt := 10) dX9_spare_101 rfl ?_
            refine ih (by omega) _ _ _ _ (by omega) ?_
            rw [hv_97, show l - 1 + 1 = l by omega]
            exact (hstep (by omega)).symm
          · refine G_iload (pc := 86) dX9_spare_86 rfl ?_
            refine G_if_eq (pc := 88) (tgt := 96) dX9_spare_88 rfl (fun h_88 => ?_) (fun h_88 => ?_)
            · try simp only [bq0, ne_eq, Classical.not_not] at h_88
              refine G_iload_n (pc := 96) dX9_spare_96 rfl ?_
              exact j_97 _ (by grind)
            · try simp only [bq0, ne_eq, Classical.not_not] at h_88
              refine G_iload (pc := 91) dX9_spare_91 rfl ?_
              refine G_goto (pc := 93) (tgt := 97) dX9_spare_93 rfl ?_
              exact j_97 _ (by grind)
        · refine G_aload_n (pc := 41) dX9_spare_41 rfl ?_
          refine G_iload_n (pc := 42) dX9_spare_42 rfl ?_
          refine G_cV1 (pc := 43) (c_X9_isLoop _ _ (by omega)) dX9_spare_43 ml_X9_145 rfl rfl rfl (by decide) (Nat.le_of_ble_eq_true rfl) ?_
          refine G_if_ne (pc := 46) (tgt := 83) dX9_spare_46 rfl (fun h_46 => ?_) (fun h_46 => ?_)
          · try simp only [bq0, ne_eq, Classical.not_not] at h_46
            refine G_iconst (pc := 83) dX9_spare_83 (by decide) ?_
            exact j_84 _ (by unfold nbP incP; grind)
          · try simp only [bq0, ne_eq, Classical.not_not] at h_46
            refine G_aload_n (pc := 49) dX9_spare_49 rfl ?_
            refine G_getP (pc := 50) dX9_spare_50 fk_X9_19 rfl rfl rfl ?_
            refine G_iload_n (pc := 53) dX9_spare_53 rfl ?_
            refine G_iaload (pc := 54) dX9_spare_54 rfl rfl (by omega) ?_
            refine G_iload_n (pc := 55) dX9_spare_55 rfl ?_
            refine G_icmp_eq (pc := 56) (tgt := 69) dX9_spare_56 rfl (fun h_56 => ?_) (fun h_56 => ?_)
            · refine G_aload_n (pc := 69) dX9_spare_69 rfl ?_
              refine G_getP (pc := 70) dX9_spare_70 fk_X9_53 rfl rfl rfl ?_
              refine G_iload (pc := 73) dX9_spare_73 rfl ?_
              refine G_baload (pc := 75) dX9_spare_75 rfl rfl (by omega) ?_
              refine G_if_eq (pc := 76) (tgt := 83) dX9_spare_76 rfl (fun h_76 => ?_) (fun h_76 => ?_)
              · try simp only [bq0, ne_eq, Classical.not_not] at h_76
                refine G_iconst (pc := 83) dX9_spare_83 (by decide) ?_
                exact j_84 _ (by unfold nbP incP; grind)
              · try simp only [bq0, ne_eq, Classical.not_not] at h_76
                refine G_iconst (pc := 79) dX9_spare_79 (by decide) ?_
                refine G_goto (pc := 80) (tgt := 84) dX9_spare_80 rfl ?_
                exact j_84 _ (by unfold nbP incP; grind)
            · refine G_aload_n (pc := 59) dX9_spare_59 rfl ?_
              refine G_getP (pc := 60) dX9_spare_60 fk_X9_25 rfl rfl rfl ?_
              refine G_iload_n (pc := 63) dX9_spare_63 rfl ?_
              refine G_iaload (pc := 64) dX9_spare_64 rfl rfl (by omega) ?_
              refine G_iload_n (pc := 65) dX9_spare_65 rfl ?_
              refine G_icmp_ne (pc := 66) (tgt := 83) dX9_spare_66 rfl (fun h_66 => ?_) (fun h_66 => ?_)
              · refine G_iconst (pc := 83) dX9_spare_83 (by decide) ?_
                exact j_84 _ (by unfold nbP incP; grind)
              · refine G_aload_n (pc := 69) dX9_spare_69 rfl ?_
                refine G_getP (pc := 70) dX9_spare_70 fk_X9_53 rfl rfl rfl ?_
                refine G_iload (pc := 73) dX9_spare_73 rfl ?_
                refine G_baload (pc := 75) dX9_spare_75 rfl rfl (by omega) ?_
                refine G_if_eq (pc := 76) (tgt := 83) dX9_spare_76 rfl (fun h_76 => ?_) (fun h_76 => ?_)
                · try simp only [bq0, ne_eq, Classical.not_not] at h_76
                  refine G_iconst (pc := 83) dX9_spare_83 (by decide) ?_
                  exact j_84 _ (by unfold nbP incP; grind)
                · try simp only [bq0, ne_eq, Classical.not_not] at h_76
                  refine G_iconst (pc := 79) dX9_spare_79 (by decide) ?_
                  refine G_goto (pc := 80) (tgt := 84) dX9_spare_80 rfl ?_
                  exact j_84 _ (by unfold nbP incP; grind)
      · refine G_aload_n (pc := 14) dX9_spare_14 rfl ?_
        refine G_getP (pc := 15) dX9_spare_15 fk_X9_19 rfl rfl rfl ?_
        refine G_iload_n (pc := 18) dX9_spare_18 rfl ?_
        refine G_iaload (pc := 19) dX9_spare_19 rfl rfl (by omega) ?_
        refine G_iload_n (pc := 20) dX9_spare_20 rfl ?_
        refine G_icmp_ne (pc := 21) (tgt := 33) dX9_spare_21 rfl (fun h_21 => ?_) (fun h_21 => ?_)
        · refine G_aload_n (pc := 33) dX9_spare_33 rfl ?_
          refine G_getP (pc := 34) dX9_spare_34 fk_X9_19 rfl rfl rfl ?_
          refine G_iload_n (pc := 37) dX9_spare_37 rfl ?_
          refine G_iaload (pc := 38) dX9_spare_38 rfl rfl (by omega) ?_
          exact j_39 _ (by unfold othE; first | rw [if_pos h_21] | rw [if_neg h_21])
        · refine G_aload_n (pc := 24) dX9_spare_24 rfl ?_
          refine G_getP (pc := 25) dX9_spare_25 fk_X9_25 rfl rfl rfl ?_
          refine G_iload_n (pc := 28) dX9_spare_28 rfl ?_
          refine G_iaload (pc := 29) dX9_spare_29 rfl rfl (by omega) ?_
          refine G_goto (pc := 30) (tgt := 39) dX9_spare_30 rfl ?_
          exact j_39 _ (by unfold othE; first | rw [if_pos h_21] | rw [if_neg h_21])
  refine G_bipush (pc := 0) (x := (-2)) dX9_spare_0 rfl (by decide) ?_
  refine G_istore_n (pc := 2) dX9_spare_2 (Nat.le_of_ble_eq_true rfl) rfl ?_
  refine G_aload_n (pc := 3) dX9_spare_3 rfl ?_
  refine G_getI (pc := 4) dX9_spare_4 fk_X9_94 rfl rfl rfl ?_
  refine G_iconst (pc := 7) dX9_spare_7 (by decide) ?_
  refine G_isub (pc := 8) dX9_spare_8 (by omega) ?_
  refine G_istore_n (pc := 9) dX9_spare_9 (Nat.le_of_ble_eq_true rfl) rfl ?_
  exact scan _ (by omega) _ _ _ _ (by omega) (by rw [fst_ge (by omega), if_pos (by omega)])
