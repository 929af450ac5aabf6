/-! CHANCES: the reference -/
noncomputable def nthN (P : Int → Prop) (l : Int) (n : Nat) (j : Int) : Int := match n with
  | 0 => -2
  | n + 1 => @ite _ (P l) (Classical.propDecidable _) (if j = 0 then l else nthN P (l + 1) n (j - 1)) (nthN P (l + 1) n j)
/-- the j-th of l .. K - 1 that P; -2 -/
noncomputable def nth (P : Int → Prop) (l K j : Int) : Int := nthN P l (K - l).toNat j
theorem nth_ge {P : Int → Prop} {l K j : Int} (h : K ≤ l) : nth P l K j = -2 := by
  unfold nth
  rw [show (K - l).toNat = 0 by omega]
  rfl
theorem nth_hit {P : Int → Prop} {l K : Int} (h : l < K) (hP : P l) : nth P l K 0 = l := by
  unfold nth
  rw [show (K - l).toNat = (K - (l + 1)).toNat + 1 by omega]
  simp [nthN, hP]
theorem nth_next {P : Int → Prop} {l K j : Int} (h : l < K) (hP : P l) (hj : j ≠ 0) : nth P l K j = nth P (l + 1) K (j - 1) := by
  unfold nth
  rw [show (K - l).toNat = (K - (l + 1)).toNat + 1 by omega]
  simp [nthN, hP, hj]
theorem nth_skip {P : Int → Prop} {l K j : Int} (h : l < K) (hP : ¬ P l) : nth P l K j = nth P (l + 1) K j := by
  unfold nth
  rw [show (K - l).toNat = (K - (l + 1)).toNat + 1 by omega]
  simp [nthN, hP]
theorem nth_0 {P : Int → Prop} {K : Int} : ∀ l, l ≤ K → nth P l K 0 = fst P l K := by
  refine up_ind (fun l hl ih => ?_)
  rcases Int.lt_or_le l K with h | h
  · by_cases hP : P l
    · rw [nth_hit h hP, fst_pos h hP]
    · rw [nth_skip h hP, fst_neg h hP, ih h]
  · rw [nth_ge h, fst_ge h]
theorem nth_spec {P : Int → Prop} {K : Int} : ∀ l, l ≤ K → ∀ j, nth P l K j = -2 ∨ (l ≤ nth P l K j ∧ nth P l K j < K ∧ P (nth P l K j)) := by
  refine up_ind (fun l hl ih j => ?_)
  rcases Int.lt_or_le l K with h | h
  · by_cases hP : P l
    · by_cases hj : j = 0
      · subst hj; rw [nth_hit h hP]; exact Or.inr ⟨Int.le_refl _, h, hP⟩
      · rw [nth_next h hP hj]
        rcases ih h (j - 1) with q | ⟨q1, q2, q3⟩
        · exact Or.inl q
        · exact Or.inr ⟨by omega, q2, q3⟩
    · rw [nth_skip h hP]
      rcases ih h j with q | ⟨q1, q2, q3⟩
      · exact Or.inl q
      · exact Or.inr ⟨by omega, q2, q3⟩
  · rw [nth_ge h]; exact Or.inl rfl
def cM3 (t : Sto) (a b c : Int) : Sto := su (su (su t 2207 0 a) 2208 0 b) 2209 0 c
theorem cM3_ne (t : Sto) (a b c : Int) {w : Nat} (h : w ≠ 2207 ∧ w ≠ 2208 ∧ w ≠ 2209) : cM3 t a b c w = t w := by
  unfold cM3
  rw [su_ne h.2.2, su_ne h.2.1, su_ne h.1]
theorem cM3_at (t : Sto) (a b c : Int) : cM3 t a b c 2207 0 = a ∧ cM3 t a b c 2208 0 = b ∧ cM3 t a b c 2209 0 = c := by
  unfold cM3
  refine ⟨?_, ?_, ?_⟩
  · rw [su_ne (by decide), su_ne (by decide), su_at]
  · rw [su_ne (by decide), su_at]
  · rw [su_at]
abbrev cdM (t : Sto) (r : Int) : Int → Prop := candM (t 2184 0) (t 35) (t 36) (t 37) (t 46) (t 47) (t 48) (t 49) r
noncomputable def chT (t : Sto) (r Z : Int) : Sto := if 0 ≤ Z then cM3 t (chX (t 35) (t 36) (t 37) (t 47) r Z) (chY (t 35) (t 36) (t 37) (t 48) r Z) (chL (t 35) (t 36) (t 37) (t 49) r Z) else t
set_option maxHeartbeats 1000000 in
theorem c_X9_chance (t : Sto) (r j : Int) (hS : SM t) (hr : 0 ≤ r ∧ r < t 2184 0) (hj : 0 ≤ j) (hX : BD (t 47)) (hY : BD (t 48)) (hL : BD (t 49)) : CT yX9_chance cX9_chance 12 (some .boolean) 2 [mP 31, mI r, mI j] t (fun a t' => a = some (mI (if 0 ≤ nth (cdM t r) 0 (3 * t 2188 0) j then 1 else 0)) ∧ t' = chT t r (nth (cdM t r) 0 (3 * t 2188 0) j)) := by
  refine CT_of rfl rfl (Nat.le_of_ble_eq_true rfl) (fun E ht has => ?_)
  have hb := hS.1
  generalize hZ : nth (cdM t r) 0 (3 * t 2188 0) j = Z
  have inner : ∀ l, 0 ≤ l → l < t 2188 0 → incP (t 35) (t 37) r l → t 46 (othE (t 35) (t 37) r l) ≠ 0 → (∀ (n : Int) (o8 o9 o10 o11 : Option MV), (0 ≤ n ∧ n ≤ 3 * (l + 1) ∧ n ≤ j) → nth (cdM t r) (3 * l + 3) (3 * t 2188 0) (j - n) = Z → G E cX9_chance RX9 (some .boolean) 2 245 [some (mP 31), some (mI r), some (mI j), some (mI n), some (mI l), some (mI (othE (t 35) (t 37) r l)), some (mI (t 36 l)), some (mI (sgE (t 35) r l)), o8, o9, o10, o11] [] t (fun a t' => a = some (mI (if 0 ≤ Z then 1 else 0)) ∧ t' = chT t r Z)) →
      ∀ s, s ≤ 4 → ∀ (n : Int) (o9 o10 o11 : Option MV), 1 ≤ s → (0 ≤ n ∧ n ≤ 3 * l + (s - 1) ∧ n ≤ j) → nth (cdM t r) (3 * l + (s - 1)) (3 * t 2188 0) (j - n) = Z → G E cX9_chance RX9 (some .boolean) 2 118 [some (mP 31), some (mI r), some (mI j), some (mI n), some (mI l), some (mI (othE (t 35) (t 37) r l)), some (mI (t 36 l)), some (mI (sgE (t 35) r l)), some (mI s), o9, o10, o11] [] t (fun a t' => a = some (mI (if 0 ≤ Z then 1 else 0)) ∧ t' = chT t r Z) := by
    intro l hl0 hlk hinc hpl hend
    obtain ⟨hfr, hto, hdi, -⟩ := hS.2 l hl0 hlk
    have ho : 0 ≤ othE (t 35) (t 37) r l ∧ othE (t 35) (t 37) r l < t 2184 0 := by unfold othE; split <;> assumption
    have hsg : sgE (t 35) r l = -1 ∨ sgE (t 35) r l = 1 := by unfold sgE; split <;> omega
    have bx := hX (othE (t 35) (t 37) r l)
    have bY := hY (othE (t 35) (t 37) r l)
    have bl := hL (othE (t 35) (t 37) r l)
    refine up_ind (fun s hs ih n o9 o10 o11 h0 hn hX0 => ?_)
    have hss : -4 ≤ sgE (t 35) r l * s ∧ sgE (t 35) r l * s ≤ 4 := by rcases hsg with e | e <;> rw [e] <;> omega
    have m1 := mul_r (x := sgE (t 35) r l * s) (B := 4) (eaI_r hdi) (by omega)
    have m2 := mul_r (x := sgE (t 35) r l * s) (B := 4) (soI_r hdi) (by omega)
    have m3 := mul_r (x := sgE (t 35) r l) (B := 4) (riI_r hdi) (by omega)
    have hq3 : ∀ m, m = 3 * l + (s - 1) → s ≤ 3 → m / 3 = l ∧ m % 3 + 1 = s := fun m hm hs3 => by omega
    have hlast : s = 4 → G E cX9_chance RX9 (some .boolean) 2 245 [some (mP 31), some (mI r), some (mI j), some (mI n), some (mI l), some (mI (othE (t 35) (t 37) r l)), some (mI (t 36 l)), some (mI (sgE (t 35) r l)), some (mI s), o9, o10, o11] [] t (fun a t' => a = some (mI (if 0 ≤ Z then 1 else 0)) ∧ t' = chT t r Z) := by
      intro e
      subst e
      exact hend n _ _ _ _ (by omega) (by rw [← hX0]; congr 1)
    have hstop : ¬ t 36 l ≤ 7 → 2 ≤ s → s ≤ 3 → G E cX9_chance RX9 (some .boolean) 2 245 [some (mP 31), some (mI r), some (mI j), some (mI n), some (mI l), some (mI (othE (t 35) (t 37) r l)), some (mI (t 36 l)), some (mI (sgE (t 35) r l)), some (mI s), o9, o10, o11] [] t (fun a t' => a = some (mI (if 0 ≤ Z then 1 else 0)) ∧ t' = chT t r Z) := by
      intro hw hs2 hs3
      have hno : ∀ m, m / 3 = l → m % 3 ≠ 0 → ¬ cdM t r m := fun m e1 e2 z => by
        have := z.1.2.2
        rw [e1] at this
        omega
      refine hend n _ _ _ _ (by omega) ?_
      rw [← hX0]
      rcases (show s = 2 ∨ s = 3 by omega) with e | e
      · subst e
        rw [nth_skip (l := 3 * l + (2 - 1)) (by omega) (hno _ (by omega) (by omega)), nth_skip (l := 3 * l + (2 - 1) + 1) (by omega) (hno _ (by omega) (by omega))]
        congr 1
        omega
      · subst e
        rw [nth_skip (l := 3 * l + (3 - 1)) (by omega) (hno _ (by omega) (by omega))]
        congr 1
        omega
    refine G_iload (pc := 118) dX9_chance_118 rfl ?_
    refine G_join (pc := 120) (P := fun v => v = (if t 36 l ≤ 7 then (3 : Int) else 1)) 132 (fun v_132 hv_132 => ?_) (fun j_132 => ?_)
    · refine G_icmp_gt (pc := 132) (tgt := 245) dX9_chance_132 rfl (fun h_132 => ?_) (fun h_132 => ?_)
      · have hcase : s = 4 ∨ (¬ t 36 l ≤ 7 ∧ 2 ≤ s ∧ s ≤ 3) := by rw [hv_132] at h_132; split at h_132 <;> omega
        rcases hcase with z | z
        · exact hlast z
        · exact hstop z.1 z.2.1 z.2.2
      · have hs3 : s ≤ 3 ∧ (t 36 l ≤ 7 ∨ s = 1) := by rw [hv_132] at h_132; split at h_132 <;> omega
        obtain ⟨q1, q2⟩ := hq3 _ rfl hs3.1
        have eX : chX (t 35) (t 36) (t 37) (t 47) r (3 * l + (s - 1)) = t 47 (othE (t 35) (t 37) r l) + sgE (t 35) r l * s * eaI (t 36 l) := by unfold chX; rw [q1, q2]
        have eY : chY (t 35) (t 36) (t 37) (t 48) r (3 * l + (s - 1)) = t 48 (othE (t 35) (t 37) r l) + sgE (t 35) r l * s * soI (t 36 l) := by unfold chY; rw [q1, q2]
        have eL : chL (t 35) (t 36) (t 37) (t 49) r (3 * l + (s - 1)) = t 49 (othE (t 35) (t 37) r l) + sgE (t 35) r l * riI (t 36 l) := by
          unfold chL
          rw [q1, q2]
          rcases hs3.2 with z | z
          · have hri0 : riI (t 36 l) = 0 := by rw [ri_arith hdi, if_neg (by omega), if_neg (by omega)]
            rw [hri0, Int.mul_zero, Int.mul_zero]
          · rw [z, Int.mul_one]
        refine G_aload_n (pc := 135) dX9_chance_135 rfl ?_
        refine G_getP (pc := 136) dX9_chance_136 fk_X9_56 rfl rfl rfl ?_
        refine G_iload (pc := 139) dX9_chance_139 rfl ?_
        refine G_iaload (pc := 141) dX9_chance_141 rfl rfl (by omega) ?_
        refine G_iload (pc := 142) dX9_chance_142 rfl ?_
        refine G_iload (pc := 144) dX9_chance_144 rfl ?_
        refine G_imul (pc := 146) dX9_chance_146 (by omega) ?_
        refine G_iload (pc := 147) dX9_chance_147 rfl ?_
        refine G_cS1 (pc := 149) (c_X9_east _ _ (by omega)) dX9_chance_149 ml_X9_132 rfl (by decide) (Nat.le_of_ble_eq_true rfl) ?_
        refine G_imul (pc := 152) dX9_chance_152 (by omega) ?_
        refine G_iadd (pc := 153) dX9_chance_153 (by omega) ?_
        rw [← eX]
        refine G_istore (pc := 154) dX9_chance_154 (Nat.le_of_ble_eq_true rfl) rfl ?_
        refine G_aload_n (pc := 156) dX9_chance_156 rfl ?_
        refine G_getP (pc := 157) dX9_chance_157 fk_X9_59 rfl rfl rfl ?_
        refine G_iload (pc := 160) dX9_chance_160 rfl ?_
        refine G_iaload (pc := 162) dX9_chance_162 rfl rfl (by omega) ?_
        refine G_iload (pc := 163) dX9_chance_163 rfl ?_
        refine G_iload (pc := 165) dX9_chance_165 rfl ?_
        refine G_imul (pc := 167) dX9_chance_167 (by omega) ?_
        refine G_iload (pc := 168) dX9_chance_168 rfl ?_
        refine G_cS1 (pc := 170) (c_X9_south _ _ (by omega)) dX9_chance_170 ml_X9_135 rfl (by decide) (Nat.le_of_ble_eq_true rfl) ?_
        refine G_imul (pc := 173) dX9_chance_173 (by omega) ?_
        refine G_iadd (pc := 174) dX9_chance_174 (by omega) ?_
        rw [← eY]
        refine G_istore (pc := 175) dX9_chance_175 (Nat.le_of_ble_eq_true rfl) rfl ?_
        refine G_aload_n (pc := 177) dX9_chance_177 rfl ?_
        refine G_getP (pc := 178) dX9_chance_178 fk_X9_62 rfl rfl rfl ?_
        refine G_iload (pc := 181) dX9_chance_181 rfl ?_
        refine G_iaload (pc := 183) dX9_chance_183 rfl rfl (by omega) ?_
        refine G_iload (pc := 184) dX9_chance_184 rfl ?_
        refine G_iload (pc := 186) dX9_chance_186 rfl ?_
        refine G_cS1 (pc := 188) (c_X9_up _ _ (by omega)) dX9_chance_188 ml_X9_138 rfl (by decide) (Nat.le_of_ble_eq_true rfl) ?_
        refine G_imul (pc := 191) dX9_chance_191 (by omega) ?_
        refine G_iadd (pc := 192) dX9_chance_192 (by omega) ?_
        rw [← eL]
        refine G_istore (pc := 193) dX9_chance_193 (Nat.le_of_ble_eq_true rfl) rfl ?_
        refine G_aload_n (pc := 195) dX9_chance_195 rfl ?_
        refine G_iload (pc := 196) dX9_chance_196 rfl ?_
        refine G_iload (pc := 198) dX9_chance_198 rfl ?_
        refine G_iload (pc := 200) dX9_chance_200 rfl ?_
        refine G_cV1 (pc := 202) (c_X9_at _ _ _ _ (by omega)) dX9_chance_202 ml_X9_151 rfl rfl rfl (by decide) (Nat.le_of_ble_eq_true rfl) ?_
        refine G_if_lt (pc := 205) (tgt := 211) dX9_chance_205 rfl (fun h_205 => ?_) (fun h_205 => ?_)
        · have hY9 : cdM t r (3 * l + (s - 1)) := ⟨by rw [q1]; exact ⟨hinc, hpl, by omega⟩, h_205⟩
          refine G_iload_n (pc := 211) dX9_chance_211 rfl ?_
          refine G_iload_n (pc := 212) dX9_chance_212 rfl ?_
          refine G_icmp_ne (pc := 213) (tgt := 236) dX9_chance_213 rfl (fun h_213 => ?_) (fun h_213 => ?_)
          · refine G_iinc (pc := 236) dX9_chance_236 rfl rfl (by omega) ?_
            refine G_iinc (pc := 239) dX9_chance_239 rfl rfl (by omega) ?_
            refine G_goto (pc := 242) (tgt := 118) dX9_chance_242 rfl ?_
            first | exact ih (by omega) _ _ _ _ (by omega) (by omega) (by rw [← hX0, nth_skip (l := 3 * l + (s - 1)) (by omega) hN9, show 3 * l + (s + 1 - 1) = 3 * l + (s - 1) + 1 by omega]) | exact ih (by omega) (n + 1) _ _ _ (by omega) (by omega) (by rw [← hX0, nth_next (l := 3 * l + (s - 1)) (by omega) hY9 (by omega), show 3 * l + (s + 1 - 1) = 3 * l + (s - 1) + 1 by omega, show j - (n + 1) = j - n - 1 by omega])
          · have hz : Z = 3 * l + (s - 1) := by rw [← hX0, show j - n = 0 by omega, nth_hit (by omega) hY9]
            refine G_aload_n (pc := 216) dX9_chance_216 rfl ?_
            refine G_iload (pc := 217) dX9_chance_217 rfl ?_
            refine G_put (pc := 219) dX9_chance_219 fk_X9_154 fw_X9_23 rfl rfl rfl (fun h => absurd h (by decide)) ?_
            refine G_aload_n (pc := 222) dX9_chance_222 rfl ?_
            refine G_iload (pc := 223) dX9_chance_223 rfl ?_
            refine G_put (pc := 225) dX9_chance_225 fk_X9_157 fw_X9_24 rfl rfl rfl (fun h => absurd h (by decide)) ?_
            refine G_aload_n (pc := 228) dX9_chance_228 rfl ?_
            refine G_iload (pc := 229) dX9_chance_229 rfl ?_
            refine G_put (pc := 231) dX9_chance_231 fk_X9_160 fw_X9_25 rfl rfl rfl (fun h => absurd h (by decide)) ?_
            refine G_iconst (pc := 234) dX9_chance_234 (by decide) ?_
            exact G_zreturn (pc := 235) dX9_chance_235 (by first | exact Or.inl rfl | exact Or.inr rfl | omega | (split <;> first | exact Or.inl rfl | exact Or.inr rfl)) (qeq' (by rw [if_pos (by omega)]) (by unfold chT; rw [if_pos (by omega), hz]; rfl))
        · have hN9 : ¬ cdM t r (3 * l + (s - 1)) := fun z => h_205 z.2
          refine G_goto (pc := 208) (tgt := 239) dX9_chance_208 rfl ?_
          refine G_iinc (pc := 239) dX9_chance_239 rfl rfl (by omega) ?_
          refine G_goto (pc := 242) (tgt := 118) dX9_chance_242 rfl ?_
          first | exact ih (by omega) _ _ _ _ (by omega) (by omega) (by rw [← hX0, nth_skip (l := 3 * l + (s - 1)) (by omega) hN9, show 3 * l + (s + 1 - 1) = 3 * l + (s - 1) + 1 by omega]) | exact ih (by omega) (n + 1) _ _ _ (by omega) (by omega) (by rw [← hX0, nth_next (l := 3 * l + (s - 1)) (by omega) hY9 (by omega), show 3 * l + (s + 1 - 1) = 3 * l + (s - 1) + 1 by omega, show j - (n + 1) = j - n - 1 by omega])
    · refine G_iload (pc := 120) dX9_chance_120 rfl ?_
      refine G_bipush (pc := 122) (x := 7) dX9_chance_122 rfl (by decide) ?_
      refine G_icmp_le (pc := 124) (tgt := 131) dX9_chance_124 rfl (fun h_124 => ?_) (fun h_124 => ?_)
      · refine G_iconst (pc := 131) dX9_chance_131 (by decide) ?_
        exact j_132 _ (by grind)
      · refine G_iconst (pc := 127) dX9_chance_127 (by decide) ?_
        refine G_goto (pc := 128) (tgt := 132) dX9_chance_128 rfl ?_
        exact j_132 _ (by grind)
  have loop : ∀ l, l ≤ t 2188 0 → ∀ (n : Int) (o5 o6 o7 o8 o9 o10 o11 : Option MV), 0 ≤ l → (0 ≤ n ∧ n ≤ 3 * l ∧ n ≤ j) → nth (cdM t r) (3 * l) (3 * t 2188 0) (j - n) = Z → G E cX9_chance RX9 (some .boolean) 2 5 [some (mP 31), some (mI r), some (mI j), some (mI n), some (mI l), o5, o6, o7, o8, o9, o10, o11] [] t (fun a t' => a = some (mI (if 0 ≤ Z then 1 else 0)) ∧ t' = chT t r Z) := by
    refine up_ind (fun l hl ih n o5 o6 o7 o8 o9 o10 o11 h0 hn hX0 => ?_)
    have hskip : (∀ m, m / 3 = l → ¬ cdM t r m) → l < t 2188 0 → nth (cdM t r) (3 * (l + 1)) (3 * t 2188 0) (j - n) = Z := by
      intro hno hlk
      rw [← hX0, nth_skip (l := 3 * l) (by omega) (hno _ (by omega)), nth_skip (l := 3 * l + 1) (by omega) (hno _ (by omega)), nth_skip (l := 3 * l + 1 + 1) (by omega) (hno _ (by omega)), show 3 * l + 1 + 1 + 1 = 3 * (l + 1) by omega]
    refine G_iload (pc := 5) dX9_chance_5 rfl ?_
    refine G_aload_n (pc := 7) dX9_chance_7 rfl ?_
    refine G_getI (pc := 8) dX9_chance_8 fk_X9_94 rfl rfl rfl ?_
    refine G_icmp_ge (pc := 11) (tgt := 251) dX9_chance_11 rfl (fun h_11 => ?_) (fun h_11 => ?_)
    · refine G_iconst (pc := 251) dX9_chance_251 (by decide) ?_
      exact G_zreturn (pc := 252) dX9_chance_252 (by first | exact Or.inl rfl | exact Or.inr rfl | omega | (split <;> first | exact Or.inl rfl | exact Or.inr rfl)) (by rw [nth_ge (by omega)] at hX0; exact qeq' (by rw [if_neg (by omega)]) (by unfold chT; rw [if_neg (by omega)]))
    · obtain ⟨hfr, hto, hdi, -⟩ := hS.2 l h0 (by omega)
      have ho : 0 ≤ othE (t 35) (t 37) r l ∧ othE (t 35) (t 37) r l < t 2184 0 := by unfold othE; split <;> assumption
      refine G_join (pc := 14) (P := fun v => v = othE (t 35) (t 37) r l) 42 (fun v_42 hv_42 => ?_) (fun j_42 => ?_)
      · rw [hv_42]
        refine G_istore (pc := 42) dX9_chance_42 (Nat.le_of_ble_eq_true rfl) rfl ?_
        refine G_aload_n (pc := 44) dX9_chance_44 rfl ?_
        refine G_iload (pc := 45) dX9_chance_45 rfl ?_
        refine G_cV1 (pc := 47) (c_X9_isLoop _ _ (by omega)) dX9_chance_47 ml_X9_145 rfl rfl rfl (by decide) (Nat.le_of_ble_eq_true rfl) ?_
        refine G_if_ne (pc := 50) (tgt := 245) dX9_chance_50 rfl (fun h_50 => ?_) (fun h_50 => ?_)
        · try simp only [bq0, ne_eq, Classical.not_not] at h_50
          have hno : ∀ m, m / 3 = l → ¬ cdM t r m := fun m e z => by have := z.1.1.2; rw [e] at this; exact this h_50
          refine G_iinc (pc := 245) dX9_chance_245 rfl rfl (by omega) ?_
          refine G_goto (pc := 248) (tgt := 5) dX9_chance_248 rfl ?_
          exact ih (by omega) n _ _ _ _ _ _ _ (by omega) (by omega) (hskip hno (by omega))
        · try simp only [bq0, ne_eq, Classical.not_not] at h_50
          refine G_aload_n (pc := 53) dX9_chance_53 rfl ?_
          refine G_getP (pc := 54) dX9_chance_54 fk_X9_19 rfl rfl rfl ?_
          refine G_iload (pc := 57) dX9_chance_57 rfl ?_
          refine G_iaload (pc := 59) dX9_chance_59 rfl rfl (by omega) ?_
          refine G_iload_n (pc := 60) dX9_chance_60 rfl ?_
          refine G_icmp_eq (pc := 61) (tgt := 75) dX9_chance_61 rfl (fun h_61 => ?_) (fun h_61 => ?_)
          · refine G_aload_n (pc := 75) dX9_chance_75 rfl ?_
            refine G_getP (pc := 76) dX9_chance_76 fk_X9_53 rfl rfl rfl ?_
            refine G_iload (pc := 79) dX9_chance_79 rfl ?_
            refine G_baload (pc := 81) dX9_chance_81 rfl rfl (by omega) ?_
            refine G_if_ne (pc := 82) (tgt := 88) dX9_chance_82 rfl (fun h_82 => ?_) (fun h_82 => ?_)
            · try simp only [bq0, ne_eq, Classical.not_not] at h_82
              refine G_aload_n (pc := 88) dX9_chance_88 rfl ?_
              refine G_getP (pc := 89) dX9_chance_89 fk_X9_22 rfl rfl rfl ?_
              refine G_iload (pc := 92) dX9_chance_92 rfl ?_
              refine G_iaload (pc := 94) dX9_chance_94 rfl rfl (by omega) ?_
              refine G_istore (pc := 95) dX9_chance_95 (Nat.le_of_ble_eq_true rfl) rfl ?_
              refine G_join (pc := 97) (P := fun v => v = sgE (t 35) r l) 113 (fun v_113 hv_113 => ?_) (fun j_113 => ?_)
              · rw [hv_113]
                refine G_istore (pc := 113) dX9_chance_113 (Nat.le_of_ble_eq_true rfl) rfl ?_
                refine G_iconst (pc := 115) dX9_chance_115 (by decide) ?_
                refine G_istore (pc := 116) dX9_chance_116 (Nat.le_of_ble_eq_true rfl) rfl ?_
                have hinc : incP (t 35) (t 37) r l := ⟨by omega, h_50⟩
                refine inner l h0 (by omega) hinc h_82 ?_ 1 (by omega) n _ _ _ (by omega) (by omega) (by rw [show 3 * l + (1 - 1) = 3 * l by omega]; exact hX0)
                intro n' p8 p9 p10 p11 q1 q2
                refine G_iinc (pc := 245) dX9_chance_245 rfl rfl (by omega) ?_
                refine G_goto (pc := 248) (tgt := 5) dX9_chance_248 rfl ?_
                exact ih (by omega) n' _ _ _ _ _ _ _ (by omega) (by omega) (by rw [show 3 * (l + 1) = 3 * l + 3 by omega]; exact q2)
              · refine G_aload_n (pc := 97) dX9_chance_97 rfl ?_
                refine G_getP (pc := 98) dX9_chance_98 fk_X9_19 rfl rfl rfl ?_
                refine G_iload (pc := 101) dX9_chance_101 rfl ?_
                refine G_iaload (pc := 103) dX9_chance_103 rfl rfl (by omega) ?_
                refine G_iload_n (pc := 104) dX9_chance_104 rfl ?_
                refine G_icmp_ne (pc := 105) (tgt := 112) dX9_chance_105 rfl (fun h_105 => ?_) (fun h_105 => ?_)
                · refine G_iconst (pc := 112) dX9_chance_112 (by decide) ?_
                  exact j_113 _ (by unfold sgE; first | rw [if_pos h_105] | rw [if_neg h_105])
                · refine G_iconst (pc := 108) dX9_chance_108 (by decide) ?_
                  refine G_goto (pc := 109) (tgt := 113) dX9_chance_109 rfl ?_
                  exact j_113 _ (by unfold sgE; first | rw [if_pos h_105] | rw [if_neg h_105])
            · try simp only [bq0, ne_eq, Classical.not_not] at h_82
              have hno : ∀ m, m / 3 = l → ¬ cdM t r m := fun m e z => by have := z.1.2.1; rw [e] at this; exact this h_82
              refine G_goto (pc := 85) (tgt := 245) dX9_chance_85 rfl ?_
              refine G_iinc (pc := 245) dX9_chance_245 rfl rfl (by omega) ?_
              refine G_goto (pc := 248) (tgt := 5) dX9_chance_248 rfl ?_
              exact ih (by omega) n _ _ _ _ _ _ _ (by omega) (by omega) (hskip hno (by omega))
          · refine G_aload_n (pc := 64) dX9_chance_64 rfl ?_
            refine G_getP (pc := 65) dX9_chance_65 fk_X9_25 rfl rfl rfl ?_
            refine G_iload (pc := 68) dX9_chance_68 rfl ?_
            refine G_iaload (pc := 70) dX9_chance_70 rfl rfl (by omega) ?_
            refine G_iload_n (pc := 71) dX9_chance_71 rfl ?_
            refine G_icmp_ne (pc := 72) (tgt := 245) dX9_chance_72 rfl (fun h_72 => ?_) (fun h_72 => ?_)
            · have hno : ∀ m, m / 3 = l → ¬ cdM t r m := fun m e z => by have := z.1.1.1; rw [e] at this; omega
              refine G_iinc (pc := 245) dX9_chance_245 rfl rfl (by omega) ?_
              refine G_goto (pc := 248) (tgt := 5) dX9_chance_248 rfl ?_
              exact ih (by omega) n _ _ _ _ _ _ _ (by omega) (by omega) (hskip hno (by omega))
            · refine G_aload_n (pc := 75) dX9_chance_75 rfl ?_
              refine G_getP (pc := 76) dX9_chance_76 fk_X9_53 rfl rfl rfl ?_
              refine G_iload (pc := 79) dX9_chance_79 rfl ?_
              refine G_baload (pc := 81) dX9_chance_81 rfl rfl (by omega) ?_
              refine G_if_ne (pc := 82) (tgt := 88) dX9_chance_82 rfl (fun h_82 => ?_) (fun h_82 => ?_)
              · try simp only [bq0, ne_eq, Classical.not_not] at h_82
                refine G_aload_n (pc := 88) dX9_chance_88 rfl ?_
                refine G_getP (pc := 89) dX9_chance_89 fk_X9_22 rfl rfl rfl ?_
                refine G_iload (pc := 92) dX9_chance_92 rfl ?_
                refine G_iaload (pc := 94) dX9_chance_94 rfl rfl (by omega) ?_
                refine G_istore (pc := 95) dX9_chance_95 (Nat.le_of_ble_eq_true rfl) rfl ?_
                refine G_join (pc := 97) (P := fun v => v = sgE (t 35) r l) 113 (fun v_113 hv_113 => ?_) (fun j_113 => ?_)
                · rw [hv_113]
                  refine G_istore (pc := 113) dX9_chance_113 (Nat.le_of_ble_eq_true rfl) rfl ?_
                  refine G_iconst (pc := 115) dX9_chance_115 (by decide) ?_
                  refine G_istore (pc := 116) dX9_chance_116 (Nat.le_of_ble_eq_true rfl) rfl ?_
                  have hinc : incP (t 35) (t 37) r l := ⟨by omega, h_50⟩
                  refine inner l h0 (by omega) hinc h_82 ?_ 1 (by omega) n _ _ _ (by omega) (by omega) (by rw [show 3 * l + (1 - 1) = 3 * l by omega]; exact hX0)
                  intro n' p8 p9 p10 p11 q1 q2
                  refine G_iinc (pc := 245) dX9_chance_245 rfl rfl (by omega) ?_
                  refine G_goto (pc := 248) (tgt := 5) dX9_chance_248 rfl ?_
                  exact ih (by omega) n' _ _ _ _ _ _ _ (by omega) (by omega) (by rw [show 3 * (l + 1) = 3 * l + 3 by omega]; exact q2)
                · refine G_aload_n (pc := 97) dX9_chance_97 rfl ?_
                  refine G_getP (pc := 98) dX9_chance_98 fk_X9_19 rfl rfl rfl ?_
                  refine G_iload (pc := 101) dX9_chance_101 rfl ?_
                  refine G_iaload (pc := 103) dX9_chance_103 rfl rfl (by omega) ?_
                  refine G_iload_n (pc := 104) dX9_chance_104 rfl ?_
                  refine G_icmp_ne (pc := 105) (tgt := 112) dX9_chance_105 rfl (fun h_105 => ?_) (fun h_105 => ?_)
                  · refine G_iconst (pc := 112) dX9_chance_112 (by decide) ?_
                    exact j_113 _ (by unfold sgE; first | rw [if_pos h_105] | rw [if_neg h_105])
                  · refine G_iconst (pc := 108) dX9_chance_108 (by decide) ?_
                    refine G_goto (pc := 109) (tgt := 113) dX9_chance_109 rfl ?_
                    exact j_113 _ (by unfold sgE; first | rw [if_pos h_105] | rw [if_neg h_105])
              · try simp only [bq0, ne_eq, Classical.not_not] at h_82
                have hno : ∀ m, m / 3 = l → ¬ cdM t r m := fun m e z => by have := z.1.2.1; rw [e] at this; exact this h_82
                refine G_goto (pc := 85) (tgt := 245) dX9_chance_85 rfl ?_
                refine G_iinc (pc := 245) dX9_chance_245 rfl rfl (by omega) ?_
                refine G_goto (pc := 248) (tgt := 5) dX9_chance_248 rfl ?_
                exact ih (by omega) n _ _ _ _ _ _ _ (by omega) (by omega) (hskip hno (by omega))
      · obtain ⟨hfr, hto, hdi, -⟩ := hS.2 l h0 (by omega)
        have ho : 0 ≤ othE (t 35) (t 37) r l ∧ othE (t 35) (t 37) r l < t 2184 0 := by unfold othE; split <;> assumption
        refine G_aload_n (pc := 14) dX9_chance_14 rfl ?_
        refine G_getP (pc := 15) dX9_chance_15 fk_X9_19 rfl rfl rfl ?_
        refine G_iload (pc := 18) dX9_chance_18 rfl ?_
        refine G_iaload (pc := 20) dX9_chance_20 rfl rfl (by omega) ?_
        refine G_iload_n (pc := 21) dX9_chance_21 rfl ?_
        refine G_icmp_ne (pc := 22) (tgt := 35) dX9_chance_22 rfl (fun h_22 => ?_) (fun h_22 => ?_)
        · refine G_aload_n (pc := 35) dX9_chance_35 rfl ?_
          refine G_getP (pc := 36) dX9_chance_36 fk_X9_19 rfl rfl rfl ?_
          refine G_iload (pc := 39) dX9_chance_39 rfl ?_
          refine G_iaload (pc := 41) dX9_chance_41 rfl rfl (by omega) ?_
          exact j_42 _ (by unfold othE; first | rw [if_pos h_22] | rw [if_neg h_22])
        · refine G_aload_n (pc := 25) dX9_chance_25 rfl ?_
          refine G_getP (pc := 26) dX9_chance_26 fk_X9_25 rfl rfl rfl ?_
          refine G_iload (pc := 29) dX9_chance_29 rfl ?_
          refine G_iaload (pc := 31) dX9_chance_31 rfl rfl (by omega) ?_
          refine G_goto (pc := 32) (tgt := 42) dX9_chance_32 rfl ?_
          exact j_42 _ (by unfold othE; first | rw [if_pos h_22] | rw [if_neg h_22])
  refine G_iconst (pc := 0) dX9_chance_0 (by decide) ?_
  refine G_istore_n (pc := 1) dX9_chance_1 (Nat.le_of_ble_eq_true rfl) rfl ?_
  refine G_iconst (pc := 2) dX9_chance_2 (by decide) ?_
  refine G_istore (pc := 3) dX9_chance_3 (Nat.le_of_ble_eq_true rfl) rfl ?_
  exact loop 0 (by omega) 0 _ _ _ _ _ _ _ (by omega) (by omega) (by rw [show j - 0 = j by omega]; exact hZ)
