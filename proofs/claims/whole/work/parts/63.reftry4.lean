/-! TRYING: the reference, a node of the search with rooms behind it -/
/-- one step of a node: the next room stands, or the search is cut -/
theorem tp_step {E : Ev} {e : SE} {t : Sto} {Q : Option MV → Sto → Prop} (hE : EOK e) (hlim : 1 ≤ e.lim ∧ e.lim ≤ 20000) (hM : EM e t) (ho : t 50 = e.ord ∧ t 2210 0 = e.cnt) (a : Int) (P : PF) (c : AC) (s : Sto) (md j : Int) (o5 o6 o7 : Option MV) (ha : 0 ≤ a ∧ a + 1 < e.cnt) (hP : PLC e (a + 1) P) (hB : BP e.n (30 * a) P) (hA : AG e.n P (pM s)) (hF : FRm t s) (hR : RELm e c s md 0) (hj : s 52 (a + 1) = j ∧ 0 ≤ j) (hZ : ¬ (nth (cdE e P (e.ord (a + 1))) 0 (3 * e.k) j < 0 ∧ 0 < j))
    (k1 : e.lim ≤ md → ∀ (u : Sto) (dp : Int) (o5 o6 o7 : Option MV), FRm t u → RELm e (c.made, 1, c.best, c.bx, c.bY, c.bl) u md 1 → G E cX9_tryPart RX9 (some .boolean) 6 48 [some (mP 31), some (mI e.lim), some (mI md), some (mI dp), some (mI 1), o5, o6, o7] [] u Q)
    (k0 : ¬ e.lim ≤ md → ∀ (u : Sto) (o5 o6 o7 : Option MV), FRm t u → AG e.n (putF P (e.ord (a + 1)) (sXJ e P (e.ord (a + 1)) j) (sYJ e P (e.ord (a + 1)) j) (sLJ e P (e.ord (a + 1)) j)) (pM u) → BP e.n (30 * (a + 1)) (putF P (e.ord (a + 1)) (sXJ e P (e.ord (a + 1)) j) (sYJ e P (e.ord (a + 1)) j) (sLJ e P (e.ord (a + 1)) j)) → RELm e (c.made + 1, c.stp, c.best, c.bx, c.bY, c.bl) u (md + 1) 0 → (∀ i, i ≤ a + 1 → u 52 i = s 52 i) → (a + 1 + 1 < e.cnt → u 52 (a + 1 + 1) = 0) → G E cX9_tryPart RX9 (some .boolean) 6 48 [some (mP 31), some (mI e.lim), some (mI (md + 1)), some (mI (a + 1 + 1)), some (mI 0), o5, o6, o7] [] u Q) : G E cX9_tryPart RX9 (some .boolean) 6 48 [some (mP 31), some (mI e.lim), some (mI md), some (mI (a + 1)), some (mI 0), o5, o6, o7] [] s Q := by
  have hn24 := hE.sok.1
  have hcn := hE.cnt
  obtain ⟨hMs, s50, s2210⟩ := FRm_E hF hM ho
  have hSM := EM_SM hE.sok hMs
  have hnb := PLC_nb hE (by omega) ha.2 hP
  have hor := hE.ord (a + 1) (by omega) ha.2
  have hnt : nth (cdM s (e.ord (a + 1))) 0 (3 * s 2188 0) j = nth (cdE e P (e.ord (a + 1))) 0 (3 * e.k) j := by
    rw [EM_nth hMs]; exact (AG_sJ hE.sok hA j hnb).1.symm
  generalize hZ9 : nth (cdM s (e.ord (a + 1))) 0 (3 * s 2188 0) j = Z at hnt
  obtain ⟨⟨r1, r2, r3⟩, r4, r5, r6⟩ := id hR
  obtain ⟨y, hy⟩ : ∃ y, y = chT s (e.ord (a + 1)) Z := ⟨_, rfl⟩
  have hFy : FRm t y := by rw [hy]; exact ch_fr _ _ hF
  obtain ⟨hMy, y50, y2210⟩ := FRm_E hFy hM ho
  have hSMy := EM_SM hE.sok hMy
  obtain ⟨q1, q2⟩ := chT_ok s (e.ord (a + 1)) Z
  rw [← hy] at q1
  have y52 : y 52 = s 52 := by rw [hy]; exact q2 52 (by decide)
  have hnby : 0 ≤ nbS (y 2188 0) (y 35) (y 37) (y 46) (e.ord (a + 1)) := by
    have e1 : nbS (y 2188 0) (y 35) (y 37) (y 46) (e.ord (a + 1)) = nbE e (pM y) (e.ord (a + 1)) := by rw [hMy.2.1, hMy.2.2.1, hMy.2.2.2.2.1]; rfl
    rw [e1, q1, ← AG_nb hE.sok hA]
    exact hnb
  obtain ⟨v, hv⟩ : ∃ v, v = sbT y (e.ord (a + 1)) j := ⟨_, rfl⟩
  obtain ⟨v1, v2, v3, v4⟩ := stand_ok (Z := Z) hE.sok hMs hF hA hB (by omega) hnb hZ v (by rw [hv, hy])
  have v52 : v 52 = s 52 := v3 52 (by unfold keptM; decide)
  have v2210 : v 2210 0 = e.cnt := by rw [v3 2210 (by unfold keptM; decide)]; exact s2210
  have hcut : e.lim ≤ md → ∀ (o5 o6 o7 : Option MV), G E cX9_tryPart RX9 (some .boolean) 6 48 [some (mP 31), some (mI e.lim), some (mI md), some (mI (a + 1)), some (mI 1), o5, o6, o7] [] y Q := by
    intro hl o5 o6 o7
    refine k1 hl y (a + 1) o5 o6 o7 hFy (REL_kept (s := s) ⟨⟨r1, rfl, r3⟩, r4, r5, r6⟩ ?_ ?_ ?_ ?_)
    · rw [hy]; exact q2 2217 (by decide)
    · rw [hy]; exact q2 53 (by decide)
    · rw [hy]; exact q2 54 (by decide)
    · rw [hy]; exact q2 55 (by decide)
  have hRv : ¬ e.lim ≤ md → RELm e (c.made + 1, c.stp, c.best, c.bx, c.bY, c.bl) v (md + 1) 0 := by
    intro hl
    refine REL_kept (s := s) ⟨⟨?_, r2, r3⟩, r4, r5, by omega⟩ (v3 2217 (by unfold keptM; decide)) (v3 53 (by unfold keptM; decide)) (v3 54 (by unfold keptM; decide)) (v3 55 (by unfold keptM; decide))
    show c.made + 1 = md + 1
    rw [r1]
  have hgo1 : ¬ e.lim ≤ md → a + 1 + 1 < e.cnt → ∀ (o5 o6 o7 : Option MV), G E cX9_tryPart RX9 (some .boolean) 6 48 [some (mP 31), some (mI e.lim), some (mI (md + 1)), some (mI (a + 1 + 1)), some (mI 0), o5, o6, o7] [] (su v 52 (a + 1 + 1) 0) Q := by
    intro hl hlt o5 o6 o7
    refine k0 hl _ o5 o6 o7 (c52_fr _ _ v2) (by rw [c52_pM]; exact v1) (BP_up v4 (by omega)) (REL_kept (hRv hl) (su_ne (by decide)) (su_ne (by decide)) (su_ne (by decide)) (su_ne (by decide))) (fun i hi => ?_) (fun _ => su_at _ _ _ _)
    rw [su_same, if_neg (by omega), v52]
  have hgo2 : ¬ e.lim ≤ md → ¬ a + 1 + 1 < e.cnt → ∀ (o5 o6 o7 : Option MV), G E cX9_tryPart RX9 (some .boolean) 6 48 [some (mP 31), some (mI e.lim), some (mI (md + 1)), some (mI (a + 1 + 1)), some (mI 0), o5, o6, o7] [] v Q := by
    intro hl hlt o5 o6 o7
    exact k0 hl _ o5 o6 o7 v2 v1 (BP_up v4 (by omega)) (hRv hl) (fun i hi => by rw [v52]) (fun z => absurd z hlt)
  clear k0 k1
  generalize hr : e.ord (a + 1) = r at *
  refine G_iload_n (pc := 48) dX9_tryPart_48 rfl ?_
  refine G_if_le (pc := 49) (tgt := 65) dX9_tryPart_49 rfl (fun h_49 => ?_) (fun h_49 => ?_)
  · exfalso; omega
  · refine G_iload_n (pc := 52) dX9_tryPart_52 rfl ?_
    refine G_aload_n (pc := 53) dX9_tryPart_53 rfl ?_
    refine G_getI (pc := 54) dX9_tryPart_54 fk_X9_175 rfl rfl rfl ?_
    rw [s2210]
    refine G_icmp_ge (pc := 57) (tgt := 65) dX9_tryPart_57 rfl (fun h_57 => ?_) (fun h_57 => ?_)
    · exfalso; omega
    · refine G_iload (pc := 60) dX9_tryPart_60 rfl ?_
      refine G_if_eq (pc := 62) (tgt := 86) dX9_tryPart_62 rfl (fun h_62 => ?_) (fun h_62 => ?_)
      · try simp only [bq0, ne_eq, Classical.not_not] at h_62
        refine G_iload_n (pc := 86) dX9_tryPart_86 rfl ?_
        refine G_aload_n (pc := 87) dX9_tryPart_87 rfl ?_
        refine G_getI (pc := 88) dX9_tryPart_88 fk_X9_175 rfl rfl rfl ?_
        rw [s2210]
        refine G_icmp_ne (pc := 91) (tgt := 126) dX9_tryPart_91 rfl (fun h_91 => ?_) (fun h_91 => ?_)
        · refine G_aload_n (pc := 126) dX9_tryPart_126 rfl ?_
          refine G_getP (pc := 127) dX9_tryPart_127 fk_X9_65 rfl rfl rfl ?_
          refine G_iload_n (pc := 130) dX9_tryPart_130 rfl ?_
          refine G_iaload (pc := 131) dX9_tryPart_131 rfl rfl (by omega) ?_
          rw [s50, hr]
          refine G_istore (pc := 132) dX9_tryPart_132 (Nat.le_of_ble_eq_true rfl) rfl ?_
          refine G_aload_n (pc := 134) dX9_tryPart_134 rfl ?_
          refine G_iload (pc := 135) dX9_tryPart_135 rfl ?_
          refine G_aload_n (pc := 137) dX9_tryPart_137 rfl ?_
          refine G_getP (pc := 138) dX9_tryPart_138 fk_X9_71 rfl rfl rfl ?_
          refine G_iload_n (pc := 141) dX9_tryPart_141 rfl ?_
          refine G_iaload (pc := 142) dX9_tryPart_142 rfl rfl (by omega) ?_
          rw [hj.1]
          refine G_cV1 (pc := 143) (c_X9_chance _ _ _ (by exact hSM) (by rw [hMs.1]; exact hor) (by omega) (by exact BN_BD hF.1.1 (by decide)) (by exact BN_BD hF.1.2.1 (by decide)) (by exact BN_BD hF.1.2.2 (by decide))) dX9_tryPart_143 ml_X9_163 rfl rfl rfl (by decide) (Nat.le_of_ble_eq_true rfl) ?_
          rw [hZ9, ← hy]
          refine G_if_ne (pc := 146) (tgt := 158) dX9_tryPart_146 rfl (fun h_146 => ?_) (fun h_146 => ?_)
          · try simp only [bq0, ne_eq, Classical.not_not] at h_146
            refine G_iconst (pc := 158) dX9_tryPart_158 (by decide) ?_
            refine G_goto (pc := 159) (tgt := 163) dX9_tryPart_159 rfl ?_
            refine G_istore (pc := 163) dX9_tryPart_163 (Nat.le_of_ble_eq_true rfl) rfl ?_
            refine G_iload (pc := 165) dX9_tryPart_165 rfl ?_
            refine G_if_ne (pc := 167) (tgt := 202) dX9_tryPart_167 rfl (fun h_167 => ?_) (fun h_167 => ?_)
            · try simp only [bq0, ne_eq, Classical.not_not] at h_167
              refine G_iload_n (pc := 202) dX9_tryPart_202 rfl ?_
              refine G_iload_n (pc := 203) dX9_tryPart_203 rfl ?_
              refine G_icmp_ne (pc := 204) (tgt := 213) dX9_tryPart_204 rfl (fun h_204 => ?_) (fun h_204 => ?_)
              · refine G_aload_n (pc := 213) dX9_tryPart_213 rfl ?_
                refine G_iload (pc := 214) dX9_tryPart_214 rfl ?_
                refine G_aload_n (pc := 216) dX9_tryPart_216 rfl ?_
                refine G_getP (pc := 217) dX9_tryPart_217 fk_X9_71 rfl rfl rfl ?_
                refine G_iload_n (pc := 220) dX9_tryPart_220 rfl ?_
                refine G_iaload (pc := 221) dX9_tryPart_221 rfl rfl (by omega) ?_
                try simp (disch := decide) only [su_ne, su_at, su_same, sv_ne, sv_at]
                rw [y52, hj.1]
                refine G_cV1 (pc := 222) (c_X9_standBy _ _ _ (by exact hSMy) (by rw [hMy.1]; exact hor) (by exact hj.2) (by exact fun _ => hnby) (by exact BN_BD hFy.1.1 (by decide)) (by exact BN_BD hFy.1.2.1 (by decide)) (by exact BN_BD hFy.1.2.2 (by decide))) dX9_tryPart_222 ml_X9_194 rfl rfl rfl (by decide) (Nat.le_of_ble_eq_true rfl) ?_
                rw [← hv]
                refine G_istore (pc := 225) dX9_tryPart_225 (Nat.le_of_ble_eq_true rfl) rfl ?_
                refine G_iinc (pc := 227) dX9_tryPart_227 rfl rfl (by omega) ?_
                refine G_iinc (pc := 230) dX9_tryPart_230 rfl rfl (by omega) ?_
                refine G_iload_n (pc := 233) dX9_tryPart_233 rfl ?_
                refine G_aload_n (pc := 234) dX9_tryPart_234 rfl ?_
                refine G_getI (pc := 235) dX9_tryPart_235 fk_X9_175 rfl rfl rfl ?_
                try simp (disch := decide) only [su_ne, su_at, su_same, sv_ne, sv_at]
                rw [v2210]
                refine G_icmp_ge (pc := 238) (tgt := 248) dX9_tryPart_238 rfl (fun h_238 => ?_) (fun h_238 => ?_)
                · refine G_goto (pc := 248) (tgt := 48) dX9_tryPart_248 rfl ?_
                  first | exact hcut (by omega) _ _ _ | exact hgo2 (by omega) (by omega) _ _ _ | exact hgo1 (by omega) (by omega) _ _ _
                · refine G_aload_n (pc := 241) dX9_tryPart_241 rfl ?_
                  refine G_getP (pc := 242) dX9_tryPart_242 fk_X9_71 rfl rfl rfl ?_
                  refine G_iload_n (pc := 245) dX9_tryPart_245 rfl ?_
                  refine G_iconst (pc := 246) dX9_tryPart_246 (by decide) ?_
                  refine G_iastore (pc := 247) dX9_tryPart_247 rfl rfl (by omega) ?_
                  refine G_goto (pc := 248) (tgt := 48) dX9_tryPart_248 rfl ?_
                  first | exact hcut (by omega) _ _ _ | exact hgo2 (by omega) (by omega) _ _ _ | exact hgo1 (by omega) (by omega) _ _ _
              · refine G_iconst (pc := 207) dX9_tryPart_207 (by decide) ?_
                refine G_istore (pc := 208) dX9_tryPart_208 (Nat.le_of_ble_eq_true rfl) rfl ?_
                refine G_goto (pc := 210) (tgt := 248) dX9_tryPart_210 rfl ?_
                refine G_goto (pc := 248) (tgt := 48) dX9_tryPart_248 rfl ?_
                first | exact hcut (by omega) _ _ _ | exact hgo2 (by omega) (by omega) _ _ _ | exact hgo1 (by omega) (by omega) _ _ _
            · try simp only [bq0, ne_eq, Classical.not_not] at h_167
              exact absurd h_167 (by decide)
          · try simp only [bq0, ne_eq, Classical.not_not] at h_146
            refine G_aload_n (pc := 149) dX9_tryPart_149 rfl ?_
            refine G_getP (pc := 150) dX9_tryPart_150 fk_X9_71 rfl rfl rfl ?_
            refine G_iload_n (pc := 153) dX9_tryPart_153 rfl ?_
            refine G_iaload (pc := 154) dX9_tryPart_154 rfl rfl (by omega) ?_
            try simp (disch := decide) only [su_ne, su_at, su_same, sv_ne, sv_at]
            rw [y52, hj.1]
            refine G_if_ne (pc := 155) (tgt := 162) dX9_tryPart_155 rfl (fun h_155 => ?_) (fun h_155 => ?_)
            · try simp only [bq0, ne_eq, Classical.not_not] at h_155
              exfalso; omega
            · try simp only [bq0, ne_eq, Classical.not_not] at h_155
              refine G_iconst (pc := 158) dX9_tryPart_158 (by decide) ?_
              refine G_goto (pc := 159) (tgt := 163) dX9_tryPart_159 rfl ?_
              refine G_istore (pc := 163) dX9_tryPart_163 (Nat.le_of_ble_eq_true rfl) rfl ?_
              refine G_iload (pc := 165) dX9_tryPart_165 rfl ?_
              refine G_if_ne (pc := 167) (tgt := 202) dX9_tryPart_167 rfl (fun h_167 => ?_) (fun h_167 => ?_)
              · try simp only [bq0, ne_eq, Classical.not_not] at h_167
                refine G_iload_n (pc := 202) dX9_tryPart_202 rfl ?_
                refine G_iload_n (pc := 203) dX9_tryPart_203 rfl ?_
                refine G_icmp_ne (pc := 204) (tgt := 213) dX9_tryPart_204 rfl (fun h_204 => ?_) (fun h_204 => ?_)
                · refine G_aload_n (pc := 213) dX9_tryPart_213 rfl ?_
                  refine G_iload (pc := 214) dX9_tryPart_214 rfl ?_
                  refine G_aload_n (pc := 216) dX9_tryPart_216 rfl ?_
                  refine G_getP (pc := 217) dX9_tryPart_217 fk_X9_71 rfl rfl rfl ?_
                  refine G_iload_n (pc := 220) dX9_tryPart_220 rfl ?_
                  refine G_iaload (pc := 221) dX9_tryPart_221 rfl rfl (by omega) ?_
                  try simp (disch := decide) only [su_ne, su_at, su_same, sv_ne, sv_at]
                  rw [y52, hj.1]
                  refine G_cV1 (pc := 222) (c_X9_standBy _ _ _ (by exact hSMy) (by rw [hMy.1]; exact hor) (by exact hj.2) (by exact fun _ => hnby) (by exact BN_BD hFy.1.1 (by decide)) (by exact BN_BD hFy.1.2.1 (by decide)) (by exact BN_BD hFy.1.2.2 (by decide))) dX9_tryPart_222 ml_X9_194 rfl rfl rfl (by decide) (Nat.le_of_ble_eq_true rfl) ?_
                  rw [← hv]
                  refine G_istore (pc := 225) dX9_tryPart_225 (Nat.le_of_ble_eq_true rfl) rfl ?_
                  refine G_iinc (pc := 227) dX9_tryPart_227 rfl rfl (by omega) ?_
                  refine G_iinc (pc := 230) dX9_tryPart_230 rfl rfl (by omega) ?_
                  refine G_iload_n (pc := 233) dX9_tryPart_233 rfl ?_
                  refine G_aload_n (pc := 234) dX9_tryPart_234 rfl ?_
                  refine G_getI (pc := 235) dX9_tryPart_235 fk_X9_175 rfl rfl rfl ?_
                  try simp (disch := decide) only [su_ne, su_at, su_same, sv_ne, sv_at]
                  rw [v2210]
                  refine G_icmp_ge (pc := 238) (tgt := 248) dX9_tryPart_238 rfl (fun h_238 => ?_) (fun h_238 => ?_)
                  · refine G_goto (pc := 248) (tgt := 48) dX9_tryPart_248 rfl ?_
                    first | exact hcut (by omega) _ _ _ | exact hgo2 (by omega) (by omega) _ _ _ | exact hgo1 (by omega) (by omega) _ _ _
                  · refine G_aload_n (pc := 241) dX9_tryPart_241 rfl ?_
                    refine G_getP (pc := 242) dX9_tryPart_242 fk_X9_71 rfl rfl rfl ?_
                    refine G_iload_n (pc := 245) dX9_tryPart_245 rfl ?_
                    refine G_iconst (pc := 246) dX9_tryPart_246 (by decide) ?_
                    refine G_iastore (pc := 247) dX9_tryPart_247 rfl rfl (by omega) ?_
                    refine G_goto (pc := 248) (tgt := 48) dX9_tryPart_248 rfl ?_
                    first | exact hcut (by omega) _ _ _ | exact hgo2 (by omega) (by omega) _ _ _ | exact hgo1 (by omega) (by omega) _ _ _
                · refine G_iconst (pc := 207) dX9_tryPart_207 (by decide) ?_
                  refine G_istore (pc := 208) dX9_tryPart_208 (Nat.le_of_ble_eq_true rfl) rfl ?_
                  refine G_goto (pc := 210) (tgt := 248) dX9_tryPart_210 rfl ?_
                  refine G_goto (pc := 248) (tgt := 48) dX9_tryPart_248 rfl ?_
                  first | exact hcut (by omega) _ _ _ | exact hgo2 (by omega) (by omega) _ _ _ | exact hgo1 (by omega) (by omega) _ _ _
              · try simp only [bq0, ne_eq, Classical.not_not] at h_167
                exact absurd h_167 (by decide)
        · exfalso; omega
      · try simp only [bq0, ne_eq, Classical.not_not] at h_62
        exact absurd trivial h_62
