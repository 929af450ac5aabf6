/-! TRYING: the reference, the whole of a node -/
theorem tp_node {E : Ev} {e : SE} {t : Sto} {Q : Option MV → Sto → Prop} (hE : EOK e) (hlim : 1 ≤ e.lim ∧ e.lim ≤ 20000) (hM : EM e t) (ho : t 50 = e.ord ∧ t 2210 0 = e.cnt) (hc1 : 1 < e.cnt) : ∀ (f : Nat) (a : Int) (P : PF) (c : AC) (s : Sto) (md : Int) (o5 o6 o7 : Option MV), (0 ≤ a ∧ a < e.cnt) → e.cnt - a ≤ (f : Int) + 1 → PLC e (a + 1) P → BP e.n (30 * a) P → AG e.n P (pM s) → FRm t s → RELm e c s md 0 → (a + 1 < e.cnt → s 52 (a + 1) = 0) → (∀ i, 1 ≤ i → i ≤ a → 0 ≤ s 52 i ∧ s 52 i ≤ 1000) →
    (∀ (u : Sto) (md' : Int) (o5 o6 o7 : Option MV), FRm t u → (1 ≤ a → AG e.n (rmF P (e.ord a)) (pM u) ∧ u 52 a = s 52 a + 1) → (∀ i, 1 ≤ i → i < a → u 52 i = s 52 i) → RELm e (bodyF e f a P c) u md' 0 → G E cX9_tryPart RX9 (some .boolean) 6 48 [some (mP 31), some (mI e.lim), some (mI md'), some (mI a), some (mI 0), o5, o6, o7] [] u Q) →
    (∀ (u : Sto) (md' dp : Int) (o5 o6 o7 : Option MV), FRm t u → RELm e (bodyF e f a P c) u md' 1 → G E cX9_tryPart RX9 (some .boolean) 6 48 [some (mP 31), some (mI e.lim), some (mI md'), some (mI dp), some (mI 1), o5, o6, o7] [] u Q) →
    G E cX9_tryPart RX9 (some .boolean) 6 48 [some (mP 31), some (mI e.lim), some (mI md), some (mI (a + 1)), some (mI 0), o5, o6, o7] [] s Q := by
  intro f
  induction f with
  | zero =>
    intro a P c s md o5 o6 o7 ha hf hP hB hA hF hR h0 hch k0 k1
    exact tp_leaf hE hM ho hc1 0 a P c s md o5 o6 o7 (by omega) hP hA hF hR hch k0
  | succ f ih =>
    intro a P c s md o5 o6 o7 ha hf hP hB hA hF hR h0 hch k0 k1
    by_cases hac : a + 1 < e.cnt
    · have hk := hE.sok.1
      have stp : ∀ (s1 : Sto) (c1 : AC) (md1 j : Int) (o5 o6 o7 : Option MV), FRm t s1 → AG e.n P (pM s1) → RELm e c1 s1 md1 0 → s1 52 (a + 1) = j → (0 ≤ j ∧ j ≤ 500) → (∀ i, 1 ≤ i → i ≤ a → s1 52 i = s 52 i) → ¬ (nth (cdE e P (e.ord (a + 1))) 0 (3 * e.k) j < 0 ∧ 0 < j) →
          (∀ (u : Sto) (md' : Int) (o5 o6 o7 : Option MV), FRm t u → AG e.n P (pM u) → u 52 (a + 1) = j + 1 → (∀ i, 1 ≤ i → i ≤ a → u 52 i = s 52 i) → RELm e (tryF e (f + 1) (a + 1) P (sXJ e P (e.ord (a + 1)) j) (sYJ e P (e.ord (a + 1)) j) (sLJ e P (e.ord (a + 1)) j) c1) u md' 0 → G E cX9_tryPart RX9 (some .boolean) 6 48 [some (mP 31), some (mI e.lim), some (mI md'), some (mI (a + 1)), some (mI 0), o5, o6, o7] [] u Q) →
          (∀ (u : Sto) (md' dp : Int) (o5 o6 o7 : Option MV), FRm t u → RELm e (tryF e (f + 1) (a + 1) P (sXJ e P (e.ord (a + 1)) j) (sYJ e P (e.ord (a + 1)) j) (sLJ e P (e.ord (a + 1)) j) c1) u md' 1 → G E cX9_tryPart RX9 (some .boolean) 6 48 [some (mP 31), some (mI e.lim), some (mI md'), some (mI dp), some (mI 1), o5, o6, o7] [] u Q) →
          G E cX9_tryPart RX9 (some .boolean) 6 48 [some (mP 31), some (mI e.lim), some (mI md1), some (mI (a + 1)), some (mI 0), o5, o6, o7] [] s1 Q := by
        intro s1 c1 md1 j o5 o6 o7 hF1 hA1 hR1 hj hjb hs1 hZ kk0 kk1
        refine tp_step hE hlim hM ho a P c1 s1 md1 j o5 o6 o7 ⟨ha.1, hac⟩ hP hB hA1 hF1 hR1 ⟨hj, hjb.1⟩ hZ ?_ ?_
        · intro hl u dp p5 p6 p7 hFu hRu
          refine kk1 u md1 dp p5 p6 p7 hFu ?_
          rw [tryF_lim (by rw [hR1.1.1]; exact hl)]
          exact hRu
        · intro hl u p5 p6 p7 hFu hAu hBu hRu hu52 hu0
          have hl' : ¬ e.lim ≤ c1.made := by rw [hR1.1.1]; exact hl
          refine ih (a + 1) _ _ u (md1 + 1) p5 p6 p7 ⟨by omega, hac⟩ (by omega) (PLC_put (by omega) hP _ _ _) hBu hAu hFu hRu hu0 (fun i i1 i2 => ?_) ?_ ?_
          · rw [hu52 i i2]
            rcases (show i ≤ a ∨ i = a + 1 by omega) with y | y
            · rw [hs1 i i1 y]; exact hch i i1 y
            · rw [y, hj]; omega
          · intro w md' q5 q6 q7 hFw hw1 hw2 hRw
            obtain ⟨w1, w2⟩ := hw1 (by omega)
            refine kk0 w md' q5 q6 q7 hFw (AG_trans (rm_put hE (by omega) hac hP _ _ _) w1) (by rw [w2, hu52 (a + 1) (Int.le_refl _), hj]) (fun i i1 i2 => by rw [hw2 i i1 (by omega), hu52 i (by omega), hs1 i i1 i2]) ?_
            rw [tryF_body rfl hl']
            exact hRw
          · intro w md' dp q5 q6 q7 hFw hRw
            refine kk1 w md' dp q5 q6 q7 hFw ?_
            rw [tryF_body rfl hl']
            exact hRw
      have endc : ∀ (s1 : Sto) (c1 : AC) (md1 j : Int) (o5 o6 o7 : Option MV), FRm t s1 → AG e.n P (pM s1) → RELm e c1 s1 md1 0 → s1 52 (a + 1) = j → 0 < j → (∀ i, 1 ≤ i → i ≤ a → s1 52 i = s 52 i) → nth (cdE e P (e.ord (a + 1))) 0 (3 * e.k) j < 0 → c1 = bodyF e (f + 1) a P c → G E cX9_tryPart RX9 (some .boolean) 6 48 [some (mP 31), some (mI e.lim), some (mI md1), some (mI (a + 1)), some (mI 0), o5, o6, o7] [] s1 Q := by
        intro s1 c1 md1 j o5 o6 o7 hF1 hA1 hR1 hj hj0 hs1 hZ hX
        refine tp_end hE hM ho a P c1 s1 md1 j o5 o6 o7 ⟨ha.1, hac⟩ hP hA1 hF1 hR1 ⟨hj, hj0⟩ hZ (fun i i1 i2 => by rw [hs1 i i1 i2]; exact hch i i1 i2) ?_
        intro u md' p5 p6 p7 hFu hu1 hu2 hRu
        refine k0 u md' p5 p6 p7 hFu (fun ha1 => ?_) (fun i i1 i2 => by rw [hu2 i i1 i2, hs1 i i1 (by omega)]) (by rw [← hX]; exact hRu)
        obtain ⟨x1, x2⟩ := hu1 ha1
        exact ⟨x1, by rw [x2, hs1 a ha1 (Int.le_refl _)]⟩
      by_cases hfm : 0 ≤ fmE e P (e.ord (a + 1))
      · have hbody : bodyF e (f + 1) a P c = itr (stF e (f + 1) a P) 0 (3 * e.k) c := by unfold bodyF; rw [if_pos hac, if_pos hfm]
        have hfm' : nth (cdE e P (e.ord (a + 1))) 0 (3 * e.k) 0 = fmE e P (e.ord (a + 1)) := nth_0 0 (by omega)
        have loop : ∀ (n : Nat) (l : Int), 0 ≤ l → l ≤ 3 * e.k → 3 * e.k - l ≤ (n : Int) → ∀ (s1 : Sto) (c1 : AC) (md1 j : Int) (o5 o6 o7 : Option MV), FRm t s1 → AG e.n P (pM s1) → RELm e c1 s1 md1 0 → s1 52 (a + 1) = j → (0 ≤ j ∧ j ≤ l) → (∀ i, 1 ≤ i → i ≤ a → s1 52 i = s 52 i) → (∀ i, 0 ≤ i → nth (cdE e P (e.ord (a + 1))) 0 (3 * e.k) (j + i) = nth (cdE e P (e.ord (a + 1))) l (3 * e.k) i) → itr (stF e (f + 1) a P) l (3 * e.k) c1 = bodyF e (f + 1) a P c → G E cX9_tryPart RX9 (some .boolean) 6 48 [some (mP 31), some (mI e.lim), some (mI md1), some (mI (a + 1)), some (mI 0), o5, o6, o7] [] s1 Q := by
          intro n
          induction n with
          | zero =>
            intro l l0 l1 hn s1 c1 md1 j o5 o6 o7 hF1 hA1 hR1 hj hjb hs1 hnt hX
            have hz := hnt 0 (Int.le_refl _)
            rw [nth_ge (l := l) (by omega), show j + 0 = j by omega] at hz
            rw [itr_ge (by omega)] at hX
            refine endc s1 c1 md1 j o5 o6 o7 hF1 hA1 hR1 hj ?_ hs1 (by omega) hX
            rcases (show j = 0 ∨ 0 < j by omega) with y | y
            · rw [y, hfm'] at hz; omega
            · exact y
          | succ n ihn =>
            intro l l0 l1 hn s1 c1 md1 j o5 o6 o7 hF1 hA1 hR1 hj hjb hs1 hnt hX
            have hz := hnt 0 (Int.le_refl _)
            rw [show j + 0 = j by omega] at hz
            by_cases hZ : 0 ≤ nth (cdE e P (e.ord (a + 1))) l (3 * e.k) 0
            · obtain ⟨⟨m1, m2, m3, m4⟩, m5⟩ := nth_adv l1 hnt rfl hZ l0
              rw [st_adv m1 m2 m4] at hX
              have hst : stF e (f + 1) a P (nth (cdE e P (e.ord (a + 1))) l (3 * e.k) 0) c1 = tryF e (f + 1) (a + 1) P (sXJ e P (e.ord (a + 1)) j) (sYJ e P (e.ord (a + 1)) j) (sLJ e P (e.ord (a + 1)) j) c1 := by
                unfold sXJ sYJ sLJ
                rw [hz, if_pos hZ, if_pos hZ, if_pos hZ]
                unfold stF
                rw [if_pos ⟨hR1.1.2.1, m3⟩]
              rw [hst] at hX
              generalize nth (cdE e P (e.ord (a + 1))) l (3 * e.k) 0 = m at *
              refine stp s1 c1 md1 j o5 o6 o7 hF1 hA1 hR1 hj ⟨hjb.1, by omega⟩ hs1 (by omega) ?_ ?_
              · intro u md' p5 p6 p7 hFu hAu hu1 hu2 hRu
                exact ihn (m + 1) (by omega) (by omega) (by omega) u _ md' (j + 1) p5 p6 p7 hFu hAu hRu hu1 ⟨by omega, by omega⟩ hu2 m5 hX
              · intro u md' dp p5 p6 p7 hFu hRu
                rw [st_stop (by omega) (by rw [hRu.1.2.1]; decide)] at hX
                exact k1 u md' dp p5 p6 p7 hFu (by rw [← hX]; exact hRu)
            · rw [st_none l1 (fun q q0 q1 => by
                rw [nth_0 l l1] at hZ
                rcases fst_spec (cdE e P (e.ord (a + 1))) l (3 * e.k) with ⟨a1, a2⟩ | ⟨a1, a2, a3, a4⟩
                · exact a2 q q0 q1
                · exact absurd (Int.le_trans l0 a1) hZ)] at hX
              refine endc s1 c1 md1 j o5 o6 o7 hF1 hA1 hR1 hj ?_ hs1 (by omega) hX
              rcases (show j = 0 ∨ 0 < j by omega) with y | y
              · rw [y, hfm'] at hz; omega
              · exact y
        exact loop (3 * e.k).toNat 0 (Int.le_refl _) (by omega) (by omega) s c md 0 o5 o6 o7 hF hA hR (h0 hac) (by omega) (fun _ _ _ => rfl) (fun i _ => by rw [Int.zero_add]) hbody.symm
      · have hn0 := fun j => nth_no (P := cdE e P (e.ord (a + 1))) (K := 3 * e.k) (by omega) hfm j
        have hbody : bodyF e (f + 1) a P c = tryF e (f + 1) (a + 1) P (sXJ e P (e.ord (a + 1)) 0) (sYJ e P (e.ord (a + 1)) 0) (sLJ e P (e.ord (a + 1)) 0) c := by
          unfold bodyF sXJ sYJ sLJ
          have := hn0 0
          rw [if_pos hac, if_neg hfm, if_neg (by omega), if_neg (by omega), if_neg (by omega)]
        refine stp s c md 0 o5 o6 o7 hF hA hR (h0 hac) (by omega) (fun _ _ _ => rfl) (by omega) ?_ ?_
        · intro u md' p5 p6 p7 hFu hAu hu1 hu2 hRu
          exact endc u _ md' 1 p5 p6 p7 hFu hAu hRu hu1 (by omega) hu2 (hn0 1) hbody.symm
        · intro u md' dp p5 p6 p7 hFu hRu
          exact k1 u md' dp p5 p6 p7 hFu (by rw [hbody]; exact hRu)
    · exact tp_leaf hE hM ho hc1 (f + 1) a P c s md o5 o6 o7 (by omega) hP hA hF hR hch k0
/-- what trying a part leaves -/
def TPq (e : SE) (A : AC) (t u : Sto) (x : Int) : Prop := x = (if A.stp = 0 then 1 else 0) ∧ u 2197 0 = t 2197 0 + A.made ∧ A.best = u 2217 0 ∧ (u 2217 0 = -1 ∨ 0 ≤ u 2217 0) ∧ (u 2217 0 ≠ -1 → ∀ r, inO e r → A.bx r = u 53 r ∧ A.bY r = u 54 r ∧ A.bl r = u 55 r) ∧ BNM u ∧ (0 ≤ A.made ∧ A.made ≤ e.lim) ∧ (∀ w, keptT w → w ≠ 2197 → u w = t w)
theorem c_X9_tryPart (t : Sto) (e : SE) (g1 g2 g3 : Int → Int) (hM : EM e t) (hE : EOK e) (ho : t 50 = e.ord ∧ t 2210 0 = e.cnt) (hN : BNM t) (hl : 1 ≤ e.lim ∧ e.lim ≤ 20000) (hs : 0 ≤ t 2197 0 ∧ t 2197 0 ≤ 1000000) : CT yX9_tryPart cX9_tryPart 8 (some .boolean) 6 [mP 31, mI e.lim] t (fun a t' => ∃ x, a = some (mI x) ∧ TPq e (tryF e 24 0 p00 0 0 0 (0, 0, -1, g1, g2, g3)) t t' x) := by
  refine CT_of rfl rfl (Nat.le_of_ble_eq_true rfl) (fun E ht has => ?_)
  have hn24 := hE.sok.1
  have hcn := hE.cnt
  have h00 := hE.ord 0 (by omega) (by omega)
  have hn : t 2184 0 = e.n := hM.1
  have hbody : tryF e 24 0 p00 0 0 0 (0, 0, -1, g1, g2, g3) = bodyF e 23 0 (putF p00 (e.ord 0) 0 0 0) (1, 0, -1, g1, g2, g3) := tryF_body (f := 23) rfl (by show ¬ e.lim ≤ 0; omega)
  generalize hA : tryF e 24 0 p00 0 0 0 (0, 0, -1, g1, g2, g3) = A at *
  -- the end
  have fin : ∀ (s : Sto) (md dp cut : Int) (o5 o6 o7 : Option MV), FRm t s → RELm e A s md cut → (cut = 0 ∨ cut = 1) → G E cX9_tryPart RX9 (some .boolean) 6 251 [some (mP 31), some (mI e.lim), some (mI md), some (mI dp), some (mI cut), o5, o6, o7] [] s (fun a t' => ∃ x, a = some (mI x) ∧ TPq e A t t' x) := by
    intro s md dp cut o5 o6 o7 hF hR hct
    obtain ⟨⟨r1, r2, r3⟩, r4, r5, r6⟩ := hR
    have s2197 : s 2197 0 = t 2197 0 := by rw [hF.2 2197 (by unfold keptT keptF keptM; decide)]
    have post : ∀ x, x = (if cut = 0 then 1 else 0) → TPq e A t (su s 2197 0 (t 2197 0 + md)) x := by
      intro x hx
      refine ⟨by rw [r2]; exact hx, by rw [su_at, r1], by rw [su_ne (by decide)]; exact r3, by rw [su_ne (by decide)]; exact r4, by rw [su_ne (by decide), su_ne (by decide), su_ne (by decide), su_ne (by decide)]; exact r5, ?_, by rw [r1]; exact r6, fun w hw h9 => by rw [su_ne h9]; exact hF.2 w hw⟩
      unfold BNM
      rw [su_ne (by decide), su_ne (by decide), su_ne (by decide)]
      exact hF.1
    refine G_aload_n (pc := 251) dX9_tryPart_251 rfl ?_
    refine G_dup (pc := 252) dX9_tryPart_252 rfl ?_
    refine G_getI (pc := 253) dX9_tryPart_253 fk_X9_197 rfl rfl rfl ?_
    rw [s2197]
    refine G_iload_n (pc := 256) dX9_tryPart_256 rfl ?_
    refine G_iadd (pc := 257) dX9_tryPart_257 (by omega) ?_
    refine G_put (pc := 258) dX9_tryPart_258 fk_X9_197 fw_X9_13 rfl rfl rfl (fun h => absurd h (by decide)) ?_
    refine G_iload (pc := 261) dX9_tryPart_261 rfl ?_
    refine G_if_ne (pc := 263) (tgt := 270) dX9_tryPart_263 rfl (fun h_263 => ?_) (fun h_263 => ?_)
    · try simp only [bq0, ne_eq, Classical.not_not] at h_263
      refine G_iconst (pc := 270) dX9_tryPart_270 (by decide) ?_
      exact G_zreturn (pc := 271) dX9_tryPart_271 (by first | exact Or.inl rfl | exact Or.inr rfl | omega | (split <;> first | exact Or.inl rfl | exact Or.inr rfl)) ⟨_, rfl, post _ (by first | rw [if_pos h_263] | rw [if_neg h_263])⟩
    · try simp only [bq0, ne_eq, Classical.not_not] at h_263
      refine G_iconst (pc := 266) dX9_tryPart_266 (by decide) ?_
      refine G_goto (pc := 267) (tgt := 271) dX9_tryPart_267 rfl ?_
      exact G_zreturn (pc := 271) dX9_tryPart_271 (by first | exact Or.inl rfl | exact Or.inr rfl | omega | (split <;> first | exact Or.inl rfl | exact Or.inr rfl)) ⟨_, rfl, post _ (by first | rw [if_pos h_263] | rw [if_neg h_263])⟩
  have done : ∀ (s : Sto) (md dp cut : Int) (o5 o6 o7 : Option MV), FRm t s → RELm e A s md cut → ((cut = 0 ∧ dp = 0) ∨ (cut = 0 ∧ dp = 1 ∧ e.cnt = 1) ∨ cut = 1) → G E cX9_tryPart RX9 (some .boolean) 6 48 [some (mP 31), some (mI e.lim), some (mI md), some (mI dp), some (mI cut), o5, o6, o7] [] s (fun a t' => ∃ x, a = some (mI x) ∧ TPq e A t t' x) := by
    intro s md dp cut o5 o6 o7 hF hR hct
    obtain ⟨hMs, s50, s2210⟩ := FRm_E hF hM ho
    refine G_iload_n (pc := 48) dX9_tryPart_48 rfl ?_
    refine G_if_le (pc := 49) (tgt := 65) dX9_tryPart_49 rfl (fun h_49 => ?_) (fun h_49 => ?_)
    · refine G_iload_n (pc := 65) dX9_tryPart_65 rfl ?_
      refine G_aload_n (pc := 66) dX9_tryPart_66 rfl ?_
      refine G_getI (pc := 67) dX9_tryPart_67 fk_X9_175 rfl rfl rfl ?_
      rw [s2210]
      refine G_icmp_ne (pc := 70) (tgt := 251) dX9_tryPart_70 rfl (fun h_70 => ?_) (fun h_70 => ?_)
      · exact fin s md dp cut _ _ _ hF hR (by omega)
      · refine G_aload_n (pc := 73) dX9_tryPart_73 rfl ?_
        refine G_getI (pc := 74) dX9_tryPart_74 fk_X9_175 rfl rfl rfl ?_
        refine G_iconst (pc := 77) dX9_tryPart_77 (by decide) ?_
        rw [s2210]
        refine G_icmp_le (pc := 78) (tgt := 251) dX9_tryPart_78 rfl (fun h_78 => ?_) (fun h_78 => ?_)
        · exact fin s md dp cut _ _ _ hF hR (by omega)
        · refine G_iload (pc := 81) dX9_tryPart_81 rfl ?_
          refine G_if_ne (pc := 83) (tgt := 251) dX9_tryPart_83 rfl (fun h_83 => ?_) (fun h_83 => ?_)
          · try simp only [bq0, ne_eq, Classical.not_not] at h_83
            exact fin s md dp cut _ _ _ hF hR (by omega)
          · try simp only [bq0, ne_eq, Classical.not_not] at h_83
            exfalso; omega
    · refine G_iload_n (pc := 52) dX9_tryPart_52 rfl ?_
      refine G_aload_n (pc := 53) dX9_tryPart_53 rfl ?_
      refine G_getI (pc := 54) dX9_tryPart_54 fk_X9_175 rfl rfl rfl ?_
      rw [s2210]
      refine G_icmp_ge (pc := 57) (tgt := 65) dX9_tryPart_57 rfl (fun h_57 => ?_) (fun h_57 => ?_)
      · refine G_iload_n (pc := 65) dX9_tryPart_65 rfl ?_
        refine G_aload_n (pc := 66) dX9_tryPart_66 rfl ?_
        refine G_getI (pc := 67) dX9_tryPart_67 fk_X9_175 rfl rfl rfl ?_
        rw [s2210]
        refine G_icmp_ne (pc := 70) (tgt := 251) dX9_tryPart_70 rfl (fun h_70 => ?_) (fun h_70 => ?_)
        · exact fin s md dp cut _ _ _ hF hR (by omega)
        · refine G_aload_n (pc := 73) dX9_tryPart_73 rfl ?_
          refine G_getI (pc := 74) dX9_tryPart_74 fk_X9_175 rfl rfl rfl ?_
          refine G_iconst (pc := 77) dX9_tryPart_77 (by decide) ?_
          rw [s2210]
          refine G_icmp_le (pc := 78) (tgt := 251) dX9_tryPart_78 rfl (fun h_78 => ?_) (fun h_78 => ?_)
          · exact fin s md dp cut _ _ _ hF hR (by omega)
          · refine G_iload (pc := 81) dX9_tryPart_81 rfl ?_
            refine G_if_ne (pc := 83) (tgt := 251) dX9_tryPart_83 rfl (fun h_83 => ?_) (fun h_83 => ?_)
            · try simp only [bq0, ne_eq, Classical.not_not] at h_83
              exact fin s md dp cut _ _ _ hF hR (by omega)
            · try simp only [bq0, ne_eq, Classical.not_not] at h_83
              exfalso; omega
      · refine G_iload (pc := 60) dX9_tryPart_60 rfl ?_
        refine G_if_eq (pc := 62) (tgt := 86) dX9_tryPart_62 rfl (fun h_62 => ?_) (fun h_62 => ?_)
        · try simp only [bq0, ne_eq, Classical.not_not] at h_62
          exfalso; omega
        · try simp only [bq0, ne_eq, Classical.not_not] at h_62
          refine G_iload_n (pc := 65) dX9_tryPart_65 rfl ?_
          refine G_aload_n (pc := 66) dX9_tryPart_66 rfl ?_
          refine G_getI (pc := 67) dX9_tryPart_67 fk_X9_175 rfl rfl rfl ?_
          rw [s2210]
          refine G_icmp_ne (pc := 70) (tgt := 251) dX9_tryPart_70 rfl (fun h_70 => ?_) (fun h_70 => ?_)
          · exact fin s md dp cut _ _ _ hF hR (by omega)
          · refine G_aload_n (pc := 73) dX9_tryPart_73 rfl ?_
            refine G_getI (pc := 74) dX9_tryPart_74 fk_X9_175 rfl rfl rfl ?_
            refine G_iconst (pc := 77) dX9_tryPart_77 (by decide) ?_
            rw [s2210]
            refine G_icmp_le (pc := 78) (tgt := 251) dX9_tryPart_78 rfl (fun h_78 => ?_) (fun h_78 => ?_)
            · exact fin s md dp cut _ _ _ hF hR (by omega)
            · refine G_iload (pc := 81) dX9_tryPart_81 rfl ?_
              refine G_if_ne (pc := 83) (tgt := 251) dX9_tryPart_83 rfl (fun h_83 => ?_) (fun h_83 => ?_)
              · try simp only [bq0, ne_eq, Classical.not_not] at h_83
                exact fin s md dp cut _ _ _ hF hR (by omega)
              · try simp only [bq0, ne_eq, Classical.not_not] at h_83
                exfalso; omega
  have g46 : ∀ q, 0 ≤ q → q < e.n → (pM (sv t 46 (glue (t 2184 0) (fun _ => 0) (t 46)))).ps q = 0 := fun q q0 q1 => by
    show sv t 46 (glue (t 2184 0) (fun _ => 0) (t 46)) 46 q = 0
    rw [sv_at, glue0 q0 (by omega)]
  obtain ⟨s, hs0⟩ : ∃ s, s = su (standM (su (sv t 46 (glue (t 2184 0) (fun _ => 0) (t 46))) 2217 0 (-1)) (e.ord 0) 0 0 0) 52 1 0 := ⟨_, rfl⟩
  have sw : ∀ w, w ≠ 46 → w ≠ 47 → w ≠ 48 → w ≠ 49 → w ≠ 52 → w ≠ 2217 → s w = t w := fun w a1 a2 a3 a4 a5 a6 => by rw [hs0, su_ne a5, standM_ne _ _ _ _ _ ⟨a1, a2, a3, a4⟩, su_ne a6, sv_ne a1]
  have sp : pM s = putF (pM (sv t 46 (glue (t 2184 0) (fun _ => 0) (t 46)))) (e.ord 0) 0 0 0 := by
    rw [hs0, c52_pM, standM_p]
    congr 1
  have s2217 : s 2217 0 = -1 := by rw [hs0, su_ne (by decide), standM_ne _ _ _ _ _ (by decide), su_at]
  have s52 : s 52 1 = 0 := by rw [hs0, su_at]
  have hFs : FRm t s := by
    refine ⟨?_, fun w hw => sw w hw.1.1.1 hw.1.1.2.1 hw.1.1.2.2.1 hw.1.1.2.2.2.1 hw.2 hw.1.2.2.2.2⟩
    refine BNM_put (t := sv t 46 (glue (t 2184 0) (fun _ => 0) (t 46))) ?_ sp (by omega) (by omega) (by omega)
    unfold BNM
    rw [sv_ne (by decide), sv_ne (by decide), sv_ne (by decide)]
    exact hN
  have hAs : AG e.n (putF p00 (e.ord 0) 0 0 0) (pM s) := by rw [sp]; exact AG_put (AG_0 (fun _ _ _ => rfl) g46) _ _ _ _
  have hPs : PLC e (0 + 1) (putF p00 (e.ord 0) 0 0 0) := PLC_put (Int.le_refl _) (PLC_0 (fun _ _ _ => rfl)) _ _ _
  have hBs : BP e.n (30 * 0) (putF p00 (e.ord 0) 0 0 0) := BP_put (BP_0 (fun _ _ _ => rfl) _) (by omega) (by omega) (by omega)
  have hRs : RELm e (1, 0, -1, g1, g2, g3) s 1 0 := ⟨⟨rfl, rfl, by show (-1 : Int) = s 2217 0; rw [s2217]⟩, Or.inl s2217, fun z => absurd s2217 z, by omega⟩
  obtain ⟨hMs, s50, s2210⟩ := FRm_E hFs hM ho
  have hSM := EM_SM hE.sok hMs
  refine G_aload_n (pc := 0) dX9_tryPart_0 rfl ?_
  refine G_cV0 (pc := 1) (c_X9_noneThere _ (by rw [hn]; omega)) dX9_tryPart_1 ml_X9_188 rfl rfl rfl (by decide) (Nat.le_of_ble_eq_true rfl) ?_
  refine G_aload_n (pc := 4) dX9_tryPart_4 rfl ?_
  refine G_iconst (pc := 5) dX9_tryPart_5 (by decide) ?_
  refine G_put (pc := 6) dX9_tryPart_6 fk_X9_185 fw_X9_33 rfl rfl rfl (fun h => absurd h (by decide)) ?_
  refine G_iconst (pc := 9) dX9_tryPart_9 (by decide) ?_
  refine G_istore_n (pc := 10) dX9_tryPart_10 (Nat.le_of_ble_eq_true rfl) rfl ?_
  refine G_aload_n (pc := 11) dX9_tryPart_11 rfl ?_
  refine G_aload_n (pc := 12) dX9_tryPart_12 rfl ?_
  refine G_getP (pc := 13) dX9_tryPart_13 fk_X9_65 rfl rfl rfl ?_
  refine G_iconst (pc := 16) dX9_tryPart_16 (by decide) ?_
  refine G_iaload (pc := 17) dX9_tryPart_17 rfl rfl (by omega) ?_
  try simp (disch := decide) only [su_ne, su_at, su_same, sv_ne, sv_at]
  rw [ho.1]
  refine G_iconst (pc := 18) dX9_tryPart_18 (by decide) ?_
  refine G_iconst (pc := 19) dX9_tryPart_19 (by decide) ?_
  refine G_iconst (pc := 20) dX9_tryPart_20 (by decide) ?_
  refine G_cV0 (pc := 21) (c_X9_stand _ _ _ _ _ (by omega)) dX9_tryPart_21 ml_X9_171 rfl rfl rfl (by decide) (Nat.le_of_ble_eq_true rfl) ?_
  refine G_iconst (pc := 24) dX9_tryPart_24 (by decide) ?_
  refine G_istore_n (pc := 25) dX9_tryPart_25 (Nat.le_of_ble_eq_true rfl) rfl ?_
  refine G_aload_n (pc := 26) dX9_tryPart_26 rfl ?_
  refine G_getP (pc := 27) dX9_tryPart_27 fk_X9_71 rfl rfl rfl ?_
  refine G_iconst (pc := 30) dX9_tryPart_30 (by decide) ?_
  refine G_iconst (pc := 31) dX9_tryPart_31 (by decide) ?_
  refine G_iastore (pc := 32) dX9_tryPart_32 rfl rfl (by omega) ?_
  rw [← hs0]
  refine G_iconst (pc := 33) dX9_tryPart_33 (by decide) ?_
  refine G_istore (pc := 34) dX9_tryPart_34 (Nat.le_of_ble_eq_true rfl) rfl ?_
  refine G_aload_n (pc := 36) dX9_tryPart_36 rfl ?_
  refine G_getI (pc := 37) dX9_tryPart_37 fk_X9_175 rfl rfl rfl ?_
  try simp (disch := decide) only [su_ne, su_at, su_same, sv_ne, sv_at]
  rw [s2210]
  refine G_iconst (pc := 40) dX9_tryPart_40 (by decide) ?_
  refine G_icmp_ne (pc := 41) (tgt := 48) dX9_tryPart_41 rfl (fun h_41 => ?_) (fun h_41 => ?_)
  · have hc1 : 1 < e.cnt := by omega
    first
    | exact tp_node hE hl hM ho hc1 23 0 _ (1, 0, -1, g1, g2, g3) s 1 _ _ _ ⟨by omega, by omega⟩ (by omega) hPs hBs hAs hFs hRs (fun _ => s52) (fun i i1 i2 => by omega) (fun u md' p5 p6 p7 hFu _ _ hRu => done u md' 0 0 p5 p6 p7 hFu (by rw [hbody]; exact hRu) (Or.inl ⟨rfl, rfl⟩)) (fun u md' dp p5 p6 p7 hFu hRu => done u md' dp 1 p5 p6 p7 hFu (by rw [hbody]; exact hRu) (Or.inr (Or.inr rfl)))
    | (rw [← hU]; exact done u 1 1 0 _ _ _ hFu (by rw [hb1]; exact n1) (Or.inr (Or.inl ⟨rfl, rfl, hc0⟩)))
  · have hc0 : e.cnt = 1 := by omega
    obtain ⟨u, hU⟩ : ∃ u, u = (if s 2217 0 < 0 ∨ coM s < s 2217 0 then ktM (su s 2217 0 (coM s)) (s 2210 0) else s) := ⟨_, rfl⟩
    obtain ⟨n1, n2⟩ := note_ok hE hMs ⟨s50, s2210⟩ hAs (by rw [hc0]; exact hPs) hRs u hU
    have hb1 : A = wghF e (putF p00 (e.ord 0) 0 0 0) (1, 0, -1, g1, g2, g3) := by rw [hbody]; unfold bodyF; rw [if_neg (by omega)]
    have hFu : FRm t u := by
      refine ⟨?_, fun w hw => (n2 w hw.1.2.1 hw.1.2.2.1 hw.1.2.2.2.1 hw.1.2.2.2.2).trans (hFs.2 w hw)⟩
      unfold BNM
      rw [n2 47 (by decide) (by decide) (by decide) (by decide), n2 48 (by decide) (by decide) (by decide) (by decide), n2 49 (by decide) (by decide) (by decide) (by decide)]
      exact hFs.1
    refine G_aload_n (pc := 44) dX9_tryPart_44 rfl ?_
    refine G_cV0 (pc := 45) (c_X9_noteBest _ (by exact hSM) (by rw [s2210]; omega) (by intro i i0 i1; rw [s50]; have := hE.ord i i0 (by omega); omega) (by exact BN_BD hFs.1.1 (by decide)) (by exact BN_BD hFs.1.2.1 (by decide)) (by exact BN_BD hFs.1.2.2 (by decide))) dX9_tryPart_45 ml_X9_191 rfl rfl rfl (by decide) (Nat.le_of_ble_eq_true rfl) ?_
    first
    | exact tp_node hE hl hM ho hc1 23 0 _ (1, 0, -1, g1, g2, g3) s 1 _ _ _ ⟨by omega, by omega⟩ (by omega) hPs hBs hAs hFs hRs (fun _ => s52) (fun i i1 i2 => by omega) (fun u md' p5 p6 p7 hFu _ _ hRu => done u md' 0 0 p5 p6 p7 hFu (by rw [hbody]; exact hRu) (Or.inl ⟨rfl, rfl⟩)) (fun u md' dp p5 p6 p7 hFu hRu => done u md' dp 1 p5 p6 p7 hFu (by rw [hbody]; exact hRu) (Or.inr (Or.inr rfl)))
    | (rw [← hU]; exact done u 1 1 0 _ _ _ hFu (by rw [hb1]; exact n1) (Or.inr (Or.inl ⟨rfl, rfl, hc0⟩)))
