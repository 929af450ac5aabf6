/-! SIGNS: the reference -/
theorem dist_geo {xs ys ls : Int → Int} {a w b : Int} (hw : w ≤ 7) (hd : 0 < distS xs ys ls a w b) : xs b = xs a + distS xs ys ls a w b * eaI w ∧ ys b = ys a + distS xs ys ls a w b * soI w := by
  unfold distS at *
  by_cases h1 : ls b - ls a ≠ riI w
  · rw [if_pos h1] at hd; omega
  · rw [if_neg h1, if_neg (by omega)] at hd ⊢
    by_cases h2 : 0 < dlS xs ys a w b ∧ dlS xs ys a w b ≤ 60 ∧ xs b - xs a = dlS xs ys a w b * eaI w ∧ ys b - ys a = dlS xs ys a w b * soI w
    · rw [if_pos h2]
      omega
    · rw [if_neg h2] at hd; omega
theorem str_geo {n : Int} {ps xs ys ls : Int → Int} {a w b : Int} (hw : w ≤ 7) (hd : strS n ps xs ys ls a w b ≠ 0) : xs b = xs a + strS n ps xs ys ls a w b * eaI w ∧ ys b = ys a + strS n ps xs ys ls a w b * soI w := by
  have hr := distS_r xs ys ls a w b
  unfold strS at *
  split at hd
  · omega
  · next h =>
    rw [if_neg h]
    exact dist_geo hw (by omega)
theorem beg_of {w a b : Int} : (tnP w → beg w a b = b) ∧ (¬ tnP w → beg w a b = a) := by
  unfold beg
  exact ⟨fun h => if_pos h, fun h => if_neg h⟩
set_option maxHeartbeats 4000000 in
theorem c_X9_lineAt (t : Sto) (l d c q W N : Int) (hS : SM t) (hl : 0 ≤ l ∧ l < t 2188 0) (hw : t 36 l ≤ 7) (hg : t 47 (t 37 l) = t 47 (t 35 l) + d * eaI (t 36 l) ∧ t 48 (t 37 l) = t 48 (t 35 l) + d * soI (t 36 l)) (hd : 0 < d ∧ d ≤ 60) (hX : BD (t 47)) (hY : BD (t 48)) (hWi : ∀ r, 0 ≤ r → r < t 2184 0 → 1 ≤ t 32 r ∧ t 32 r ≤ 5) (hW : -1000000 ≤ W ∧ W ≤ 1000000) (hN : -1000000 ≤ N ∧ N ≤ 1000000) (hc : 0 ≤ c ∧ c ≤ 2147483647) (hq : 0 ≤ q ∧ q ≤ 2147483647) : CT yX9_lineAt cX9_lineAt 15 (some .int) 2 [mP 31, mI l, mI d, mI c, mI q, mI W, mI N] t (fun r t' => r = some (mI (@ite Int (onC (t 32) (t 47) (t 48) W N (t 36 l) (beg (t 36 l) (t 35 l) (t 37 l)) (beg (t 36 l) (t 37 l) (t 35 l)) d c q) (Classical.propDecidable _) (lineI (t 36 l)) 32)) ∧ t' = t) := by
  refine CT_of rfl rfl (Nat.le_of_ble_eq_true rfl) (fun E ht has => ?_)
  have hb := hS.1
  obtain ⟨hfr, hto, hdi, -⟩ := hS.2 l hl.1 hl.2
  have hxa := hX (t 35 l)
  have hxb := hX (t 37 l)
  have hya := hY (t 35 l)
  have hyb := hY (t 37 l)
  have hwa := hWi _ hfr.1 hfr.2
  have hwb := hWi _ hto.1 hto.2
  generalize hA : t 35 l = a at *
  generalize hB : t 37 l = b at *
  generalize hWw : t 36 l = w at *
  have hrow : (w = 2 ∨ w = 6) → (∀ s e, s = beg w a b → e = beg w b a → (onC (t 32) (t 47) (t 48) W N w (beg w a b) (beg w b a) d c q ↔ (q = 2 * (t 48 a - N) ∧ 6 * (t 47 s - W) + t 32 s ≤ c ∧ c < 6 * (t 47 e - W)))) := by
    intro hww s e hs he
    rw [← hs, ← he]
    have hys : t 48 s = t 48 a := by
      rw [hs]
      rcases hww with rfl | rfl
      · rw [(beg_of).2 (by unfold tnP; decide)]
      · rw [(beg_of).1 (by unfold tnP; decide), hg.2, show soI 6 = 0 from rfl]; omega
    unfold onC
    rcases hww with rfl | rfl
    · rw [if_neg (by decide), if_pos (by decide), hys]
    · rw [if_neg (by decide), if_pos (by decide), hys]
  have hcol : (w = 0 ∨ w = 4) → (∀ m, m = (if t 48 a < t 48 b then t 48 a else t 48 b) → (onC (t 32) (t 47) (t 48) W N w (beg w a b) (beg w b a) d c q ↔ (c = 6 * (t 47 a - W) ∧ 2 * (m - N) < q ∧ q < 2 * (m + d - N)))) := by
    intro hww m hm
    rcases hww with rfl | rfl
    · have e1 := (beg_of (w := 0) (a := a) (b := b)).1 (by unfold tnP; decide)
      have e2 := (beg_of (w := 0) (a := b) (b := a)).1 (by unfold tnP; decide)
      rw [e1, e2]
      rw [show eaI 0 = 0 from rfl, show soI 0 = -1 from rfl] at hg
      unfold onC
      rw [if_pos (by decide)]
      rw [if_neg (by omega)] at hm
      rw [show t 47 b = t 47 a by omega, ← hm, show t 48 a = m + d by omega]
    · have e1 := (beg_of (w := 4) (a := a) (b := b)).2 (by unfold tnP; decide)
      have e2 := (beg_of (w := 4) (a := b) (b := a)).2 (by unfold tnP; decide)
      rw [e1, e2]
      rw [show eaI 4 = 0 from rfl, show soI 4 = 1 from rfl] at hg
      unfold onC
      rw [if_pos (by decide)]
      rw [if_pos (by omega)] at hm
      rw [← hm, show t 48 b = m + d by omega]
  have hdiag : ¬ (w = 2 ∨ w = 6) → ¬ (w = 0 ∨ w = 4) → (onC (t 32) (t 47) (t 48) W N w (beg w a b) (beg w b a) d c q ↔ ∃ i, 0 ≤ i ∧ i < d ∧ c = 6 * ((if 0 < eaI w then t 47 a + i * eaI w else t 47 a + i * eaI w - 1) - W) + 3 ∧ q = 2 * ((if 0 < soI w then t 48 a + i * soI w else t 48 a + i * soI w - 1) - N) + 1) := by
    intro h1 h2
    unfold onC slantP
    rcases (show w = 1 ∨ w = 3 ∨ w = 5 ∨ w = 7 by omega) with rfl | rfl | rfl | rfl
    · have e1 := (beg_of (w := 1) (a := a) (b := b)).2 (by unfold tnP; decide)
      rw [if_neg (by decide), if_neg (by decide), e1]
      simp only [show eaI 1 = 1 from rfl, show soI 1 = -1 from rfl, show ((0 : Int) < 1) = True from by simp, show ((0 : Int) < -1) = False from by simp, if_true, if_false] at hg ⊢
      constructor
      · rintro ⟨i, i0, i1, i2, i3⟩; exact ⟨i, i0, i1, by omega, by omega⟩
      · rintro ⟨i, i0, i1, i2, i3⟩; exact ⟨i, i0, i1, by omega, by omega⟩
    · have e1 := (beg_of (w := 3) (a := a) (b := b)).2 (by unfold tnP; decide)
      rw [if_neg (by decide), if_neg (by decide), e1]
      simp only [show eaI 3 = 1 from rfl, show soI 3 = 1 from rfl, show ((0 : Int) < 1) = True from by simp, show ((0 : Int) < -1) = False from by simp, if_true, if_false] at hg ⊢
      constructor
      · rintro ⟨i, i0, i1, i2, i3⟩; exact ⟨i, i0, i1, by omega, by omega⟩
      · rintro ⟨i, i0, i1, i2, i3⟩; exact ⟨i, i0, i1, by omega, by omega⟩
    · have e1 := (beg_of (w := 5) (a := a) (b := b)).1 (by unfold tnP; decide)
      rw [if_neg (by decide), if_neg (by decide), e1]
      simp only [show eaI 5 = -1 from rfl, show soI 5 = 1 from rfl, show ((0 : Int) < 1) = True from by simp, show ((0 : Int) < -1) = False from by simp, if_true, if_false] at hg ⊢
      constructor
      · rintro ⟨i, i0, i1, i2, i3⟩; exact ⟨d - 1 - i, by omega, by omega, by omega, by omega⟩
      · rintro ⟨i, i0, i1, i2, i3⟩; exact ⟨d - 1 - i, by omega, by omega, by omega, by omega⟩
    · have e1 := (beg_of (w := 7) (a := a) (b := b)).1 (by unfold tnP; decide)
      rw [if_neg (by decide), if_neg (by decide), e1]
      simp only [show eaI 7 = -1 from rfl, show soI 7 = -1 from rfl, show ((0 : Int) < 1) = True from by simp, show ((0 : Int) < -1) = False from by simp, if_true, if_false] at hg ⊢
      constructor
      · rintro ⟨i, i0, i1, i2, i3⟩; exact ⟨d - 1 - i, by omega, by omega, by omega, by omega⟩
      · rintro ⟨i, i0, i1, i2, i3⟩; exact ⟨d - 1 - i, by omega, by omega, by omega, by omega⟩
  generalize hOC : onC (t 32) (t 47) (t 48) W N w (beg w a b) (beg w b a) d c q = OC at *
  have pos : ∀ x, OC → x = lineI w → x = @ite Int OC (Classical.propDecidable _) (lineI w) 32 := fun x h e => by rw [if_pos h]; exact e
  have neg : ∀ x, ¬ OC → x = 32 → x = @ite Int OC (Classical.propDecidable _) (lineI w) 32 := fun x h e => by rw [if_neg h]; exact e
  have hea := eaI_r hdi
  have hso := soI_r hdi
  have row : (w = 2 ∨ w = 6) → ∀ o10 o11 o12 o13 o14 : Option MV, G E cX9_lineAt RX9 (some .int) 2 37 [some (mP 31), some (mI l), some (mI d), some (mI c), some (mI q), some (mI W), some (mI N), some (mI a), some (mI b), some (mI w), o10, o11, o12, o13, o14] [] t (fun r t' => r = some (mI (@ite Int OC (Classical.propDecidable _) (lineI w) 32)) ∧ t' = t) := by
    intro hww o10 o11 o12 o13 o14
    have hr2 := hrow hww _ _ rfl rfl
    have hbg : ((0 ≤ beg w a b ∧ beg w a b < 24) ∧ (beg w a b = a ∨ beg w a b = b)) ∧ ((0 ≤ beg w b a ∧ beg w b a < 24) ∧ (beg w b a = a ∨ beg w b a = b)) := by unfold beg; split <;> omega
    have hxs := hX (beg w a b)
    have hxe := hX (beg w b a)
    have hws : 1 ≤ t 32 (beg w a b) ∧ t 32 (beg w a b) ≤ 5 := by rcases hbg.1.2 with e | e <;> rw [e] <;> assumption
    have hlin : lineI w = 45 := by rcases hww with rfl | rfl <;> rfl
    refine G_join (pc := 37) (P := fun v => v = beg w a b) 50 (fun v_50 hv_50 => ?_) (fun j_50 => ?_)
    · rw [hv_50]
      refine G_istore (pc := 50) dX9_lineAt_50 (Nat.le_of_ble_eq_true rfl) rfl ?_
      refine G_join (pc := 52) (P := fun v => v = beg w b a) 65 (fun v_65 hv_65 => ?_) (fun j_65 => ?_)
      · rw [hv_65]
        refine G_istore (pc := 65) dX9_lineAt_65 (Nat.le_of_ble_eq_true rfl) rfl ?_
        refine G_join (pc := 67) (P := fun v => v = (if q = 2 * (t 48 a - N) ∧ 6 * (t 47 (beg w a b) - W) + t 32 (beg w a b) ≤ c ∧ c < 6 * (t 47 (beg w b a) - W) then (1 : Int) else 0)) 131 (fun v_131 hv_131 => ?_) (fun j_131 => ?_)
        · refine G_istore (pc := 131) dX9_lineAt_131 (Nat.le_of_ble_eq_true rfl) rfl ?_
          refine G_iload (pc := 133) dX9_lineAt_133 rfl ?_
          refine G_if_eq (pc := 135) (tgt := 143) dX9_lineAt_135 rfl (fun h_135 => ?_) (fun h_135 => ?_)
          · try simp only [bq0, ne_eq, Classical.not_not] at h_135
            rw [hv_131, bq0] at h_135
            refine G_bipush (pc := 143) (x := 32) dX9_lineAt_143 rfl (by decide) ?_
            exact G_ireturn (pc := 145) dX9_lineAt_145 (qeq (by first | exact pos _ (hr2.mpr h_135) hlin.symm | exact neg _ (fun z => h_135 (hr2.mp z)) rfl))
          · try simp only [bq0, ne_eq, Classical.not_not] at h_135
            rw [hv_131, bq0, Classical.not_not] at h_135
            refine G_bipush (pc := 138) (x := 45) dX9_lineAt_138 rfl (by decide) ?_
            refine G_goto (pc := 140) (tgt := 145) dX9_lineAt_140 rfl ?_
            exact G_ireturn (pc := 145) dX9_lineAt_145 (qeq (by first | exact pos _ (hr2.mpr h_135) hlin.symm | exact neg _ (fun z => h_135 (hr2.mp z)) rfl))
        · refine G_iload (pc := 67) dX9_lineAt_67 rfl ?_
          refine G_iconst (pc := 69) dX9_lineAt_69 (by decide) ?_
          refine G_aload_n (pc := 70) dX9_lineAt_70 rfl ?_
          refine G_getP (pc := 71) dX9_lineAt_71 fk_X9_59 rfl rfl rfl ?_
          refine G_iload (pc := 74) dX9_lineAt_74 rfl ?_
          refine G_iaload (pc := 76) dX9_lineAt_76 rfl rfl (by omega) ?_
          refine G_iload (pc := 77) dX9_lineAt_77 rfl ?_
          refine G_isub (pc := 79) dX9_lineAt_79 (by omega) ?_
          refine G_imul (pc := 80) dX9_lineAt_80 (by omega) ?_
          refine G_icmp_ne (pc := 81) (tgt := 130) dX9_lineAt_81 rfl (fun h_81 => ?_) (fun h_81 => ?_)
          · refine G_iconst (pc := 130) dX9_lineAt_130 (by decide) ?_
            exact j_131 _ (by first | (rw [if_pos ⟨by omega, by omega, by omega⟩]) | (rw [if_neg (by omega)]))
          · refine G_iload_n (pc := 84) dX9_lineAt_84 rfl ?_
            refine G_bipush (pc := 85) (x := 6) dX9_lineAt_85 rfl (by decide) ?_
            refine G_aload_n (pc := 87) dX9_lineAt_87 rfl ?_
            refine G_getP (pc := 88) dX9_lineAt_88 fk_X9_56 rfl rfl rfl ?_
            refine G_iload (pc := 91) dX9_lineAt_91 rfl ?_
            refine G_iaload (pc := 93) dX9_lineAt_93 rfl rfl (by omega) ?_
            refine G_iload (pc := 94) dX9_lineAt_94 rfl ?_
            refine G_isub (pc := 96) dX9_lineAt_96 (by omega) ?_
            refine G_imul (pc := 97) dX9_lineAt_97 (by omega) ?_
            refine G_aload_n (pc := 98) dX9_lineAt_98 rfl ?_
            refine G_getP (pc := 99) dX9_lineAt_99 fk_X9_7 rfl rfl rfl ?_
            refine G_iload (pc := 102) dX9_lineAt_102 rfl ?_
            refine G_iaload (pc := 104) dX9_lineAt_104 rfl rfl (by omega) ?_
            refine G_iadd (pc := 105) dX9_lineAt_105 (by omega) ?_
            refine G_icmp_lt (pc := 106) (tgt := 130) dX9_lineAt_106 rfl (fun h_106 => ?_) (fun h_106 => ?_)
            · refine G_iconst (pc := 130) dX9_lineAt_130 (by decide) ?_
              exact j_131 _ (by first | (rw [if_pos ⟨by omega, by omega, by omega⟩]) | (rw [if_neg (by omega)]))
            · refine G_iload_n (pc := 109) dX9_lineAt_109 rfl ?_
              refine G_bipush (pc := 110) (x := 6) dX9_lineAt_110 rfl (by decide) ?_
              refine G_aload_n (pc := 112) dX9_lineAt_112 rfl ?_
              refine G_getP (pc := 113) dX9_lineAt_113 fk_X9_56 rfl rfl rfl ?_
              refine G_iload (pc := 116) dX9_lineAt_116 rfl ?_
              refine G_iaload (pc := 118) dX9_lineAt_118 rfl rfl (by omega) ?_
              refine G_iload (pc := 119) dX9_lineAt_119 rfl ?_
              refine G_isub (pc := 121) dX9_lineAt_121 (by omega) ?_
              refine G_imul (pc := 122) dX9_lineAt_122 (by omega) ?_
              refine G_icmp_ge (pc := 123) (tgt := 130) dX9_lineAt_123 rfl (fun h_123 => ?_) (fun h_123 => ?_)
              · refine G_iconst (pc := 130) dX9_lineAt_130 (by decide) ?_
                exact j_131 _ (by first | (rw [if_pos ⟨by omega, by omega, by omega⟩]) | (rw [if_neg (by omega)]))
              · refine G_iconst (pc := 126) dX9_lineAt_126 (by decide) ?_
                refine G_goto (pc := 127) (tgt := 131) dX9_lineAt_127 rfl ?_
                exact j_131 _ (by first | (rw [if_pos ⟨by omega, by omega, by omega⟩]) | (rw [if_neg (by omega)]))
      · refine G_iload (pc := 52) dX9_lineAt_52 rfl ?_
        refine G_iconst (pc := 54) dX9_lineAt_54 (by decide) ?_
        refine G_icmp_ne (pc := 55) (tgt := 63) dX9_lineAt_55 rfl (fun h_55 => ?_) (fun h_55 => ?_)
        · refine G_iload (pc := 63) dX9_lineAt_63 rfl ?_
          exact j_65 _ (by first | (rw [(beg_of).2 (by unfold tnP; rw [h_55]; decide)]) | (rw [(beg_of).1 (by unfold tnP; rw [show w = 6 by omega]; decide)]))
        · refine G_iload (pc := 58) dX9_lineAt_58 rfl ?_
          refine G_goto (pc := 60) (tgt := 65) dX9_lineAt_60 rfl ?_
          exact j_65 _ (by first | (rw [(beg_of).2 (by unfold tnP; rw [h_55]; decide)]) | (rw [(beg_of).1 (by unfold tnP; rw [show w = 6 by omega]; decide)]))
    · refine G_iload (pc := 37) dX9_lineAt_37 rfl ?_
      refine G_iconst (pc := 39) dX9_lineAt_39 (by decide) ?_
      refine G_icmp_ne (pc := 40) (tgt := 48) dX9_lineAt_40 rfl (fun h_40 => ?_) (fun h_40 => ?_)
      · refine G_iload (pc := 48) dX9_lineAt_48 rfl ?_
        exact j_50 _ (by first | (rw [(beg_of).2 (by unfold tnP; rw [h_40]; decide)]) | (rw [(beg_of).1 (by unfold tnP; rw [show w = 6 by omega]; decide)]))
      · refine G_iload (pc := 43) dX9_lineAt_43 rfl ?_
        refine G_goto (pc := 45) (tgt := 50) dX9_lineAt_45 rfl ?_
        exact j_50 _ (by first | (rw [(beg_of).2 (by unfold tnP; rw [h_40]; decide)]) | (rw [(beg_of).1 (by unfold tnP; rw [show w = 6 by omega]; decide)]))
  have col : (w = 0 ∨ w = 4) → ∀ o10 o11 o12 o13 o14 : Option MV, G E cX9_lineAt RX9 (some .int) 2 157 [some (mP 31), some (mI l), some (mI d), some (mI c), some (mI q), some (mI W), some (mI N), some (mI a), some (mI b), some (mI w), o10, o11, o12, o13, o14] [] t (fun r t' => r = some (mI (@ite Int OC (Classical.propDecidable _) (lineI w) 32)) ∧ t' = t) := by
    intro hww o10 o11 o12 o13 o14
    obtain ⟨m, hm⟩ : ∃ m, m = (if t 48 a < t 48 b then t 48 a else t 48 b) := ⟨_, rfl⟩
    have hr2 := hcol hww m hm
    have hlin : lineI w = 124 := by rcases hww with rfl | rfl <;> rfl
    have hmr : -1000000 ≤ m ∧ m ≤ 1000000 := by rw [hm]; split <;> omega
    refine G_join (pc := 157) (P := fun v => v = m) 191 (fun v_191 hv_191 => ?_) (fun j_191 => ?_)
    · rw [hv_191]
      refine G_istore (pc := 191) dX9_lineAt_191 (Nat.le_of_ble_eq_true rfl) rfl ?_
      refine G_join (pc := 193) (P := fun v => v = (if c = 6 * (t 47 a - W) ∧ 2 * (m - N) < q ∧ q < 2 * (m + d - N) then (1 : Int) else 0)) 241 (fun v_241 hv_241 => ?_) (fun j_241 => ?_)
      · refine G_istore (pc := 241) dX9_lineAt_241 (Nat.le_of_ble_eq_true rfl) rfl ?_
        refine G_iload (pc := 243) dX9_lineAt_243 rfl ?_
        refine G_if_eq (pc := 245) (tgt := 253) dX9_lineAt_245 rfl (fun h_245 => ?_) (fun h_245 => ?_)
        · try simp only [bq0, ne_eq, Classical.not_not] at h_245
          rw [hv_241, bq0] at h_245
          refine G_bipush (pc := 253) (x := 32) dX9_lineAt_253 rfl (by decide) ?_
          exact G_ireturn (pc := 255) dX9_lineAt_255 (qeq (by first | exact pos _ (hr2.mpr h_245) hlin.symm | exact neg _ (fun z => h_245 (hr2.mp z)) rfl))
        · try simp only [bq0, ne_eq, Classical.not_not] at h_245
          rw [hv_241, bq0, Classical.not_not] at h_245
          refine G_bipush (pc := 248) (x := 124) dX9_lineAt_248 rfl (by decide) ?_
          refine G_goto (pc := 250) (tgt := 255) dX9_lineAt_250 rfl ?_
          exact G_ireturn (pc := 255) dX9_lineAt_255 (qeq (by first | exact pos _ (hr2.mpr h_245) hlin.symm | exact neg _ (fun z => h_245 (hr2.mp z)) rfl))
      · refine G_iload_n (pc := 193) dX9_lineAt_193 rfl ?_
        refine G_bipush (pc := 194) (x := 6) dX9_lineAt_194 rfl (by decide) ?_
        refine G_aload_n (pc := 196) dX9_lineAt_196 rfl ?_
        refine G_getP (pc := 197) dX9_lineAt_197 fk_X9_56 rfl rfl rfl ?_
        refine G_iload (pc := 200) dX9_lineAt_200 rfl ?_
        refine G_iaload (pc := 202) dX9_lineAt_202 rfl rfl (by omega) ?_
        refine G_iload (pc := 203) dX9_lineAt_203 rfl ?_
        refine G_isub (pc := 205) dX9_lineAt_205 (by omega) ?_
        refine G_imul (pc := 206) dX9_lineAt_206 (by omega) ?_
        refine G_icmp_ne (pc := 207) (tgt := 240) dX9_lineAt_207 rfl (fun h_207 => ?_) (fun h_207 => ?_)
        · refine G_iconst (pc := 240) dX9_lineAt_240 (by decide) ?_
          exact j_241 _ (by first | (rw [if_pos ⟨by omega, by omega, by omega⟩]) | (rw [if_neg (by omega)]))
        · refine G_iload (pc := 210) dX9_lineAt_210 rfl ?_
          refine G_iconst (pc := 212) dX9_lineAt_212 (by decide) ?_
          refine G_iload (pc := 213) dX9_lineAt_213 rfl ?_
          refine G_iload (pc := 215) dX9_lineAt_215 rfl ?_
          refine G_isub (pc := 217) dX9_lineAt_217 (by omega) ?_
          refine G_imul (pc := 218) dX9_lineAt_218 (by omega) ?_
          refine G_icmp_le (pc := 219) (tgt := 240) dX9_lineAt_219 rfl (fun h_219 => ?_) (fun h_219 => ?_)
          · refine G_iconst (pc := 240) dX9_lineAt_240 (by decide) ?_
            exact j_241 _ (by first | (rw [if_pos ⟨by omega, by omega, by omega⟩]) | (rw [if_neg (by omega)]))
          · refine G_iload (pc := 222) dX9_lineAt_222 rfl ?_
            refine G_iconst (pc := 224) dX9_lineAt_224 (by decide) ?_
            refine G_iload (pc := 225) dX9_lineAt_225 rfl ?_
            refine G_iload_n (pc := 227) dX9_lineAt_227 rfl ?_
            refine G_iadd (pc := 228) dX9_lineAt_228 (by omega) ?_
            refine G_iload (pc := 229) dX9_lineAt_229 rfl ?_
            refine G_isub (pc := 231) dX9_lineAt_231 (by omega) ?_
            refine G_imul (pc := 232) dX9_lineAt_232 (by omega) ?_
            refine G_icmp_ge (pc := 233) (tgt := 240) dX9_lineAt_233 rfl (fun h_233 => ?_) (fun h_233 => ?_)
            · refine G_iconst (pc := 240) dX9_lineAt_240 (by decide) ?_
              exact j_241 _ (by first | (rw [if_pos ⟨by omega, by omega, by omega⟩]) | (rw [if_neg (by omega)]))
            · refine G_iconst (pc := 236) dX9_lineAt_236 (by decide) ?_
              refine G_goto (pc := 237) (tgt := 241) dX9_lineAt_237 rfl ?_
              exact j_241 _ (by first | (rw [if_pos ⟨by omega, by omega, by omega⟩]) | (rw [if_neg (by omega)]))
    · refine G_aload_n (pc := 157) dX9_lineAt_157 rfl ?_
      refine G_getP (pc := 158) dX9_lineAt_158 fk_X9_59 rfl rfl rfl ?_
      refine G_iload (pc := 161) dX9_lineAt_161 rfl ?_
      refine G_iaload (pc := 163) dX9_lineAt_163 rfl rfl (by omega) ?_
      refine G_aload_n (pc := 164) dX9_lineAt_164 rfl ?_
      refine G_getP (pc := 165) dX9_lineAt_165 fk_X9_59 rfl rfl rfl ?_
      refine G_iload (pc := 168) dX9_lineAt_168 rfl ?_
      refine G_iaload (pc := 170) dX9_lineAt_170 rfl rfl (by omega) ?_
      refine G_icmp_ge (pc := 171) (tgt := 184) dX9_lineAt_171 rfl (fun h_171 => ?_) (fun h_171 => ?_)
      · refine G_aload_n (pc := 184) dX9_lineAt_184 rfl ?_
        refine G_getP (pc := 185) dX9_lineAt_185 fk_X9_59 rfl rfl rfl ?_
        refine G_iload (pc := 188) dX9_lineAt_188 rfl ?_
        refine G_iaload (pc := 190) dX9_lineAt_190 rfl rfl (by omega) ?_
        exact j_191 _ (by rw [hm]; split <;> omega)
      · refine G_aload_n (pc := 174) dX9_lineAt_174 rfl ?_
        refine G_getP (pc := 175) dX9_lineAt_175 fk_X9_59 rfl rfl rfl ?_
        refine G_iload (pc := 178) dX9_lineAt_178 rfl ?_
        refine G_iaload (pc := 180) dX9_lineAt_180 rfl rfl (by omega) ?_
        refine G_goto (pc := 181) (tgt := 191) dX9_lineAt_181 rfl ?_
        exact j_191 _ (by rw [hm]; split <;> omega)
  have diag : ¬ (w = 2 ∨ w = 6) → ¬ (w = 0 ∨ w = 4) → ∀ i, i ≤ d → ∀ o11 o12 o13 o14 : Option MV, 0 ≤ i → (∀ j, 0 ≤ j → j < i → ¬ (c = 6 * ((if 0 < eaI w then t 47 a + j * eaI w else t 47 a + j * eaI w - 1) - W) + 3 ∧ q = 2 * ((if 0 < soI w then t 48 a + j * soI w else t 48 a + j * soI w - 1) - N) + 1)) → G E cX9_lineAt RX9 (some .int) 2 259 [some (mP 31), some (mI l), some (mI d), some (mI c), some (mI q), some (mI W), some (mI N), some (mI a), some (mI b), some (mI w), some (mI i), o11, o12, o13, o14] [] t (fun r t' => r = some (mI (@ite Int OC (Classical.propDecidable _) (lineI w) 32)) ∧ t' = t) := by
    intro hw1 hw2
    have hw4 : w = 1 ∨ w = 3 ∨ w = 5 ∨ w = 7 := by clear hrow hcol hdiag hOC pos neg row col hg; omega
    have hlin : lineI w = if w = 1 ∨ w = 5 then 47 else 92 := by rcases hw4 with e | e | e | e <;> rw [e] <;> decide
    have hr2 := hdiag hw1 hw2
    refine up_ind (fun i hi ih o11 o12 o13 o14 h0 hNo => ?_)
    have hm1 := mul_r (x := i) (B := 60) hea (by omega)
    have hm2 := mul_r (x := i) (B := 60) hso (by omega)
    refine G_iload (pc := 259) dX9_lineAt_259 rfl ?_
    refine G_iload_n (pc := 261) dX9_lineAt_261 rfl ?_
    refine G_icmp_ge (pc := 262) (tgt := 393) dX9_lineAt_262 rfl (fun h_262 => ?_) (fun h_262 => ?_)
    · refine G_bipush (pc := 393) (x := 32) dX9_lineAt_393 rfl (by decide) ?_
      exact G_ireturn (pc := 395) dX9_lineAt_395 (qeq (by exact neg _ (fun z => by obtain ⟨j, j0, j1, j2⟩ := hr2.mp z; exact hNo j j0 (by omega) j2) rfl))
    · refine G_aload_n (pc := 265) dX9_lineAt_265 rfl ?_
      refine G_getP (pc := 266) dX9_lineAt_266 fk_X9_56 rfl rfl rfl ?_
      refine G_iload (pc := 269) dX9_lineAt_269 rfl ?_
      refine G_iaload (pc := 271) dX9_lineAt_271 rfl rfl (by omega) ?_
      refine G_iload (pc := 272) dX9_lineAt_272 rfl ?_
      refine G_iload (pc := 274) dX9_lineAt_274 rfl ?_
      refine G_cS1 (pc := 276) (c_X9_east _ _ (by omega)) dX9_lineAt_276 ml_X9_132 rfl (by decide) (Nat.le_of_ble_eq_true rfl) ?_
      refine G_imul (pc := 279) dX9_lineAt_279 (by omega) ?_
      refine G_iadd (pc := 280) dX9_lineAt_280 (by omega) ?_
      refine G_istore (pc := 281) dX9_lineAt_281 (Nat.le_of_ble_eq_true rfl) rfl ?_
      refine G_aload_n (pc := 283) dX9_lineAt_283 rfl ?_
      refine G_getP (pc := 284) dX9_lineAt_284 fk_X9_59 rfl rfl rfl ?_
      refine G_iload (pc := 287) dX9_lineAt_287 rfl ?_
      refine G_iaload (pc := 289) dX9_lineAt_289 rfl rfl (by omega) ?_
      refine G_iload (pc := 290) dX9_lineAt_290 rfl ?_
      refine G_iload (pc := 292) dX9_lineAt_292 rfl ?_
      refine G_cS1 (pc := 294) (c_X9_south _ _ (by omega)) dX9_lineAt_294 ml_X9_135 rfl (by decide) (Nat.le_of_ble_eq_true rfl) ?_
      refine G_imul (pc := 297) dX9_lineAt_297 (by omega) ?_
      refine G_iadd (pc := 298) dX9_lineAt_298 (by omega) ?_
      refine G_istore (pc := 299) dX9_lineAt_299 (Nat.le_of_ble_eq_true rfl) rfl ?_
      refine G_join (pc := 301) (P := fun v => v = (if 0 < eaI w then t 47 a + i * eaI w else t 47 a + i * eaI w - 1)) 318 (fun v_318 hv_318 => ?_) (fun j_318 => ?_)
      · refine G_istore (pc := 318) dX9_lineAt_318 (Nat.le_of_ble_eq_true rfl) rfl ?_
        refine G_join (pc := 320) (P := fun v => v = (if 0 < soI w then t 48 a + i * soI w else t 48 a + i * soI w - 1)) 337 (fun v_337 hv_337 => ?_) (fun j_337 => ?_)
        · refine G_istore (pc := 337) dX9_lineAt_337 (Nat.le_of_ble_eq_true rfl) rfl ?_
          have hv1 : -1000100 ≤ v_318 ∧ v_318 ≤ 1000100 := by rw [hv_318]; split <;> omega
          have hv2 : -1000100 ≤ v_337 ∧ v_337 ≤ 1000100 := by rw [hv_337]; split <;> omega
          refine G_iload_n (pc := 339) dX9_lineAt_339 rfl ?_
          refine G_bipush (pc := 340) (x := 6) dX9_lineAt_340 rfl (by decide) ?_
          refine G_iload (pc := 342) dX9_lineAt_342 rfl ?_
          refine G_iload (pc := 344) dX9_lineAt_344 rfl ?_
          refine G_isub (pc := 346) dX9_lineAt_346 (by omega) ?_
          refine G_imul (pc := 347) dX9_lineAt_347 (by omega) ?_
          refine G_iconst (pc := 348) dX9_lineAt_348 (by decide) ?_
          refine G_iadd (pc := 349) dX9_lineAt_349 (by omega) ?_
          refine G_icmp_ne (pc := 350) (tgt := 387) dX9_lineAt_350 rfl (fun h_350 => ?_) (fun h_350 => ?_)
          · refine G_iinc (pc := 387) dX9_lineAt_387 rfl rfl (by omega) ?_
            refine G_goto (pc := 390) (tgt := 259) dX9_lineAt_390 rfl ?_
            refine ih (by omega) _ _ _ _ (by omega) (fun j j0 j1 => ?_)
            by_cases e : j = i
            · rw [e, ← hv_318, ← hv_337]; omega
            · exact hNo j j0 (by omega)
          · refine G_iload (pc := 353) dX9_lineAt_353 rfl ?_
            refine G_iconst (pc := 355) dX9_lineAt_355 (by decide) ?_
            refine G_iload (pc := 356) dX9_lineAt_356 rfl ?_
            refine G_iload (pc := 358) dX9_lineAt_358 rfl ?_
            refine G_isub (pc := 360) dX9_lineAt_360 (by omega) ?_
            refine G_imul (pc := 361) dX9_lineAt_361 (by omega) ?_
            refine G_iconst (pc := 362) dX9_lineAt_362 (by decide) ?_
            refine G_iadd (pc := 363) dX9_lineAt_363 (by omega) ?_
            refine G_icmp_ne (pc := 364) (tgt := 387) dX9_lineAt_364 rfl (fun h_364 => ?_) (fun h_364 => ?_)
            · refine G_iinc (pc := 387) dX9_lineAt_387 rfl rfl (by omega) ?_
              refine G_goto (pc := 390) (tgt := 259) dX9_lineAt_390 rfl ?_
              refine ih (by omega) _ _ _ _ (by omega) (fun j j0 j1 => ?_)
              by_cases e : j = i
              · rw [e, ← hv_318, ← hv_337]; omega
              · exact hNo j j0 (by omega)
            · have hOK : OC := hr2.mpr ⟨i, h0, by omega, by rw [← hv_318]; omega, by rw [← hv_337]; omega⟩
              refine G_iload (pc := 367) dX9_lineAt_367 rfl ?_
              refine G_iconst (pc := 369) dX9_lineAt_369 (by decide) ?_
              refine G_icmp_eq (pc := 370) (tgt := 379) dX9_lineAt_370 rfl (fun h_370 => ?_) (fun h_370 => ?_)
              · refine G_bipush (pc := 379) (x := 47) dX9_lineAt_379 rfl (by decide) ?_
                refine G_goto (pc := 381) (tgt := 386) dX9_lineAt_381 rfl ?_
                exact G_ireturn (pc := 386) dX9_lineAt_386 (qeq (by exact pos _ hOK (by rw [hlin]; first | rw [if_pos (by omega)] | rw [if_neg (by omega)])))
              · refine G_iload (pc := 373) dX9_lineAt_373 rfl ?_
                refine G_iconst (pc := 375) dX9_lineAt_375 (by decide) ?_
                refine G_icmp_ne (pc := 376) (tgt := 384) dX9_lineAt_376 rfl (fun h_376 => ?_) (fun h_376 => ?_)
                · refine G_bipush (pc := 384) (x := 92) dX9_lineAt_384 rfl (by decide) ?_
                  exact G_ireturn (pc := 386) dX9_lineAt_386 (qeq (by exact pos _ hOK (by rw [hlin]; first | rw [if_pos (by omega)] | rw [if_neg (by omega)])))
                · refine G_bipush (pc := 379) (x := 47) dX9_lineAt_379 rfl (by decide) ?_
                  refine G_goto (pc := 381) (tgt := 386) dX9_lineAt_381 rfl ?_
                  exact G_ireturn (pc := 386) dX9_lineAt_386 (qeq (by exact pos _ hOK (by rw [hlin]; first | rw [if_pos (by omega)] | rw [if_neg (by omega)])))
        · refine G_iload (pc := 320) dX9_lineAt_320 rfl ?_
          refine G_cS1 (pc := 322) (c_X9_south _ _ (by omega)) dX9_lineAt_322 ml_X9_135 rfl (by decide) (Nat.le_of_ble_eq_true rfl) ?_
          refine G_if_le (pc := 325) (tgt := 333) dX9_lineAt_325 rfl (fun h_325 => ?_) (fun h_325 => ?_)
          · refine G_iload (pc := 333) dX9_lineAt_333 rfl ?_
            refine G_iconst (pc := 335) dX9_lineAt_335 (by decide) ?_
            refine G_isub (pc := 336) dX9_lineAt_336 (by omega) ?_
            exact j_337 _ (by grind)
          · refine G_iload (pc := 328) dX9_lineAt_328 rfl ?_
            refine G_goto (pc := 330) (tgt := 337) dX9_lineAt_330 rfl ?_
            exact j_337 _ (by grind)
      · refine G_iload (pc := 301) dX9_lineAt_301 rfl ?_
        refine G_cS1 (pc := 303) (c_X9_east _ _ (by omega)) dX9_lineAt_303 ml_X9_132 rfl (by decide) (Nat.le_of_ble_eq_true rfl) ?_
        refine G_if_le (pc := 306) (tgt := 314) dX9_lineAt_306 rfl (fun h_306 => ?_) (fun h_306 => ?_)
        · refine G_iload (pc := 314) dX9_lineAt_314 rfl ?_
          refine G_iconst (pc := 316) dX9_lineAt_316 (by decide) ?_
          refine G_isub (pc := 317) dX9_lineAt_317 (by omega) ?_
          exact j_318 _ (by grind)
        · refine G_iload (pc := 309) dX9_lineAt_309 rfl ?_
          refine G_goto (pc := 311) (tgt := 318) dX9_lineAt_311 rfl ?_
          exact j_318 _ (by grind)
  refine G_aload_n (pc := 0) dX9_lineAt_0 rfl ?_
  refine G_getP (pc := 1) dX9_lineAt_1 fk_X9_19 rfl rfl rfl ?_
  refine G_iload_n (pc := 4) dX9_lineAt_4 rfl ?_
  refine G_iaload (pc := 5) dX9_lineAt_5 rfl rfl (by omega) ?_
  rw [hA]
  refine G_istore (pc := 6) dX9_lineAt_6 (Nat.le_of_ble_eq_true rfl) rfl ?_
  refine G_aload_n (pc := 8) dX9_lineAt_8 rfl ?_
  refine G_getP (pc := 9) dX9_lineAt_9 fk_X9_25 rfl rfl rfl ?_
  refine G_iload_n (pc := 12) dX9_lineAt_12 rfl ?_
  refine G_iaload (pc := 13) dX9_lineAt_13 rfl rfl (by omega) ?_
  rw [hB]
  refine G_istore (pc := 14) dX9_lineAt_14 (Nat.le_of_ble_eq_true rfl) rfl ?_
  refine G_aload_n (pc := 16) dX9_lineAt_16 rfl ?_
  refine G_getP (pc := 17) dX9_lineAt_17 fk_X9_22 rfl rfl rfl ?_
  refine G_iload_n (pc := 20) dX9_lineAt_20 rfl ?_
  refine G_iaload (pc := 21) dX9_lineAt_21 rfl rfl (by omega) ?_
  rw [hWw]
  refine G_istore (pc := 22) dX9_lineAt_22 (Nat.le_of_ble_eq_true rfl) rfl ?_
  refine G_iload (pc := 24) dX9_lineAt_24 rfl ?_
  refine G_iconst (pc := 26) dX9_lineAt_26 (by decide) ?_
  refine G_icmp_eq (pc := 27) (tgt := 37) dX9_lineAt_27 rfl (fun h_27 => ?_) (fun h_27 => ?_)
  · first | exact row (Or.inl h_27) _ _ _ _ _ | exact row (Or.inr h_34) _ _ _ _ _
  · refine G_iload (pc := 30) dX9_lineAt_30 rfl ?_
    refine G_bipush (pc := 32) (x := 6) dX9_lineAt_32 rfl (by decide) ?_
    refine G_icmp_ne (pc := 34) (tgt := 146) dX9_lineAt_34 rfl (fun h_34 => ?_) (fun h_34 => ?_)
    · refine G_iload (pc := 146) dX9_lineAt_146 rfl ?_
      refine G_if_eq (pc := 148) (tgt := 157) dX9_lineAt_148 rfl (fun h_148 => ?_) (fun h_148 => ?_)
      · try simp only [bq0, ne_eq, Classical.not_not] at h_148
        first | exact col (Or.inl h_148) _ _ _ _ _ | exact col (Or.inr h_154) _ _ _ _ _
      · try simp only [bq0, ne_eq, Classical.not_not] at h_148
        refine G_iload (pc := 151) dX9_lineAt_151 rfl ?_
        refine G_iconst (pc := 153) dX9_lineAt_153 (by decide) ?_
        refine G_icmp_ne (pc := 154) (tgt := 256) dX9_lineAt_154 rfl (fun h_154 => ?_) (fun h_154 => ?_)
        · refine G_iconst (pc := 256) dX9_lineAt_256 (by decide) ?_
          refine G_istore (pc := 257) dX9_lineAt_257 (Nat.le_of_ble_eq_true rfl) rfl ?_
          exact diag (by omega) (by omega) 0 (by omega) _ _ _ _ (by omega) (fun j j0 j1 => by omega)
        · first | exact col (Or.inl h_148) _ _ _ _ _ | exact col (Or.inr h_154) _ _ _ _ _
    · first | exact row (Or.inl h_27) _ _ _ _ _ | exact row (Or.inr h_34) _ _ _ _ _
theorem lcmp_eq {a b : Int} : (lcmpI a b = 0) = (a = b) := by unfold lcmpI; split <;> simp <;> omega
theorem lcmp_lt {a b : Int} : (lcmpI a b < 0) = (a < b) := by unfold lcmpI; split <;> (try split) <;> simp <;> omega
theorem lcmp_ge {a b : Int} : (0 ≤ lcmpI a b) = (b ≤ a) := by unfold lcmpI; split <;> (try split) <;> simp <;> omega
theorem glue_all {n : Int} {f g : Int → Int} {P : Int → Prop} {r : Int} (h0 : 0 ≤ r) (h1 : r < n) (h : P (f r)) : P (glue n f g r) := by rw [glue_at ⟨h0, h1⟩]; exact h
theorem c_X9_sign (t : Sto) (v c q : Int) (hS : SM t) (hp : ∀ r, t 39 r = 0 ∨ t 39 r = 1) (hX : BD (t 40)) (hY : BD (t 41)) (hL : BD (t 42)) (hX2 : BD (t 47)) (hY2 : BD (t 48)) (hL2 : BD (t 49)) (hWi : ∀ r, 0 ≤ r → r < t 2184 0 → 1 ≤ t 32 r ∧ t 32 r ≤ 5) (hc : c ≤ 2147483647) (hq : q ≤ 2147483647) : CT yX9_sign cX9_sign 10 (some .int) 4 [mP 31, mI v, mI c, mI q] t (fun a t' => ∃ x, a = some (mI x) ∧ (x = signR (t 2184 0) (t 2188 0) (t 35) (t 36) (t 37) (t 38) (t 32) (t 39) (t 40) (t 41) (t 42) v c q ∧ (t' = t ∨ t' = loadM t))) := by
  refine CT_of rfl rfl (Nat.le_of_ble_eq_true rfl) (fun E ht has => ?_)
  have hb := hS.1
  obtain ⟨a46, a47, a48, a49⟩ := loadN_at t (t 2184 0)
  obtain ⟨T, hT⟩ : ∃ T, T = loadM t := ⟨_, rfl⟩
  have ne : ∀ {w : Nat}, (w ≠ 46 ∧ w ≠ 47 ∧ w ≠ 48 ∧ w ≠ 49) → T w = t w := fun h => by rw [hT]; exact loadN_ne t (t 2184 0) h
  have e1 := ne (w := 2184) (by decide)
  have e2 := ne (w := 2188) (by decide)
  have e3 := ne (w := 35) (by decide)
  have e4 := ne (w := 36) (by decide)
  have e5 := ne (w := 37) (by decide)
  have e6 := ne (w := 38) (by decide)
  have e7 := ne (w := 32) (by decide)
  have e8 := ne (w := 39) (by decide)
  have e9 := ne (w := 40) (by decide)
  have e10 := ne (w := 41) (by decide)
  have hS1 : SM T := by unfold SM; rw [e1, e2, e3, e4, e5, e6]; exact hS
  have g46 : ∀ r, 0 ≤ r → r < t 2184 0 → T 46 r = t 39 r := fun r r0 r1 => by rw [hT]; unfold loadM; rw [a46, glue_at ⟨r0, r1⟩]
  have g47 : ∀ r, 0 ≤ r → r < t 2184 0 → T 47 r = t 40 r := fun r r0 r1 => by rw [hT]; unfold loadM; rw [a47, glue_at ⟨r0, r1⟩]
  have g48 : ∀ r, 0 ≤ r → r < t 2184 0 → T 48 r = t 41 r := fun r r0 r1 => by rw [hT]; unfold loadM; rw [a48, glue_at ⟨r0, r1⟩]
  have g49 : ∀ r, 0 ≤ r → r < t 2184 0 → T 49 r = t 42 r := fun r r0 r1 => by rw [hT]; unfold loadM; rw [a49, glue_at ⟨r0, r1⟩]
  have b47 : BD (T 47) := by rw [hT]; unfold loadM; rw [a47]; exact BD_glue hX hX2
  have b48 : BD (T 48) := by rw [hT]; unfold loadM; rw [a48]; exact BD_glue hY hY2
  have b49 : BD (T 49) := by rw [hT]; unfold loadM; rw [a49]; exact BD_glue hL hL2
  have hstr : ∀ l, 0 ≤ l → l < t 2188 0 → strS (t 2184 0) (T 46) (T 47) (T 48) (T 49) (t 35 l) (t 36 l) (t 37 l) = strS (t 2184 0) (t 39) (t 40) (t 41) (t 42) (t 35 l) (t 36 l) (t 37 l) := fun l h0 h1 => str_congr (fun r r0 r1 => ⟨g46 r r0 r1, g47 r r0 r1, g48 r r0 r1, g49 r r0 r1⟩) (hS.2 l h0 h1).1 (hS.2 l h0 h1).2.1
  obtain ⟨W, hW⟩ : ∃ W, W = lowS (t 2184 0) (t 39) (t 40) := ⟨_, rfl⟩
  obtain ⟨N, hN⟩ : ∃ N, N = lowS (t 2184 0) (t 39) (t 41) := ⟨_, rfl⟩
  have hWr : -1000000 ≤ W ∧ W ≤ 1000000 := by rw [hW]; exact low_r (B := 1000000) hb.1 (by omega) hX
  have hNr : -1000000 ≤ N ∧ N ≤ 1000000 := by rw [hN]; exact low_r (B := 1000000) hb.1 (by omega) hY
  rw [← hT]
  generalize hZ1 : fst (letP (t 32) (t 39) (t 40) (t 41) (t 42) W N v c q) 0 (t 2184 0) = Z1
  generalize hZ2 : fst (stairP (t 2188 0) (t 35) (t 36) (t 37) (t 38) (t 32) (t 39) (t 40) (t 41) (t 42) W N v c q) 0 (t 2184 0) = Z2
  generalize hZ3 : fst (lineP (t 2184 0) (t 35) (t 36) (t 37) (t 32) (t 39) (t 40) (t 41) (t 42) W N v c q) 0 (t 2188 0) = Z3
  have hres : (0 ≤ c ∧ 0 ≤ q) → signR (t 2184 0) (t 2188 0) (t 35) (t 36) (t 37) (t 38) (t 32) (t 39) (t 40) (t 41) (t 42) v c q = (if 0 ≤ Z1 then 65 + Z1 else if 0 ≤ Z2 then stairV (t 2188 0) (t 35) (t 36) (t 37) (t 38) (t 32) (t 40) W c Z2 else if 0 ≤ Z3 then lineI (t 36 Z3) else 32) := by
    intro hcq
    unfold signR signS
    rw [if_pos hcq, ← hW, ← hN, hZ1, hZ2, hZ3]
  have loop3 : (0 ≤ c ∧ 0 ≤ q) → ¬ 0 ≤ Z1 → ¬ 0 ≤ Z2 → ∀ l, l ≤ t 2188 0 → ∀ o7 o8 o9 : Option MV, 0 ≤ l → fst (lineP (t 2184 0) (t 35) (t 36) (t 37) (t 32) (t 39) (t 40) (t 41) (t 42) W N v c q) l (t 2188 0) = Z3 → G E cX9_sign RX9 (some .int) 4 284 [some (mP 31), some (mI v), some (mI c), some (mI q), some (mI W), some (mI N), some (mI l), o7, o8, o9] [] T (fun a t' => ∃ x, a = some (mI x) ∧ (x = signR (t 2184 0) (t 2188 0) (t 35) (t 36) (t 37) (t 38) (t 32) (t 39) (t 40) (t 41) (t 42) v c q ∧ (t' = t ∨ t' = T))) := by
    intro hcq hz1 hz2
    have hr3 := hres hcq
    rw [if_neg hz1, if_neg hz2] at hr3
    refine up_ind (fun l hl ih o7 o8 o9 h0 hX0 => ?_)
    have hsr := strS_r (t 2184 0) (t 39) (t 40) (t 41) (t 42) (t 35 l) (t 36 l) (t 37 l)
    refine G_iload (pc := 284) dX9_sign_284 rfl ?_
    refine G_aload_n (pc := 286) dX9_sign_286 rfl ?_
    refine G_getI (pc := 287) dX9_sign_287 fk_X9_94 rfl rfl rfl ?_
    rw [e2]
    refine G_icmp_ge (pc := 290) (tgt := 412) dX9_sign_290 rfl (fun h_290 => ?_) (fun h_290 => ?_)
    · refine G_bipush (pc := 412) (x := 32) dX9_sign_412 rfl (by decide) ?_
      exact G_ireturn (pc := 414) dX9_sign_414 ⟨_, rfl, by rw [fst_ge (by omega)] at hX0; rw [hr3, ← hX0, if_neg (by omega)], Or.inr rfl⟩
    · obtain ⟨hfr, hto, hdi, -⟩ := hS.2 l h0 (by omega)
      refine G_aload_n (pc := 293) dX9_sign_293 rfl ?_
      refine G_getP (pc := 294) dX9_sign_294 fk_X9_19 rfl rfl rfl ?_
      refine G_iload (pc := 297) dX9_sign_297 rfl ?_
      refine G_iaload (pc := 299) dX9_sign_299 rfl rfl (by omega) ?_
      rw [e3]
      refine G_istore (pc := 300) dX9_sign_300 (Nat.le_of_ble_eq_true rfl) rfl ?_
      refine G_aload_n (pc := 302) dX9_sign_302 rfl ?_
      refine G_iload (pc := 303) dX9_sign_303 rfl ?_
      refine G_cV1 (pc := 305) (c_X9_isLoop _ _ (by omega)) dX9_sign_305 ml_X9_145 rfl rfl rfl (by decide) (Nat.le_of_ble_eq_true rfl) ?_
      rw [e3, e5]
      refine G_if_ne (pc := 308) (tgt := 406) dX9_sign_308 rfl (fun h_308 => ?_) (fun h_308 => ?_)
      · try simp only [bq0, ne_eq, Classical.not_not] at h_308
        have hNo : ¬ lineP (t 2184 0) (t 35) (t 36) (t 37) (t 32) (t 39) (t 40) (t 41) (t 42) W N v c q l := fun z => by
          have z9 := z.2.1
          apply z9
          unfold strS
          have z0 : distS (t 40) (t 41) (t 42) (t 35 l) (t 36 l) (t 37 l) = 0 := by
            rw [← h_308]
            unfold distS dlS
            have hri := ri_arith hdi
            by_cases h8 : 8 ≤ t 36 l
            · rw [if_pos]
              rw [hri]; split
              · omega
              · split <;> omega
            · simp
              intro _
              omega
          rw [if_neg (by omega)]
          exact z0
        refine G_iinc (pc := 406) dX9_sign_406 rfl rfl (by omega) ?_
        refine G_goto (pc := 409) (tgt := 284) dX9_sign_409 rfl ?_
        exact ih (by omega) _ _ _ (by omega) ((fst_neg (by omega) hNo).symm.trans hX0)
      · try simp only [bq0, ne_eq, Classical.not_not] at h_308
        refine G_aload_n (pc := 311) dX9_sign_311 rfl ?_
        refine G_getP (pc := 312) dX9_sign_312 fk_X9_53 rfl rfl rfl ?_
        refine G_iload (pc := 315) dX9_sign_315 rfl ?_
        refine G_baload (pc := 317) dX9_sign_317 rfl rfl (by omega) ?_
        rw [g46 _ hfr.1 hfr.2]
        refine G_if_eq (pc := 318) (tgt := 406) dX9_sign_318 rfl (fun h_318 => ?_) (fun h_318 => ?_)
        · try simp only [bq0, ne_eq, Classical.not_not] at h_318
          have hNo : ¬ lineP (t 2184 0) (t 35) (t 36) (t 37) (t 32) (t 39) (t 40) (t 41) (t 42) W N v c q l := fun z => z.1.2.1 h_318
          refine G_iinc (pc := 406) dX9_sign_406 rfl rfl (by omega) ?_
          refine G_goto (pc := 409) (tgt := 284) dX9_sign_409 rfl ?_
          exact ih (by omega) _ _ _ (by omega) ((fst_neg (by omega) hNo).symm.trans hX0)
        · try simp only [bq0, ne_eq, Classical.not_not] at h_318
          refine G_aload_n (pc := 321) dX9_sign_321 rfl ?_
          refine G_getP (pc := 322) dX9_sign_322 fk_X9_53 rfl rfl rfl ?_
          refine G_aload_n (pc := 325) dX9_sign_325 rfl ?_
          refine G_getP (pc := 326) dX9_sign_326 fk_X9_25 rfl rfl rfl ?_
          refine G_iload (pc := 329) dX9_sign_329 rfl ?_
          refine G_iaload (pc := 331) dX9_sign_331 rfl rfl (by omega) ?_
          rw [e5]
          refine G_baload (pc := 332) dX9_sign_332 rfl rfl (by omega) ?_
          rw [g46 _ hto.1 hto.2]
          refine G_if_eq (pc := 333) (tgt := 406) dX9_sign_333 rfl (fun h_333 => ?_) (fun h_333 => ?_)
          · try simp only [bq0, ne_eq, Classical.not_not] at h_333
            have hNo : ¬ lineP (t 2184 0) (t 35) (t 36) (t 37) (t 32) (t 39) (t 40) (t 41) (t 42) W N v c q l := fun z => z.1.2.2.1 h_333
            refine G_iinc (pc := 406) dX9_sign_406 rfl rfl (by omega) ?_
            refine G_goto (pc := 409) (tgt := 284) dX9_sign_409 rfl ?_
            exact ih (by omega) _ _ _ (by omega) ((fst_neg (by omega) hNo).symm.trans hX0)
          · try simp only [bq0, ne_eq, Classical.not_not] at h_333
            refine G_aload_n (pc := 336) dX9_sign_336 rfl ?_
            refine G_getP (pc := 337) dX9_sign_337 fk_X9_62 rfl rfl rfl ?_
            refine G_iload (pc := 340) dX9_sign_340 rfl ?_
            refine G_iaload (pc := 342) dX9_sign_342 rfl rfl (by omega) ?_
            rw [g49 _ hfr.1 hfr.2]
            refine G_iload_n (pc := 343) dX9_sign_343 rfl ?_
            refine G_icmp_ne (pc := 344) (tgt := 406) dX9_sign_344 rfl (fun h_344 => ?_) (fun h_344 => ?_)
            · have hNo : ¬ lineP (t 2184 0) (t 35) (t 36) (t 37) (t 32) (t 39) (t 40) (t 41) (t 42) W N v c q l := fun z => h_344 z.1.2.2.2
              refine G_iinc (pc := 406) dX9_sign_406 rfl rfl (by omega) ?_
              refine G_goto (pc := 409) (tgt := 284) dX9_sign_409 rfl ?_
              exact ih (by omega) _ _ _ (by omega) ((fst_neg (by omega) hNo).symm.trans hX0)
            · refine G_aload_n (pc := 347) dX9_sign_347 rfl ?_
              refine G_getP (pc := 348) dX9_sign_348 fk_X9_22 rfl rfl rfl ?_
              refine G_iload (pc := 351) dX9_sign_351 rfl ?_
              refine G_iaload (pc := 353) dX9_sign_353 rfl rfl (by omega) ?_
              rw [e4]
              refine G_bipush (pc := 354) (x := 7) dX9_sign_354 rfl (by decide) ?_
              refine G_icmp_le (pc := 356) (tgt := 362) dX9_sign_356 rfl (fun h_356 => ?_) (fun h_356 => ?_)
              · refine G_aload_n (pc := 362) dX9_sign_362 rfl ?_
                refine G_iload (pc := 363) dX9_sign_363 rfl ?_
                refine G_cV1 (pc := 365) (c_X9_straightBy _ _ (by exact hS1) (by rw [e2]; omega) (by exact b47) (by exact b48) (by exact b49)) dX9_sign_365 ml_X9_148 rfl rfl rfl (by decide) (Nat.le_of_ble_eq_true rfl) ?_
                rw [e1, e3, e4, e5, hstr l h0 (by omega)]
                refine G_istore (pc := 368) dX9_sign_368 (Nat.le_of_ble_eq_true rfl) rfl ?_
                refine G_join (pc := 370) (P := fun v => v = @ite Int (onCl (t 2184 0) (t 35) (t 36) (t 37) (t 32) (t 39) (t 40) (t 41) (t 42) W N c q l) (Classical.propDecidable _) (lineI (t 36 l)) 32) 394 (fun v_394 hv_394 => ?_) (fun j_394 => ?_)
                · refine G_istore (pc := 394) dX9_sign_394 (Nat.le_of_ble_eq_true rfl) rfl ?_
                  have hli : lineI (t 36 l) ≠ 32 := by rcases (show t 36 l = 0 ∨ t 36 l = 1 ∨ t 36 l = 2 ∨ t 36 l = 3 ∨ t 36 l = 4 ∨ t 36 l = 5 ∨ t 36 l = 6 ∨ t 36 l = 7 by omega) with z | z | z | z | z | z | z | z <;> rw [z] <;> decide
                  refine G_iload (pc := 396) dX9_sign_396 rfl ?_
                  refine G_bipush (pc := 398) (x := 32) dX9_sign_398 rfl (by decide) ?_
                  refine G_icmp_eq (pc := 400) (tgt := 406) dX9_sign_400 rfl (fun h_400 => ?_) (fun h_400 => ?_)
                  · have hNo : ¬ lineP (t 2184 0) (t 35) (t 36) (t 37) (t 32) (t 39) (t 40) (t 41) (t 42) W N v c q l := fun z => by rw [hv_394, if_pos z.2] at h_400; exact hli h_400
                    refine G_iinc (pc := 406) dX9_sign_406 rfl rfl (by omega) ?_
                    refine G_goto (pc := 409) (tgt := 284) dX9_sign_409 rfl ?_
                    exact ih (by omega) _ _ _ (by omega) ((fst_neg (by omega) hNo).symm.trans hX0)
                  · have hYes : onCl (t 2184 0) (t 35) (t 36) (t 37) (t 32) (t 39) (t 40) (t 41) (t 42) W N c q l := by
                      by_cases z : onCl (t 2184 0) (t 35) (t 36) (t 37) (t 32) (t 39) (t 40) (t 41) (t 42) W N c q l
                      · exact z
                      · rw [hv_394, if_neg z] at h_400; exact absurd rfl h_400
                    have hYl : lineP (t 2184 0) (t 35) (t 36) (t 37) (t 32) (t 39) (t 40) (t 41) (t 42) W N v c q l := ⟨⟨by omega, h_318, h_333, h_344⟩, hYes⟩
                    refine G_iload (pc := 403) dX9_sign_403 rfl ?_
                    exact G_ireturn (pc := 405) dX9_sign_405 ⟨_, rfl, by rw [fst_pos (by omega) hYl] at hX0; rw [hr3, ← hX0, if_pos h0, hv_394, if_pos hYes], Or.inr rfl⟩
                · refine G_iload (pc := 370) dX9_sign_370 rfl ?_
                  refine G_if_ne (pc := 372) (tgt := 380) dX9_sign_372 rfl (fun h_372 => ?_) (fun h_372 => ?_)
                  · try simp only [bq0, ne_eq, Classical.not_not] at h_372
                    have hoc : onC (T 32) (T 47) (T 48) W N (T 36 l) (beg (T 36 l) (T 35 l) (T 37 l)) (beg (T 36 l) (T 37 l) (T 35 l)) (strS (t 2184 0) (t 39) (t 40) (t 41) (t 42) (t 35 l) (t 36 l) (t 37 l)) c q ↔ onCl (t 2184 0) (t 35) (t 36) (t 37) (t 32) (t 39) (t 40) (t 41) (t 42) W N c q l := by
                      unfold onCl onC
                      rw [e3, e4, e5, e7]
                      have hbg : (0 ≤ beg (t 36 l) (t 35 l) (t 37 l) ∧ beg (t 36 l) (t 35 l) (t 37 l) < t 2184 0) ∧ (0 ≤ beg (t 36 l) (t 37 l) (t 35 l) ∧ beg (t 36 l) (t 37 l) (t 35 l) < t 2184 0) := by unfold beg; split <;> exact ⟨by assumption, by assumption⟩
                      rw [g47 _ hbg.1.1 hbg.1.2, g47 _ hbg.2.1 hbg.2.2, g48 _ hbg.1.1 hbg.1.2, g48 _ hbg.2.1 hbg.2.2]
                      exact ⟨fun z => ⟨h_372, z⟩, fun z => z.2⟩
                    refine G_aload_n (pc := 380) dX9_sign_380 rfl ?_
                    refine G_iload (pc := 381) dX9_sign_381 rfl ?_
                    refine G_iload (pc := 383) dX9_sign_383 rfl ?_
                    refine G_iload_n (pc := 385) dX9_sign_385 rfl ?_
                    refine G_iload_n (pc := 386) dX9_sign_386 rfl ?_
                    refine G_iload (pc := 387) dX9_sign_387 rfl ?_
                    refine G_iload (pc := 389) dX9_sign_389 rfl ?_
                    refine G_cV1 (pc := 391) (c_X9_lineAt _ _ _ _ _ _ _ (by exact hS1) (by rw [e2]; omega) (by rw [e4]; omega) (by rw [e3, e4, e5, g47 _ hfr.1 hfr.2, g47 _ hto.1 hto.2, g48 _ hfr.1 hfr.2, g48 _ hto.1 hto.2]; exact str_geo h_356 h_372) (by omega) (by exact b47) (by exact b48) (by rw [e1, e7]; exact hWi) (by omega) (by omega) (by omega) (by omega)) dX9_sign_391 ml_X9_244 rfl rfl rfl (by decide) (Nat.le_of_ble_eq_true rfl) ?_
                    exact j_394 _ (by first | (rw [if_neg (show ¬ onCl (t 2184 0) (t 35) (t 36) (t 37) (t 32) (t 39) (t 40) (t 41) (t 42) W N c q l from fun z => z.1 h_372)]) | (by_cases z : onCl (t 2184 0) (t 35) (t 36) (t 37) (t 32) (t 39) (t 40) (t 41) (t 42) W N c q l; (rw [if_pos z, if_pos (hoc.mpr z), e4]); (rw [if_neg z, if_neg (fun y => z (hoc.mp y))])))
                  · try simp only [bq0, ne_eq, Classical.not_not] at h_372
                    refine G_bipush (pc := 375) (x := 32) dX9_sign_375 rfl (by decide) ?_
                    refine G_goto (pc := 377) (tgt := 394) dX9_sign_377 rfl ?_
                    exact j_394 _ (by first | (rw [if_neg (show ¬ onCl (t 2184 0) (t 35) (t 36) (t 37) (t 32) (t 39) (t 40) (t 41) (t 42) W N c q l from fun z => z.1 h_372)]) | (by_cases z : onCl (t 2184 0) (t 35) (t 36) (t 37) (t 32) (t 39) (t 40) (t 41) (t 42) W N c q l; (rw [if_pos z, if_pos (hoc.mpr z), e4]); (rw [if_neg z, if_neg (fun y => z (hoc.mp y))])))
              · have hNo : ¬ lineP (t 2184 0) (t 35) (t 36) (t 37) (t 32) (t 39) (t 40) (t 41) (t 42) W N v c q l := fun z => by have := z.1.1; omega
                refine G_goto (pc := 359) (tgt := 406) dX9_sign_359 rfl ?_
                refine G_iinc (pc := 406) dX9_sign_406 rfl rfl (by omega) ?_
                refine G_goto (pc := 409) (tgt := 284) dX9_sign_409 rfl ?_
                exact ih (by omega) _ _ _ (by omega) ((fst_neg (by omega) hNo).symm.trans hX0)
  have loop2 : (0 ≤ c ∧ 0 ≤ q) → ¬ 0 ≤ Z1 → ∀ r, r ≤ t 2184 0 → ∀ o7 o8 o9 : Option MV, 0 ≤ r → fst (stairP (t 2188 0) (t 35) (t 36) (t 37) (t 38) (t 32) (t 39) (t 40) (t 41) (t 42) W N v c q) r (t 2184 0) = Z2 → G E cX9_sign RX9 (some .int) 4 138 [some (mP 31), some (mI v), some (mI c), some (mI q), some (mI W), some (mI N), some (mI r), o7, o8, o9] [] T (fun a t' => ∃ x, a = some (mI x) ∧ (x = signR (t 2184 0) (t 2188 0) (t 35) (t 36) (t 37) (t 38) (t 32) (t 39) (t 40) (t 41) (t 42) v c q ∧ (t' = t ∨ t' = T))) := by
    intro hcq hz1
    have hr3 := hres hcq
    rw [if_neg hz1] at hr3
    refine up_ind (fun r hr ih o7 o8 o9 h0 hX0 => ?_)
    have hxr := hX r
    have hyr := hY r
    refine G_iload (pc := 138) dX9_sign_138 rfl ?_
    refine G_aload_n (pc := 140) dX9_sign_140 rfl ?_
    refine G_getI (pc := 141) dX9_sign_141 fk_X9_86 rfl rfl rfl ?_
    rw [e1]
    refine G_icmp_ge (pc := 144) (tgt := 281) dX9_sign_144 rfl (fun h_144 => ?_) (fun h_144 => ?_)
    · refine G_iconst (pc := 281) dX9_sign_281 (by decide) ?_
      refine G_istore (pc := 282) dX9_sign_282 (Nat.le_of_ble_eq_true rfl) rfl ?_
      rw [fst_ge (by omega)] at hX0
      exact loop3 hcq hz1 (by omega) 0 (by omega) _ _ _ (by omega) hZ3
    · have hwr := hWi r h0 (by omega)
      refine G_iload_n (pc := 147) dX9_sign_147 rfl ?_
      refine G_i2l (pc := 148) dX9_sign_148 ?_
      refine G_ldc2 (pc := 149) dX9_sign_149 kc_X9_240 (by decide) ?_
      refine G_aload_n (pc := 152) dX9_sign_152 rfl ?_
      refine G_getP (pc := 153) dX9_sign_153 fk_X9_56 rfl rfl rfl ?_
      refine G_iload (pc := 156) dX9_sign_156 rfl ?_
      refine G_iaload (pc := 158) dX9_sign_158 rfl rfl (by omega) ?_
      rw [g47 r h0 (by omega)]
      refine G_iload (pc := 159) dX9_sign_159 rfl ?_
      refine G_isub (pc := 161) dX9_sign_161 (by omega) ?_
      refine G_i2l (pc := 162) dX9_sign_162 ?_
      refine G_lmul (pc := 163) dX9_sign_163 (by omega) ?_
      refine G_lsub (pc := 164) dX9_sign_164 (by omega) ?_
      refine G_aload_n (pc := 165) dX9_sign_165 rfl ?_
      refine G_getP (pc := 166) dX9_sign_166 fk_X9_7 rfl rfl rfl ?_
      refine G_iload (pc := 169) dX9_sign_169 rfl ?_
      refine G_iaload (pc := 171) dX9_sign_171 rfl rfl (by omega) ?_
      rw [e7]
      refine G_i2l (pc := 172) dX9_sign_172 ?_
      refine G_lsub (pc := 173) dX9_sign_173 (by omega) ?_
      refine G_lstore (pc := 174) dX9_sign_174 (Nat.le_of_ble_eq_true rfl) rfl ?_
      refine G_aload_n (pc := 176) dX9_sign_176 rfl ?_
      refine G_getP (pc := 177) dX9_sign_177 fk_X9_53 rfl rfl rfl ?_
      refine G_iload (pc := 180) dX9_sign_180 rfl ?_
      refine G_baload (pc := 182) dX9_sign_182 rfl rfl (by omega) ?_
      rw [g46 r h0 (by omega)]
      refine G_if_eq (pc := 183) (tgt := 275) dX9_sign_183 rfl (fun h_183 => ?_) (fun h_183 => ?_)
      · try simp only [bq0, ne_eq, Classical.not_not] at h_183
        have hNo : ¬ stairP (t 2188 0) (t 35) (t 36) (t 37) (t 38) (t 32) (t 39) (t 40) (t 41) (t 42) W N v c q r := fun z => z.1.1 h_183
        refine G_iinc (pc := 275) dX9_sign_275 rfl rfl (by omega) ?_
        refine G_goto (pc := 278) (tgt := 138) dX9_sign_278 rfl ?_
        exact ih (by omega) _ _ _ (by omega) ((fst_neg (by omega) hNo).symm.trans hX0)
      · try simp only [bq0, ne_eq, Classical.not_not] at h_183
        refine G_aload_n (pc := 186) dX9_sign_186 rfl ?_
        refine G_getP (pc := 187) dX9_sign_187 fk_X9_62 rfl rfl rfl ?_
        refine G_iload (pc := 190) dX9_sign_190 rfl ?_
        refine G_iaload (pc := 192) dX9_sign_192 rfl rfl (by omega) ?_
        rw [g49 r h0 (by omega)]
        refine G_iload_n (pc := 193) dX9_sign_193 rfl ?_
        refine G_icmp_ne (pc := 194) (tgt := 275) dX9_sign_194 rfl (fun h_194 => ?_) (fun h_194 => ?_)
        · have hNo : ¬ stairP (t 2188 0) (t 35) (t 36) (t 37) (t 38) (t 32) (t 39) (t 40) (t 41) (t 42) W N v c q r := fun z => h_194 z.1.2.1
          refine G_iinc (pc := 275) dX9_sign_275 rfl rfl (by omega) ?_
          refine G_goto (pc := 278) (tgt := 138) dX9_sign_278 rfl ?_
          exact ih (by omega) _ _ _ (by omega) ((fst_neg (by omega) hNo).symm.trans hX0)
        · refine G_iload_n (pc := 197) dX9_sign_197 rfl ?_
          refine G_i2l (pc := 198) dX9_sign_198 ?_
          refine G_ldc2 (pc := 199) dX9_sign_199 kc_X9_242 (by decide) ?_
          refine G_aload_n (pc := 202) dX9_sign_202 rfl ?_
          refine G_getP (pc := 203) dX9_sign_203 fk_X9_59 rfl rfl rfl ?_
          refine G_iload (pc := 206) dX9_sign_206 rfl ?_
          refine G_iaload (pc := 208) dX9_sign_208 rfl rfl (by omega) ?_
          rw [g48 r h0 (by omega)]
          refine G_iload (pc := 209) dX9_sign_209 rfl ?_
          refine G_isub (pc := 211) dX9_sign_211 (by omega) ?_
          refine G_i2l (pc := 212) dX9_sign_212 ?_
          refine G_lmul (pc := 213) dX9_sign_213 (by omega) ?_
          refine G_lcmp (pc := 214) dX9_sign_214 ?_
          refine G_if_ne (pc := 215) (tgt := 275) dX9_sign_215 rfl (fun h_215 => ?_) (fun h_215 => ?_)
          · try simp only [bq0, ne_eq, Classical.not_not] at h_215
            rw [lcmp_eq] at h_215
            have hNo : ¬ stairP (t 2188 0) (t 35) (t 36) (t 37) (t 38) (t 32) (t 39) (t 40) (t 41) (t 42) W N v c q r := fun z => by have := z.1.2.2; omega
            refine G_iinc (pc := 275) dX9_sign_275 rfl rfl (by omega) ?_
            refine G_goto (pc := 278) (tgt := 138) dX9_sign_278 rfl ?_
            exact ih (by omega) _ _ _ (by omega) ((fst_neg (by omega) hNo).symm.trans hX0)
          · try simp only [bq0, ne_eq, Classical.not_not] at h_215
            rw [lcmp_eq] at h_215
            refine G_lload (pc := 218) dX9_sign_218 rfl ?_
            refine G_lconst (pc := 220) (x := 0) dX9_sign_220 rfl (by decide) ?_
            refine G_lcmp (pc := 221) dX9_sign_221 ?_
            refine G_if_ne (pc := 222) (tgt := 239) dX9_sign_222 rfl (fun h_222 => ?_) (fun h_222 => ?_)
            · try simp only [bq0, ne_eq, Classical.not_not] at h_222
              rw [lcmp_eq] at h_222
              refine G_lload (pc := 239) dX9_sign_239 rfl ?_
              refine G_aload_n (pc := 241) dX9_sign_241 rfl ?_
              refine G_iload (pc := 242) dX9_sign_242 rfl ?_
              refine G_bipush (pc := 244) (x := 8) dX9_sign_244 rfl (by decide) ?_
              refine G_cV1 (pc := 246) (c_X9_outOf _ _ _ (by exact hS1)) dX9_sign_246 ml_X9_105 rfl rfl rfl (by decide) (Nat.le_of_ble_eq_true rfl) ?_
              rw [e2, e3, e4, e5, e6]
              refine G_if_lt (pc := 249) (tgt := 256) dX9_sign_249 rfl (fun h_249 => ?_) (fun h_249 => ?_)
              · refine G_lconst (pc := 256) (x := 0) dX9_sign_256 rfl (by decide) ?_
                refine G_lcmp (pc := 257) dX9_sign_257 ?_
                refine G_if_ne (pc := 258) (tgt := 275) dX9_sign_258 rfl (fun h_258 => ?_) (fun h_258 => ?_)
                · try simp only [bq0, ne_eq, Classical.not_not] at h_258
                  rw [lcmp_eq] at h_258
                  have hNo : ¬ stairP (t 2188 0) (t 35) (t 36) (t 37) (t 38) (t 32) (t 39) (t 40) (t 41) (t 42) W N v c q r := by unfold stairP; grind
                  refine G_iinc (pc := 275) dX9_sign_275 rfl rfl (by omega) ?_
                  refine G_goto (pc := 278) (tgt := 138) dX9_sign_278 rfl ?_
                  exact ih (by omega) _ _ _ (by omega) ((fst_neg (by omega) hNo).symm.trans hX0)
                · try simp only [bq0, ne_eq, Classical.not_not] at h_258
                  rw [lcmp_eq] at h_258
                  refine G_aload_n (pc := 261) dX9_sign_261 rfl ?_
                  refine G_iload (pc := 262) dX9_sign_262 rfl ?_
                  refine G_bipush (pc := 264) (x := 9) dX9_sign_264 rfl (by decide) ?_
                  refine G_cV1 (pc := 266) (c_X9_outOf _ _ _ (by exact hS1)) dX9_sign_266 ml_X9_105 rfl rfl rfl (by decide) (Nat.le_of_ble_eq_true rfl) ?_
                  rw [e2, e3, e4, e5, e6]
                  refine G_if_lt (pc := 269) (tgt := 275) dX9_sign_269 rfl (fun h_269 => ?_) (fun h_269 => ?_)
                  · have hNo : ¬ stairP (t 2188 0) (t 35) (t 36) (t 37) (t 38) (t 32) (t 39) (t 40) (t 41) (t 42) W N v c q r := by unfold stairP; grind
                    refine G_iinc (pc := 275) dX9_sign_275 rfl rfl (by omega) ?_
                    refine G_goto (pc := 278) (tgt := 138) dX9_sign_278 rfl ?_
                    exact ih (by omega) _ _ _ (by omega) ((fst_neg (by omega) hNo).symm.trans hX0)
                  · have hYes : stairP (t 2188 0) (t 35) (t 36) (t 37) (t 38) (t 32) (t 39) (t 40) (t 41) (t 42) W N v c q r := by
                      unfold stairP
                      refine ⟨⟨h_183, h_194, by omega⟩, Or.inr ⟨?_, by omega⟩⟩
                      first | (rw [if_neg (by omega)]; omega) | (rw [if_pos (by omega)]; omega)
                    refine G_bipush (pc := 272) (x := 118) dX9_sign_272 rfl (by decide) ?_
                    exact G_ireturn (pc := 274) dX9_sign_274 ⟨_, rfl, by rw [fst_pos (by omega) hYes] at hX0; rw [hr3, ← hX0, if_pos h0]; unfold stairV; rw [if_neg (by omega)], Or.inr rfl⟩
              · refine G_lconst (pc := 252) (x := 1) dX9_sign_252 rfl (by decide) ?_
                refine G_goto (pc := 253) (tgt := 257) dX9_sign_253 rfl ?_
                refine G_lcmp (pc := 257) dX9_sign_257 ?_
                refine G_if_ne (pc := 258) (tgt := 275) dX9_sign_258 rfl (fun h_258 => ?_) (fun h_258 => ?_)
                · try simp only [bq0, ne_eq, Classical.not_not] at h_258
                  rw [lcmp_eq] at h_258
                  have hNo : ¬ stairP (t 2188 0) (t 35) (t 36) (t 37) (t 38) (t 32) (t 39) (t 40) (t 41) (t 42) W N v c q r := by unfold stairP; grind
                  refine G_iinc (pc := 275) dX9_sign_275 rfl rfl (by omega) ?_
                  refine G_goto (pc := 278) (tgt := 138) dX9_sign_278 rfl ?_
                  exact ih (by omega) _ _ _ (by omega) ((fst_neg (by omega) hNo).symm.trans hX0)
                · try simp only [bq0, ne_eq, Classical.not_not] at h_258
                  rw [lcmp_eq] at h_258
                  refine G_aload_n (pc := 261) dX9_sign_261 rfl ?_
                  refine G_iload (pc := 262) dX9_sign_262 rfl ?_
                  refine G_bipush (pc := 264) (x := 9) dX9_sign_264 rfl (by decide) ?_
                  refine G_cV1 (pc := 266) (c_X9_outOf _ _ _ (by exact hS1)) dX9_sign_266 ml_X9_105 rfl rfl rfl (by decide) (Nat.le_of_ble_eq_true rfl) ?_
                  rw [e2, e3, e4, e5, e6]
                  refine G_if_lt (pc := 269) (tgt := 275) dX9_sign_269 rfl (fun h_269 => ?_) (fun h_269 => ?_)
                  · have hNo : ¬ stairP (t 2188 0) (t 35) (t 36) (t 37) (t 38) (t 32) (t 39) (t 40) (t 41) (t 42) W N v c q r := by unfold stairP; grind
                    refine G_iinc (pc := 275) dX9_sign_275 rfl rfl (by omega) ?_
                    refine G_goto (pc := 278) (tgt := 138) dX9_sign_278 rfl ?_
                    exact ih (by omega) _ _ _ (by omega) ((fst_neg (by omega) hNo).symm.trans hX0)
                  · have hYes : stairP (t 2188 0) (t 35) (t 36) (t 37) (t 38) (t 32) (t 39) (t 40) (t 41) (t 42) W N v c q r := by
                      unfold stairP
                      refine ⟨⟨h_183, h_194, by omega⟩, Or.inr ⟨?_, by omega⟩⟩
                      first | (rw [if_neg (by omega)]; omega) | (rw [if_pos (by omega)]; omega)
                    refine G_bipush (pc := 272) (x := 118) dX9_sign_272 rfl (by decide) ?_
                    exact G_ireturn (pc := 274) dX9_sign_274 ⟨_, rfl, by rw [fst_pos (by omega) hYes] at hX0; rw [hr3, ← hX0, if_pos h0]; unfold stairV; rw [if_neg (by omega)], Or.inr rfl⟩
            · try simp only [bq0, ne_eq, Classical.not_not] at h_222
              rw [lcmp_eq] at h_222
              refine G_aload_n (pc := 225) dX9_sign_225 rfl ?_
              refine G_iload (pc := 226) dX9_sign_226 rfl ?_
              refine G_bipush (pc := 228) (x := 8) dX9_sign_228 rfl (by decide) ?_
              refine G_cV1 (pc := 230) (c_X9_outOf _ _ _ (by exact hS1)) dX9_sign_230 ml_X9_105 rfl rfl rfl (by decide) (Nat.le_of_ble_eq_true rfl) ?_
              rw [e2, e3, e4, e5, e6]
              refine G_if_lt (pc := 233) (tgt := 239) dX9_sign_233 rfl (fun h_233 => ?_) (fun h_233 => ?_)
              · refine G_lload (pc := 239) dX9_sign_239 rfl ?_
                refine G_aload_n (pc := 241) dX9_sign_241 rfl ?_
                refine G_iload (pc := 242) dX9_sign_242 rfl ?_
                refine G_bipush (pc := 244) (x := 8) dX9_sign_244 rfl (by decide) ?_
                refine G_cV1 (pc := 246) (c_X9_outOf _ _ _ (by exact hS1)) dX9_sign_246 ml_X9_105 rfl rfl rfl (by decide) (Nat.le_of_ble_eq_true rfl) ?_
                rw [e2, e3, e4, e5, e6]
                refine G_if_lt (pc := 249) (tgt := 256) dX9_sign_249 rfl (fun h_249 => ?_) (fun h_249 => ?_)
                · refine G_lconst (pc := 256) (x := 0) dX9_sign_256 rfl (by decide) ?_
                  refine G_lcmp (pc := 257) dX9_sign_257 ?_
                  refine G_if_ne (pc := 258) (tgt := 275) dX9_sign_258 rfl (fun h_258 => ?_) (fun h_258 => ?_)
                  · try simp only [bq0, ne_eq, Classical.not_not] at h_258
                    rw [lcmp_eq] at h_258
                    have hNo : ¬ stairP (t 2188 0) (t 35) (t 36) (t 37) (t 38) (t 32) (t 39) (t 40) (t 41) (t 42) W N v c q r := by unfold stairP; grind
                    refine G_iinc (pc := 275) dX9_sign_275 rfl rfl (by omega) ?_
                    refine G_goto (pc := 278) (tgt := 138) dX9_sign_278 rfl ?_
                    exact ih (by omega) _ _ _ (by omega) ((fst_neg (by omega) hNo).symm.trans hX0)
                  · try simp only [bq0, ne_eq, Classical.not_not] at h_258
                    rw [lcmp_eq] at h_258
                    refine G_aload_n (pc := 261) dX9_sign_261 rfl ?_
                    refine G_iload (pc := 262) dX9_sign_262 rfl ?_
                    refine G_bipush (pc := 264) (x := 9) dX9_sign_264 rfl (by decide) ?_
                    refine G_cV1 (pc := 266) (c_X9_outOf _ _ _ (by exact hS1)) dX9_sign_266 ml_X9_105 rfl rfl rfl (by decide) (Nat.le_of_ble_eq_true rfl) ?_
                    rw [e2, e3, e4, e5, e6]
                    refine G_if_lt (pc := 269) (tgt := 275) dX9_sign_269 rfl (fun h_269 => ?_) (fun h_269 => ?_)
                    · have hNo : ¬ stairP (t 2188 0) (t 35) (t 36) (t 37) (t 38) (t 32) (t 39) (t 40) (t 41) (t 42) W N v c q r := by unfold stairP; grind
                      refine G_iinc (pc := 275) dX9_sign_275 rfl rfl (by omega) ?_
                      refine G_goto (pc := 278) (tgt := 138) dX9_sign_278 rfl ?_
                      exact ih (by omega) _ _ _ (by omega) ((fst_neg (by omega) hNo).symm.trans hX0)
                    · have hYes : stairP (t 2188 0) (t 35) (t 36) (t 37) (t 38) (t 32) (t 39) (t 40) (t 41) (t 42) W N v c q r := by
                        unfold stairP
                        refine ⟨⟨h_183, h_194, by omega⟩, Or.inr ⟨?_, by omega⟩⟩
                        first | (rw [if_neg (by omega)]; omega) | (rw [if_pos (by omega)]; omega)
                      refine G_bipush (pc := 272) (x := 118) dX9_sign_272 rfl (by decide) ?_
                      exact G_ireturn (pc := 274) dX9_sign_274 ⟨_, rfl, by rw [fst_pos (by omega) hYes] at hX0; rw [hr3, ← hX0, if_pos h0]; unfold stairV; rw [if_neg (by omega)], Or.inr rfl⟩
                · refine G_lconst (pc := 252) (x := 1) dX9_sign_252 rfl (by decide) ?_
                  refine G_goto (pc := 253) (tgt := 257) dX9_sign_253 rfl ?_
                  refine G_lcmp (pc := 257) dX9_sign_257 ?_
                  refine G_if_ne (pc := 258) (tgt := 275) dX9_sign_258 rfl (fun h_258 => ?_) (fun h_258 => ?_)
                  · try simp only [bq0, ne_eq, Classical.not_not] at h_258
                    rw [lcmp_eq] at h_258
                    have hNo : ¬ stairP (t 2188 0) (t 35) (t 36) (t 37) (t 38) (t 32) (t 39) (t 40) (t 41) (t 42) W N v c q r := by unfold stairP; grind
                    refine G_iinc (pc := 275) dX9_sign_275 rfl rfl (by omega) ?_
                    refine G_goto (pc := 278) (tgt := 138) dX9_sign_278 rfl ?_
                    exact ih (by omega) _ _ _ (by omega) ((fst_neg (by omega) hNo).symm.trans hX0)
                  · try simp only [bq0, ne_eq, Classical.not_not] at h_258
                    rw [lcmp_eq] at h_258
                    refine G_aload_n (pc := 261) dX9_sign_261 rfl ?_
                    refine G_iload (pc := 262) dX9_sign_262 rfl ?_
                    refine G_bipush (pc := 264) (x := 9) dX9_sign_264 rfl (by decide) ?_
                    refine G_cV1 (pc := 266) (c_X9_outOf _ _ _ (by exact hS1)) dX9_sign_266 ml_X9_105 rfl rfl rfl (by decide) (Nat.le_of_ble_eq_true rfl) ?_
                    rw [e2, e3, e4, e5, e6]
                    refine G_if_lt (pc := 269) (tgt := 275) dX9_sign_269 rfl (fun h_269 => ?_) (fun h_269 => ?_)
                    · have hNo : ¬ stairP (t 2188 0) (t 35) (t 36) (t 37) (t 38) (t 32) (t 39) (t 40) (t 41) (t 42) W N v c q r := by unfold stairP; grind
                      refine G_iinc (pc := 275) dX9_sign_275 rfl rfl (by omega) ?_
                      refine G_goto (pc := 278) (tgt := 138) dX9_sign_278 rfl ?_
                      exact ih (by omega) _ _ _ (by omega) ((fst_neg (by omega) hNo).symm.trans hX0)
                    · have hYes : stairP (t 2188 0) (t 35) (t 36) (t 37) (t 38) (t 32) (t 39) (t 40) (t 41) (t 42) W N v c q r := by
                        unfold stairP
                        refine ⟨⟨h_183, h_194, by omega⟩, Or.inr ⟨?_, by omega⟩⟩
                        first | (rw [if_neg (by omega)]; omega) | (rw [if_pos (by omega)]; omega)
                      refine G_bipush (pc := 272) (x := 118) dX9_sign_272 rfl (by decide) ?_
                      exact G_ireturn (pc := 274) dX9_sign_274 ⟨_, rfl, by rw [fst_pos (by omega) hYes] at hX0; rw [hr3, ← hX0, if_pos h0]; unfold stairV; rw [if_neg (by omega)], Or.inr rfl⟩
              · refine G_bipush (pc := 236) (x := 94) dX9_sign_236 rfl (by decide) ?_
                exact G_ireturn (pc := 238) dX9_sign_238 ⟨_, rfl, by rw [fst_pos (by omega) (by unfold stairP; exact ⟨⟨h_183, h_194, by omega⟩, Or.inl ⟨by omega, by omega⟩⟩)] at hX0; rw [hr3, ← hX0, if_pos h0]; unfold stairV; rw [if_pos ⟨by omega, by omega⟩], Or.inr rfl⟩
  have loop1 : (0 ≤ c ∧ 0 ≤ q) → ∀ r, r ≤ t 2184 0 → ∀ o7 o8 o9 : Option MV, 0 ≤ r → fst (letP (t 32) (t 39) (t 40) (t 41) (t 42) W N v c q) r (t 2184 0) = Z1 → G E cX9_sign RX9 (some .int) 4 31 [some (mP 31), some (mI v), some (mI c), some (mI q), some (mI W), some (mI N), some (mI r), o7, o8, o9] [] T (fun a t' => ∃ x, a = some (mI x) ∧ (x = signR (t 2184 0) (t 2188 0) (t 35) (t 36) (t 37) (t 38) (t 32) (t 39) (t 40) (t 41) (t 42) v c q ∧ (t' = t ∨ t' = T))) := by
    intro hcq
    have hr3 := hres hcq
    refine up_ind (fun r hr ih o7 o8 o9 h0 hX0 => ?_)
    have hxr := hX r
    have hyr := hY r
    refine G_iload (pc := 31) dX9_sign_31 rfl ?_
    refine G_aload_n (pc := 33) dX9_sign_33 rfl ?_
    refine G_getI (pc := 34) dX9_sign_34 fk_X9_86 rfl rfl rfl ?_
    rw [e1]
    refine G_icmp_ge (pc := 37) (tgt := 135) dX9_sign_37 rfl (fun h_37 => ?_) (fun h_37 => ?_)
    · refine G_iconst (pc := 135) dX9_sign_135 (by decide) ?_
      refine G_istore (pc := 136) dX9_sign_136 (Nat.le_of_ble_eq_true rfl) rfl ?_
      rw [fst_ge (by omega)] at hX0
      exact loop2 hcq (by omega) 0 (by omega) _ _ _ (by omega) hZ2
    · have hwr := hWi r h0 (by omega)
      refine G_iload_n (pc := 40) dX9_sign_40 rfl ?_
      refine G_i2l (pc := 41) dX9_sign_41 ?_
      refine G_ldc2 (pc := 42) dX9_sign_42 kc_X9_240 (by decide) ?_
      refine G_aload_n (pc := 45) dX9_sign_45 rfl ?_
      refine G_getP (pc := 46) dX9_sign_46 fk_X9_56 rfl rfl rfl ?_
      refine G_iload (pc := 49) dX9_sign_49 rfl ?_
      refine G_iaload (pc := 51) dX9_sign_51 rfl rfl (by omega) ?_
      rw [g47 r h0 (by omega)]
      refine G_iload (pc := 52) dX9_sign_52 rfl ?_
      refine G_isub (pc := 54) dX9_sign_54 (by omega) ?_
      refine G_i2l (pc := 55) dX9_sign_55 ?_
      refine G_lmul (pc := 56) dX9_sign_56 (by omega) ?_
      refine G_lsub (pc := 57) dX9_sign_57 (by omega) ?_
      refine G_lstore (pc := 58) dX9_sign_58 (Nat.le_of_ble_eq_true rfl) rfl ?_
      refine G_aload_n (pc := 60) dX9_sign_60 rfl ?_
      refine G_getP (pc := 61) dX9_sign_61 fk_X9_53 rfl rfl rfl ?_
      refine G_iload (pc := 64) dX9_sign_64 rfl ?_
      refine G_baload (pc := 66) dX9_sign_66 rfl rfl (by omega) ?_
      rw [g46 r h0 (by omega)]
      refine G_if_eq (pc := 67) (tgt := 129) dX9_sign_67 rfl (fun h_67 => ?_) (fun h_67 => ?_)
      · try simp only [bq0, ne_eq, Classical.not_not] at h_67
        have hNo : ¬ letP (t 32) (t 39) (t 40) (t 41) (t 42) W N v c q r := fun z => z.1.1 h_67
        refine G_iinc (pc := 129) dX9_sign_129 rfl rfl (by omega) ?_
        refine G_goto (pc := 132) (tgt := 31) dX9_sign_132 rfl ?_
        exact ih (by omega) _ _ _ (by omega) ((fst_neg (by omega) hNo).symm.trans hX0)
      · try simp only [bq0, ne_eq, Classical.not_not] at h_67
        refine G_aload_n (pc := 70) dX9_sign_70 rfl ?_
        refine G_getP (pc := 71) dX9_sign_71 fk_X9_62 rfl rfl rfl ?_
        refine G_iload (pc := 74) dX9_sign_74 rfl ?_
        refine G_iaload (pc := 76) dX9_sign_76 rfl rfl (by omega) ?_
        rw [g49 r h0 (by omega)]
        refine G_iload_n (pc := 77) dX9_sign_77 rfl ?_
        refine G_icmp_ne (pc := 78) (tgt := 129) dX9_sign_78 rfl (fun h_78 => ?_) (fun h_78 => ?_)
        · have hNo : ¬ letP (t 32) (t 39) (t 40) (t 41) (t 42) W N v c q r := fun z => h_78 z.1.2.1
          refine G_iinc (pc := 129) dX9_sign_129 rfl rfl (by omega) ?_
          refine G_goto (pc := 132) (tgt := 31) dX9_sign_132 rfl ?_
          exact ih (by omega) _ _ _ (by omega) ((fst_neg (by omega) hNo).symm.trans hX0)
        · refine G_iload_n (pc := 81) dX9_sign_81 rfl ?_
          refine G_i2l (pc := 82) dX9_sign_82 ?_
          refine G_ldc2 (pc := 83) dX9_sign_83 kc_X9_242 (by decide) ?_
          refine G_aload_n (pc := 86) dX9_sign_86 rfl ?_
          refine G_getP (pc := 87) dX9_sign_87 fk_X9_59 rfl rfl rfl ?_
          refine G_iload (pc := 90) dX9_sign_90 rfl ?_
          refine G_iaload (pc := 92) dX9_sign_92 rfl rfl (by omega) ?_
          rw [g48 r h0 (by omega)]
          refine G_iload (pc := 93) dX9_sign_93 rfl ?_
          refine G_isub (pc := 95) dX9_sign_95 (by omega) ?_
          refine G_i2l (pc := 96) dX9_sign_96 ?_
          refine G_lmul (pc := 97) dX9_sign_97 (by omega) ?_
          refine G_lcmp (pc := 98) dX9_sign_98 ?_
          refine G_if_ne (pc := 99) (tgt := 129) dX9_sign_99 rfl (fun h_99 => ?_) (fun h_99 => ?_)
          · try simp only [bq0, ne_eq, Classical.not_not] at h_99
            rw [lcmp_eq] at h_99
            have hNo : ¬ letP (t 32) (t 39) (t 40) (t 41) (t 42) W N v c q r := fun z => by have := z.1.2.2; omega
            refine G_iinc (pc := 129) dX9_sign_129 rfl rfl (by omega) ?_
            refine G_goto (pc := 132) (tgt := 31) dX9_sign_132 rfl ?_
            exact ih (by omega) _ _ _ (by omega) ((fst_neg (by omega) hNo).symm.trans hX0)
          · try simp only [bq0, ne_eq, Classical.not_not] at h_99
            rw [lcmp_eq] at h_99
            refine G_lload (pc := 102) dX9_sign_102 rfl ?_
            refine G_lconst (pc := 104) (x := 0) dX9_sign_104 rfl (by decide) ?_
            refine G_lcmp (pc := 105) dX9_sign_105 ?_
            refine G_if_lt (pc := 106) (tgt := 129) dX9_sign_106 rfl (fun h_106 => ?_) (fun h_106 => ?_)
            · rw [lcmp_lt] at h_106
              have hNo : ¬ letP (t 32) (t 39) (t 40) (t 41) (t 42) W N v c q r := fun z => by have := z.2; omega
              refine G_iinc (pc := 129) dX9_sign_129 rfl rfl (by omega) ?_
              refine G_goto (pc := 132) (tgt := 31) dX9_sign_132 rfl ?_
              exact ih (by omega) _ _ _ (by omega) ((fst_neg (by omega) hNo).symm.trans hX0)
            · rw [lcmp_lt] at h_106
              refine G_lload (pc := 109) dX9_sign_109 rfl ?_
              refine G_aload_n (pc := 111) dX9_sign_111 rfl ?_
              refine G_getP (pc := 112) dX9_sign_112 fk_X9_7 rfl rfl rfl ?_
              refine G_iload (pc := 115) dX9_sign_115 rfl ?_
              refine G_iaload (pc := 117) dX9_sign_117 rfl rfl (by omega) ?_
              rw [e7]
              refine G_i2l (pc := 118) dX9_sign_118 ?_
              refine G_lcmp (pc := 119) dX9_sign_119 ?_
              refine G_if_ge (pc := 120) (tgt := 129) dX9_sign_120 rfl (fun h_120 => ?_) (fun h_120 => ?_)
              · rw [lcmp_ge] at h_120
                have hNo : ¬ letP (t 32) (t 39) (t 40) (t 41) (t 42) W N v c q r := fun z => by have := z.2; omega
                refine G_iinc (pc := 129) dX9_sign_129 rfl rfl (by omega) ?_
                refine G_goto (pc := 132) (tgt := 31) dX9_sign_132 rfl ?_
                exact ih (by omega) _ _ _ (by omega) ((fst_neg (by omega) hNo).symm.trans hX0)
              · rw [lcmp_ge] at h_120
                refine G_bipush (pc := 123) (x := 65) dX9_sign_123 rfl (by decide) ?_
                refine G_iload (pc := 125) dX9_sign_125 rfl ?_
                refine G_iadd (pc := 127) dX9_sign_127 (by omega) ?_
                exact G_ireturn (pc := 128) dX9_sign_128 ⟨_, rfl, by rw [fst_pos (by omega) (by unfold letP; exact ⟨⟨h_67, h_78, by omega⟩, by omega, by omega⟩)] at hX0; rw [hr3, ← hX0, if_pos h0], Or.inr rfl⟩
  have hbad : ¬ (0 ≤ c ∧ 0 ≤ q) → signR (t 2184 0) (t 2188 0) (t 35) (t 36) (t 37) (t 38) (t 32) (t 39) (t 40) (t 41) (t 42) v c q = -1 := by intro z; unfold signR; rw [if_neg z]
  refine G_iload_n (pc := 0) dX9_sign_0 rfl ?_
  refine G_if_lt (pc := 1) (tgt := 8) dX9_sign_1 rfl (fun h_1 => ?_) (fun h_1 => ?_)
  · refine G_iconst (pc := 8) dX9_sign_8 (by decide) ?_
    exact G_ireturn (pc := 9) dX9_sign_9 ⟨_, rfl, by rw [hbad (by omega)], Or.inl rfl⟩
  · refine G_iload_n (pc := 4) dX9_sign_4 rfl ?_
    refine G_if_ge (pc := 5) (tgt := 10) dX9_sign_5 rfl (fun h_5 => ?_) (fun h_5 => ?_)
    · refine G_aload_n (pc := 10) dX9_sign_10 rfl ?_
      refine G_cV0 (pc := 11) (c_X9_load _ (by omega) (by exact hp)) dX9_sign_11 ml_X9_215 rfl rfl rfl (by decide) (Nat.le_of_ble_eq_true rfl) ?_
      rw [← hT]
      refine G_aload_n (pc := 14) dX9_sign_14 rfl ?_
      refine G_iconst (pc := 15) dX9_sign_15 (by decide) ?_
      refine G_cV1 (pc := 16) (c_X9_leastOf_b1 _ (by rw [e1]; omega)) dX9_sign_16 ml_X9_236 rfl rfl rfl (by decide) (Nat.le_of_ble_eq_true rfl) ?_
      rw [e1, e8, e9, ← hW]
      refine G_istore (pc := 19) dX9_sign_19 (Nat.le_of_ble_eq_true rfl) rfl ?_
      refine G_aload_n (pc := 21) dX9_sign_21 rfl ?_
      refine G_iconst (pc := 22) dX9_sign_22 (by decide) ?_
      refine G_cV1 (pc := 23) (c_X9_leastOf_b0 _ (by rw [e1]; omega)) dX9_sign_23 ml_X9_236 rfl rfl rfl (by decide) (Nat.le_of_ble_eq_true rfl) ?_
      rw [e1, e8, e10, ← hN]
      refine G_istore (pc := 26) dX9_sign_26 (Nat.le_of_ble_eq_true rfl) rfl ?_
      refine G_iconst (pc := 28) dX9_sign_28 (by decide) ?_
      refine G_istore (pc := 29) dX9_sign_29 (Nat.le_of_ble_eq_true rfl) rfl ?_
      exact loop1 (by omega) 0 (by omega) _ _ _ (by omega) hZ1
    · refine G_iconst (pc := 8) dX9_sign_8 (by decide) ?_
      exact G_ireturn (pc := 9) dX9_sign_9 ⟨_, rfl, by rw [hbad (by omega)], Or.inl rfl⟩
