/-! TRYING: the reference, a node of the search, walked -/
theorem tp_leaf {E : Ev} {e : SE} {t : Sto} {Q : Option MV → Sto → Prop} (hE : EOK e) (hM : EM e t) (ho : t 50 = e.ord ∧ t 2210 0 = e.cnt) (hc1 : 1 < e.cnt) (f : Nat) (a : Int) (P : PF) (c : AC) (s : Sto) (md : Int) (o5 o6 o7 : Option MV) (hac : a + 1 = e.cnt) (hP : PLC e (a + 1) P) (hA : AG e.n P (pM s)) (hF : FRm t s) (hR : RELm e c s md 0) (hch : ∀ i, 1 ≤ i → i ≤ a → 0 ≤ s 52 i ∧ s 52 i ≤ 1000)
    (k0 : ∀ (u : Sto) (md' : Int) (o5 o6 o7 : Option MV), FRm t u → (1 ≤ a → AG e.n (rmF P (e.ord a)) (pM u) ∧ u 52 a = s 52 a + 1) → (∀ i, 1 ≤ i → i < a → u 52 i = s 52 i) → RELm e (bodyF e f a P c) u md' 0 → G E cX9_tryPart RX9 (some .boolean) 6 48 [some (mP 31), some (mI e.lim), some (mI md'), some (mI a), some (mI 0), o5, o6, o7] [] u Q) : G E cX9_tryPart RX9 (some .boolean) 6 48 [some (mP 31), some (mI e.lim), some (mI md), some (mI (a + 1)), some (mI 0), o5, o6, o7] [] s Q := by
  have hn24 := hE.sok.1
  have hcn := hE.cnt
  obtain ⟨hMs, s50, s2210⟩ := FRm_E hF hM ho
  have hSM := EM_SM hE.sok hMs
  obtain ⟨u, hU⟩ : ∃ u, u = (if s 2217 0 < 0 ∨ coM s < s 2217 0 then ktM (su s 2217 0 (coM s)) (s 2210 0) else s) := ⟨_, rfl⟩
  obtain ⟨n1, n2⟩ := note_ok hE hMs ⟨s50, s2210⟩ hA (by rw [← hac]; exact hP) hR u hU
  have hbody : bodyF e f a P c = wghF e P c := by unfold bodyF; rw [if_neg (by omega)]
  have hoa := hE.ord a (by omega) (by omega)
  have hca := hch a (by omega) (Int.le_refl _)
  have u50 : u 50 = e.ord := by rw [n2 50 (by decide) (by decide) (by decide) (by decide)]; exact s50
  have u52 : u 52 = s 52 := n2 52 (by decide) (by decide) (by decide) (by decide)
  have hFu : FRm t u := by
    refine ⟨?_, fun w hw => (n2 w hw.1.2.1 hw.1.2.2.1 hw.1.2.2.2.1 hw.1.2.2.2.2).trans (hF.2 w hw)⟩
    unfold BNM
    rw [n2 47 (by decide) (by decide) (by decide) (by decide), n2 48 (by decide) (by decide) (by decide) (by decide), n2 49 (by decide) (by decide) (by decide) (by decide)]
    exact hF.1
  have hpu : pM u = pM s := by
    unfold pM
    rw [n2 46 (by decide) (by decide) (by decide) (by decide), n2 47 (by decide) (by decide) (by decide) (by decide), n2 48 (by decide) (by decide) (by decide) (by decide), n2 49 (by decide) (by decide) (by decide) (by decide)]
  have fin : ∀ (o5 o6 o7 : Option MV), G E cX9_tryPart RX9 (some .boolean) 6 48 [some (mP 31), some (mI e.lim), some (mI md), some (mI a), some (mI 0), o5, o6, o7] [] (su (su u 46 (e.ord a) 0) 52 a (s 52 a + 1)) Q := by
    intro o5 o6 o7
    refine k0 _ md o5 o6 o7 (rm_fr _ _ _ hFu) (fun _ => ⟨?_, su_at _ _ _ _⟩) (fun i i1 i2 => ?_) ?_
    · rw [rm_pM, hpu]; exact AG_rm hA _
    · rw [su_same, if_neg (by omega), su_ne (by decide), u52]
    · rw [hbody]
      exact REL_kept n1 (by rw [su_ne (by decide), su_ne (by decide)]) (by rw [su_ne (by decide), su_ne (by decide)]) (by rw [su_ne (by decide), su_ne (by decide)]) (by rw [su_ne (by decide), su_ne (by decide)])
  refine G_iload_n (pc := 48) dX9_tryPart_48 rfl ?_
  refine G_if_le (pc := 49) (tgt := 65) dX9_tryPart_49 rfl (fun h_49 => ?_) (fun h_49 => ?_)
  · exfalso; omega
  · refine G_iload_n (pc := 52) dX9_tryPart_52 rfl ?_
    refine G_aload_n (pc := 53) dX9_tryPart_53 rfl ?_
    refine G_getI (pc := 54) dX9_tryPart_54 fk_X9_175 rfl rfl rfl ?_
    rw [s2210]
    refine G_icmp_ge (pc := 57) (tgt := 65) dX9_tryPart_57 rfl (fun h_57 => ?_) (fun h_57 => ?_)
    · refine G_iload_n (pc := 65) dX9_tryPart_65 rfl ?_
      refine G_aload_n (pc := 66) dX9_tryPart_66 rfl ?_
      refine G_getI (pc := 67) dX9_tryPart_67 fk_X9_175 rfl rfl rfl ?_
      rw [s2210]
      refine G_icmp_ne (pc := 70) (tgt := 251) dX9_tryPart_70 rfl (fun h_70 => ?_) (fun h_70 => ?_)
      · exfalso; omega
      · refine G_aload_n (pc := 73) dX9_tryPart_73 rfl ?_
        refine G_getI (pc := 74) dX9_tryPart_74 fk_X9_175 rfl rfl rfl ?_
        refine G_iconst (pc := 77) dX9_tryPart_77 (by decide) ?_
        rw [s2210]
        refine G_icmp_le (pc := 78) (tgt := 251) dX9_tryPart_78 rfl (fun h_78 => ?_) (fun h_78 => ?_)
        · exfalso; omega
        · refine G_iload (pc := 81) dX9_tryPart_81 rfl ?_
          refine G_if_ne (pc := 83) (tgt := 251) dX9_tryPart_83 rfl (fun h_83 => ?_) (fun h_83 => ?_)
          · try simp only [bq0, ne_eq, Classical.not_not] at h_83
            exact absurd trivial h_83
          · try simp only [bq0, ne_eq, Classical.not_not] at h_83
            refine G_iload_n (pc := 86) dX9_tryPart_86 rfl ?_
            refine G_aload_n (pc := 87) dX9_tryPart_87 rfl ?_
            refine G_getI (pc := 88) dX9_tryPart_88 fk_X9_175 rfl rfl rfl ?_
            rw [s2210]
            refine G_icmp_ne (pc := 91) (tgt := 126) dX9_tryPart_91 rfl (fun h_91 => ?_) (fun h_91 => ?_)
            · exfalso; omega
            · refine G_aload_n (pc := 94) dX9_tryPart_94 rfl ?_
              refine G_cV0 (pc := 95) (c_X9_noteBest _ (by exact hSM) (by rw [s2210]; omega) (by intro i i0 i1; rw [s50]; have := hE.ord i i0 (by omega); omega) (by exact BN_BD hF.1.1 (by decide)) (by exact BN_BD hF.1.2.1 (by decide)) (by exact BN_BD hF.1.2.2 (by decide))) dX9_tryPart_95 ml_X9_191 rfl rfl rfl (by decide) (Nat.le_of_ble_eq_true rfl) ?_
              rw [← hU]
              refine G_iinc (pc := 98) dX9_tryPart_98 rfl rfl (by omega) ?_
              rw [show a + 1 + -1 = a by omega]
              refine G_aload_n (pc := 101) dX9_tryPart_101 rfl ?_
              refine G_getP (pc := 102) dX9_tryPart_102 fk_X9_53 rfl rfl rfl ?_
              refine G_aload_n (pc := 105) dX9_tryPart_105 rfl ?_
              refine G_getP (pc := 106) dX9_tryPart_106 fk_X9_65 rfl rfl rfl ?_
              refine G_iload_n (pc := 109) dX9_tryPart_109 rfl ?_
              refine G_iaload (pc := 110) dX9_tryPart_110 rfl rfl (by omega) ?_
              try simp (disch := decide) only [su_ne, su_at, su_same, sv_ne, sv_at]
              rw [u50]
              refine G_iconst (pc := 111) dX9_tryPart_111 (by decide) ?_
              refine G_bastore (pc := 112) dX9_tryPart_112 rfl rfl (by omega) (by first | exact Or.inl rfl | exact Or.inr rfl | omega) ?_
              refine G_aload_n (pc := 113) dX9_tryPart_113 rfl ?_
              refine G_getP (pc := 114) dX9_tryPart_114 fk_X9_71 rfl rfl rfl ?_
              refine G_iload_n (pc := 117) dX9_tryPart_117 rfl ?_
              refine G_dup2 (pc := 118) dX9_tryPart_118 rfl rfl ?_
              refine G_iaload (pc := 119) dX9_tryPart_119 rfl rfl (by omega) ?_
              try simp (disch := decide) only [su_ne, su_at, su_same, sv_ne, sv_at]
              rw [u52]
              refine G_iconst (pc := 120) dX9_tryPart_120 (by decide) ?_
              refine G_iadd (pc := 121) dX9_tryPart_121 (by omega) ?_
              refine G_iastore (pc := 122) dX9_tryPart_122 rfl rfl (by omega) ?_
              refine G_goto (pc := 123) (tgt := 48) dX9_tryPart_123 rfl ?_
              exact fin _ _ _
    · exfalso; omega
/-- no more chance: the node ends -/
theorem tp_end {E : Ev} {e : SE} {t : Sto} {Q : Option MV → Sto → Prop} (hE : EOK e) (hM : EM e t) (ho : t 50 = e.ord ∧ t 2210 0 = e.cnt) (a : Int) (P : PF) (c' : AC) (s : Sto) (md j : Int) (o5 o6 o7 : Option MV) (ha : 0 ≤ a ∧ a + 1 < e.cnt) (hP : PLC e (a + 1) P) (hA : AG e.n P (pM s)) (hF : FRm t s) (hR : RELm e c' s md 0) (hj : s 52 (a + 1) = j ∧ 0 < j) (hZ : nth (cdE e P (e.ord (a + 1))) 0 (3 * e.k) j < 0) (hch : ∀ i, 1 ≤ i → i ≤ a → 0 ≤ s 52 i ∧ s 52 i ≤ 1000)
    (k0 : ∀ (u : Sto) (md' : Int) (o5 o6 o7 : Option MV), FRm t u → (1 ≤ a → AG e.n (rmF P (e.ord a)) (pM u) ∧ u 52 a = s 52 a + 1) → (∀ i, 1 ≤ i → i < a → u 52 i = s 52 i) → RELm e c' u md' 0 → G E cX9_tryPart RX9 (some .boolean) 6 48 [some (mP 31), some (mI e.lim), some (mI md'), some (mI a), some (mI 0), o5, o6, o7] [] u Q) : G E cX9_tryPart RX9 (some .boolean) 6 48 [some (mP 31), some (mI e.lim), some (mI md), some (mI (a + 1)), some (mI 0), o5, o6, o7] [] s Q := by
  have hn24 := hE.sok.1
  have hcn := hE.cnt
  obtain ⟨hMs, s50, s2210⟩ := FRm_E hF hM ho
  have hSM := EM_SM hE.sok hMs
  have hnb := PLC_nb hE (by omega) ha.2 hP
  have hor := hE.ord (a + 1) (by omega) ha.2
  have hoa := hE.ord a (by omega) (by omega)
  have hnt : nth (cdM s (e.ord (a + 1))) 0 (3 * s 2188 0) j = nth (cdE e P (e.ord (a + 1))) 0 (3 * e.k) j := by
    rw [EM_nth hMs]; exact (AG_sJ hE.sok hA j hnb).1.symm
  generalize hZ9 : nth (cdM s (e.ord (a + 1))) 0 (3 * s 2188 0) j = Z at hnt
  rw [← hnt] at hZ
  have hcT : chT s (e.ord (a + 1)) Z = s := by unfold chT; rw [if_neg (by omega)]
  have fin : 1 ≤ a → ∀ (o5 o6 o7 : Option MV), G E cX9_tryPart RX9 (some .boolean) 6 48 [some (mP 31), some (mI e.lim), some (mI md), some (mI a), some (mI 0), o5, o6, o7] [] (su (su s 46 (e.ord a) 0) 52 a (s 52 a + 1)) Q := by
    intro ha1 o5 o6 o7
    refine k0 _ md o5 o6 o7 (rm_fr _ _ _ hF) (fun _ => ⟨?_, su_at _ _ _ _⟩) (fun i i1 i2 => ?_) ?_
    · rw [rm_pM]; exact AG_rm hA _
    · rw [su_same, if_neg (by omega), su_ne (by decide)]
    · exact REL_kept hR (by rw [su_ne (by decide), su_ne (by decide)]) (by rw [su_ne (by decide), su_ne (by decide)]) (by rw [su_ne (by decide), su_ne (by decide)]) (by rw [su_ne (by decide), su_ne (by decide)])
  have fin0 : a = 0 → ∀ (o5 o6 o7 : Option MV), G E cX9_tryPart RX9 (some .boolean) 6 48 [some (mP 31), some (mI e.lim), some (mI md), some (mI a), some (mI 0), o5, o6, o7] [] s Q := by
    intro ha1 o5 o6 o7
    exact k0 _ md o5 o6 o7 hF (fun z => by omega) (fun i i1 i2 => rfl) hR
  have hca := hch a
  generalize hr : e.ord (a + 1) = r at *
  refine G_iload_n (pc := 48) dX9_tryPart_48 rfl ?_
  refine G_if_le (pc := 49) (tgt := 65) dX9_tryPart_49 rfl (fun h_49 => ?_) (fun h_49 => ?_)
  · exfalso; omega
  · refine G_iload_n (pc := 52) dX9_tryPart_52 rfl ?_
    refine G_aload_n (pc := 53) dX9_tryPart_53 rfl ?_
    refine G_getI (pc := 54) dX9_tryPart_54 fk_X9_175 rfl rfl rfl ?_
    rw [s2210]
    refine G_icmp_ge (pc := 57) (tgt := 65) dX9_tryPart_57 rfl (fun h_57 => ?_) (fun h_57 => ?_)
    · exfalso; omega
    · refine G_iload (pc := 60) dX9_tryPart_60 rfl ?_
      refine G_if_eq (pc := 62) (tgt := 86) dX9_tryPart_62 rfl (fun h_62 => ?_) (fun h_62 => ?_)
      · try simp only [bq0, ne_eq, Classical.not_not] at h_62
        refine G_iload_n (pc := 86) dX9_tryPart_86 rfl ?_
        refine G_aload_n (pc := 87) dX9_tryPart_87 rfl ?_
        refine G_getI (pc := 88) dX9_tryPart_88 fk_X9_175 rfl rfl rfl ?_
        rw [s2210]
        refine G_icmp_ne (pc := 91) (tgt := 126) dX9_tryPart_91 rfl (fun h_91 => ?_) (fun h_91 => ?_)
        · refine G_aload_n (pc := 126) dX9_tryPart_126 rfl ?_
          refine G_getP (pc := 127) dX9_tryPart_127 fk_X9_65 rfl rfl rfl ?_
          refine G_iload_n (pc := 130) dX9_tryPart_130 rfl ?_
          refine G_iaload (pc := 131) dX9_tryPart_131 rfl rfl (by omega) ?_
          rw [s50, hr]
          refine G_istore (pc := 132) dX9_tryPart_132 (Nat.le_of_ble_eq_true rfl) rfl ?_
          refine G_aload_n (pc := 134) dX9_tryPart_134 rfl ?_
          refine G_iload (pc := 135) dX9_tryPart_135 rfl ?_
          refine G_aload_n (pc := 137) dX9_tryPart_137 rfl ?_
          refine G_getP (pc := 138) dX9_tryPart_138 fk_X9_71 rfl rfl rfl ?_
          refine G_iload_n (pc := 141) dX9_tryPart_141 rfl ?_
          refine G_iaload (pc := 142) dX9_tryPart_142 rfl rfl (by omega) ?_
          rw [hj.1]
          refine G_cV1 (pc := 143) (c_X9_chance _ _ _ (by exact hSM) (by rw [hMs.1]; exact hor) (by omega) (by exact BN_BD hF.1.1 (by decide)) (by exact BN_BD hF.1.2.1 (by decide)) (by exact BN_BD hF.1.2.2 (by decide))) dX9_tryPart_143 ml_X9_163 rfl rfl rfl (by decide) (Nat.le_of_ble_eq_true rfl) ?_
          rw [hZ9, hcT]
          refine G_if_ne (pc := 146) (tgt := 158) dX9_tryPart_146 rfl (fun h_146 => ?_) (fun h_146 => ?_)
          · try simp only [bq0, ne_eq, Classical.not_not] at h_146
            exfalso; omega
          · try simp only [bq0, ne_eq, Classical.not_not] at h_146
            refine G_aload_n (pc := 149) dX9_tryPart_149 rfl ?_
            refine G_getP (pc := 150) dX9_tryPart_150 fk_X9_71 rfl rfl rfl ?_
            refine G_iload_n (pc := 153) dX9_tryPart_153 rfl ?_
            refine G_iaload (pc := 154) dX9_tryPart_154 rfl rfl (by omega) ?_
            try simp (disch := decide) only [su_ne, su_at, su_same, sv_ne, sv_at]
            rw [hj.1]
            refine G_if_ne (pc := 155) (tgt := 162) dX9_tryPart_155 rfl (fun h_155 => ?_) (fun h_155 => ?_)
            · try simp only [bq0, ne_eq, Classical.not_not] at h_155
              refine G_iconst (pc := 162) dX9_tryPart_162 (by decide) ?_
              refine G_istore (pc := 163) dX9_tryPart_163 (Nat.le_of_ble_eq_true rfl) rfl ?_
              refine G_iload (pc := 165) dX9_tryPart_165 rfl ?_
              refine G_if_ne (pc := 167) (tgt := 202) dX9_tryPart_167 rfl (fun h_167 => ?_) (fun h_167 => ?_)
              · try simp only [bq0, ne_eq, Classical.not_not] at h_167
                exact absurd trivial h_167
              · try simp only [bq0, ne_eq, Classical.not_not] at h_167
                refine G_iinc (pc := 170) dX9_tryPart_170 rfl rfl (by omega) ?_
                rw [show a + 1 + -1 = a by omega]
                refine G_iload_n (pc := 173) dX9_tryPart_173 rfl ?_
                refine G_if_le (pc := 174) (tgt := 248) dX9_tryPart_174 rfl (fun h_174 => ?_) (fun h_174 => ?_)
                · have ha0 : a = 0 := by omega
                  refine G_goto (pc := 248) (tgt := 48) dX9_tryPart_248 rfl ?_
                  first | exact fin0 ha0 _ _ _ | exact fin (by omega) _ _ _
                · refine G_aload_n (pc := 177) dX9_tryPart_177 rfl ?_
                  refine G_getP (pc := 178) dX9_tryPart_178 fk_X9_53 rfl rfl rfl ?_
                  refine G_aload_n (pc := 181) dX9_tryPart_181 rfl ?_
                  refine G_getP (pc := 182) dX9_tryPart_182 fk_X9_65 rfl rfl rfl ?_
                  refine G_iload_n (pc := 185) dX9_tryPart_185 rfl ?_
                  refine G_iaload (pc := 186) dX9_tryPart_186 rfl rfl (by omega) ?_
                  try simp (disch := decide) only [su_ne, su_at, su_same, sv_ne, sv_at]
                  rw [s50]
                  refine G_iconst (pc := 187) dX9_tryPart_187 (by decide) ?_
                  refine G_bastore (pc := 188) dX9_tryPart_188 rfl rfl (by omega) (by first | exact Or.inl rfl | exact Or.inr rfl | omega) ?_
                  refine G_aload_n (pc := 189) dX9_tryPart_189 rfl ?_
                  refine G_getP (pc := 190) dX9_tryPart_190 fk_X9_71 rfl rfl rfl ?_
                  refine G_iload_n (pc := 193) dX9_tryPart_193 rfl ?_
                  refine G_dup2 (pc := 194) dX9_tryPart_194 rfl rfl ?_
                  refine G_iaload (pc := 195) dX9_tryPart_195 rfl rfl (by omega) ?_
                  try simp (disch := decide) only [su_ne, su_at, su_same, sv_ne, sv_at]
                  refine G_iconst (pc := 196) dX9_tryPart_196 (by decide) ?_
                  refine G_iadd (pc := 197) dX9_tryPart_197 (by have := hca (by omega) (Int.le_refl _); omega) ?_
                  refine G_iastore (pc := 198) dX9_tryPart_198 rfl rfl (by omega) ?_
                  refine G_goto (pc := 199) (tgt := 248) dX9_tryPart_199 rfl ?_
                  refine G_goto (pc := 248) (tgt := 48) dX9_tryPart_248 rfl ?_
                  first | exact fin0 ha0 _ _ _ | exact fin (by omega) _ _ _
            · try simp only [bq0, ne_eq, Classical.not_not] at h_155
              exfalso; omega
        · exfalso; omega
      · try simp only [bq0, ne_eq, Classical.not_not] at h_62
        exact absurd trivial h_62
