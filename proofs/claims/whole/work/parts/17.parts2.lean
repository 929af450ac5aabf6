/-! PARTS: the reference -/
noncomputable def fpM (t : Sto) : Sto := su (sv (sv t 44 (glue (t 2184 0) (leastS (t 2184 0) (t 2188 0) (t 35) (t 37)) (t 44))) 45 (glue (t 2184 0) (parS (t 2184 0) (t 2188 0) (t 35) (t 37)) (t 45))) 2201 0 (cntS (t 2184 0) (t 2188 0) (t 35) (t 37))
theorem su_su (t : Sto) (v : Nat) (i x y : Int) : su (su t v i x) v i y = su t v i y := by
  funext w j
  unfold su
  split <;> rfl
theorem su_comm_sv {t : Sto} {v w : Nat} {i x : Int} {f : Int → Int} (h : v ≠ w) : sv (su t v i x) w f = su (sv t w f) v i x := by
  funext z j
  unfold sv su
  by_cases h1 : z = w
  · subst h1
    simp [Ne.symm h]
  · simp [h1]
theorem su_id (t : Sto) (v : Nat) (i : Int) : su t v i (t v i) = t := by
  funext w j
  unfold su
  split
  · next h => rw [h.1, h.2]
  · rfl
theorem c_X9_findParts (t : Sto) (hS : SM t) : CT yX9_findParts cX9_findParts 4 none 0 [mP 31] t (fun a t' => a = none ∧ t' = fpM t) := by
  refine CT_of rfl rfl (Nat.le_of_ble_eq_true rfl) (fun E ht has => ?_)
  obtain ⟨hb, hS⟩ := hS
  obtain ⟨A, hA⟩ : ∃ A, A = leastS (t 2184 0) (t 2188 0) (t 35) (t 37) := ⟨_, rfl⟩
  have hL : LbP (t 2184 0) A := by rw [hA]; exact LP_least (by omega) (by omega) (fun l h0 h1 => ⟨(hS l h0 h1).1, (hS l h0 h1).2.1⟩)
  obtain ⟨t1, ht1⟩ : ∃ t1, t1 = sv t 44 (glue (t 2184 0) A (t 44)) := ⟨_, rfl⟩
  have loop3 : ∀ r, r ≤ t 2184 0 → ∀ o2 o3 : Option MV, 0 ≤ r → G E cX9_findParts RX9 none 0 137 [some (mP 31), some (mI r), o2, o3] [] (su (sv t1 45 (glue r (pcS A r).2 (t 45))) 2201 0 (pcS A r).1) (fun a t' => a = none ∧ t' = fpM t) := by
    subst ht1
    refine up_ind (fun r hr ih o2 o3 h0 => ?_)
    have hpb := pcS_bound A (t 2184 0) r h0
    have hps := pcS_succ A h0
    refine G_iload_n (pc := 137) dX9_findParts_137 rfl ?_
    refine G_aload_n (pc := 138) dX9_findParts_138 rfl ?_
    refine G_getI (pc := 139) dX9_findParts_139 fk_X9_86 rfl rfl rfl ?_
    try simp (disch := decide) only [su_ne, su_at, su_same, sv_ne, sv_at]
    refine G_icmp_ge (pc := 142) (tgt := 201) dX9_findParts_142 rfl (fun h_142 => ?_) (fun h_142 => ?_)
    · have hrn : r = t 2184 0 := by omega
      subst hrn
      exact G_return (pc := 201) dX9_findParts_201 ⟨rfl, by unfold fpM cntS parS; rw [hA]⟩
    · have hAr := hL r h0 (by omega)
      have er : glue (t 2184 0) A (t 44) r = A r := glue_at (by omega)
      refine G_aload_n (pc := 145) dX9_findParts_145 rfl ?_
      refine G_getP (pc := 146) dX9_findParts_146 fk_X9_47 rfl rfl rfl ?_
      refine G_iload_n (pc := 149) dX9_findParts_149 rfl ?_
      refine G_iaload (pc := 150) dX9_findParts_150 rfl rfl (by omega) ?_
      try simp (disch := decide) only [su_ne, su_at, su_same, sv_ne, sv_at]
      rw [er]
      refine G_iload_n (pc := 151) dX9_findParts_151 rfl ?_
      refine G_icmp_ne (pc := 152) (tgt := 178) dX9_findParts_152 rfl (fun h_152 => ?_) (fun h_152 => ?_)
      · unfold pcStep at hps; rw [if_neg h_152] at hps
        have er2 : glue r (pcS A r).2 (t 45) (A r) = (pcS A r).2 (A r) := by rw [glue_at (by omega)]
        refine G_aload_n (pc := 178) dX9_findParts_178 rfl ?_
        refine G_getP (pc := 179) dX9_findParts_179 fk_X9_50 rfl rfl rfl ?_
        refine G_iload_n (pc := 182) dX9_findParts_182 rfl ?_
        refine G_aload_n (pc := 183) dX9_findParts_183 rfl ?_
        refine G_getP (pc := 184) dX9_findParts_184 fk_X9_50 rfl rfl rfl ?_
        refine G_aload_n (pc := 187) dX9_findParts_187 rfl ?_
        refine G_getP (pc := 188) dX9_findParts_188 fk_X9_47 rfl rfl rfl ?_
        refine G_iload_n (pc := 191) dX9_findParts_191 rfl ?_
        refine G_iaload (pc := 192) dX9_findParts_192 rfl rfl (by omega) ?_
        try simp (disch := decide) only [su_ne, su_at, su_same, sv_ne, sv_at]
        rw [er]
        refine G_iaload (pc := 193) dX9_findParts_193 rfl rfl (by omega) ?_
        try simp (disch := decide) only [su_ne, su_at, su_same, sv_ne, sv_at]
        rw [er2]
        refine G_iastore (pc := 194) dX9_findParts_194 rfl rfl (by omega) ?_
        refine G_iinc (pc := 195) dX9_findParts_195 rfl rfl (by omega) ?_
        refine G_goto (pc := 198) (tgt := 137) dX9_findParts_198 rfl ?_
        have h := ih (by omega) o2 o3 (by omega)
        rw [hps] at h
        rw [su_sv _ 45]
        simp (disch := decide) only [su_comm_sv, su_su, su_ne, sv_sv, sv_at]
        rw [glue_step h0]
        exact h
      · unfold pcStep at hps; rw [if_pos h_152] at hps
        refine G_aload_n (pc := 155) dX9_findParts_155 rfl ?_
        refine G_getP (pc := 156) dX9_findParts_156 fk_X9_50 rfl rfl rfl ?_
        refine G_iload_n (pc := 159) dX9_findParts_159 rfl ?_
        refine G_aload_n (pc := 160) dX9_findParts_160 rfl ?_
        refine G_getI (pc := 161) dX9_findParts_161 fk_X9_126 rfl rfl rfl ?_
        try simp (disch := decide) only [su_ne, su_at, su_same, sv_ne, sv_at]
        refine G_iastore (pc := 164) dX9_findParts_164 rfl rfl (by omega) ?_
        refine G_aload_n (pc := 165) dX9_findParts_165 rfl ?_
        refine G_dup (pc := 166) dX9_findParts_166 rfl ?_
        refine G_getI (pc := 167) dX9_findParts_167 fk_X9_126 rfl rfl rfl ?_
        try simp (disch := decide) only [su_ne, su_at, su_same, sv_ne, sv_at]
        refine G_iconst (pc := 170) dX9_findParts_170 (by decide) ?_
        refine G_iadd (pc := 171) dX9_findParts_171 (by omega) ?_
        refine G_put (pc := 172) dX9_findParts_172 fk_X9_126 fw_X9_17 rfl rfl rfl (fun h => absurd h (by decide)) ?_
        refine G_goto (pc := 175) (tgt := 195) dX9_findParts_175 rfl ?_
        refine G_iinc (pc := 195) dX9_findParts_195 rfl rfl (by omega) ?_
        refine G_goto (pc := 198) (tgt := 137) dX9_findParts_198 rfl ?_
        have h := ih (by omega) o2 o3 (by omega)
        rw [hps] at h
        rw [su_sv _ 45]
        simp (disch := decide) only [su_comm_sv, su_su, su_ne, sv_sv, sv_at]
        rw [glue_step h0]
        exact h
  have loop2i : ∀ i, 0 ≤ i → i < t 2184 0 → ∀ u0 : Int → Int, (∀ o2 o3 : Option MV, G E cX9_findParts RX9 none 0 124 [some (mP 31), some (mI i), o2, o3] [] (sv t 44 (glue (t 2184 0) (passF (t 2188 0) (t 35) (t 37) u0) (t 44))) (fun a t' => a = none ∧ t' = fpM t)) → ∀ l, l ≤ t 2188 0 → ∀ (u : Int → Int) (o3 : Option MV), 0 ≤ l → itr (lkF (t 35) (t 37)) l (t 2188 0) u = passF (t 2188 0) (t 35) (t 37) u0 → G E cX9_findParts RX9 none 0 35 [some (mP 31), some (mI i), some (mI l), o3] [] (sv t 44 (glue (t 2184 0) u (t 44))) (fun a t' => a = none ∧ t' = fpM t) := by
    intro i hi0 hin u0 hend
    refine up_ind (fun l hl ih u o3 h0 hX => ?_)
    refine G_iload_n (pc := 35) dX9_findParts_35 rfl ?_
    refine G_aload_n (pc := 36) dX9_findParts_36 rfl ?_
    refine G_getI (pc := 37) dX9_findParts_37 fk_X9_94 rfl rfl rfl ?_
    try simp (disch := decide) only [su_ne, su_at, su_same, sv_ne, sv_at]
    refine G_icmp_ge (pc := 40) (tgt := 124) dX9_findParts_40 rfl (fun h_40 => ?_) (fun h_40 => ?_)
    · rw [itr_ge (by omega)] at hX
      subst hX
      exact hend _ _
    · obtain ⟨hfr, hto, -, -⟩ := hS l h0 (by omega)
      refine G_join (pc := 43) (P := fun v => v = minI (u (t 35 l)) (u (t 37 l))) 93 (fun v_93 hv_93 => ?_) (fun j_93 => ?_)
      · refine G_istore_n (pc := 93) dX9_findParts_93 (Nat.le_of_ble_eq_true rfl) rfl ?_
        refine G_aload_n (pc := 94) dX9_findParts_94 rfl ?_
        refine G_getP (pc := 95) dX9_findParts_95 fk_X9_47 rfl rfl rfl ?_
        refine G_aload_n (pc := 98) dX9_findParts_98 rfl ?_
        refine G_getP (pc := 99) dX9_findParts_99 fk_X9_19 rfl rfl rfl ?_
        refine G_iload_n (pc := 102) dX9_findParts_102 rfl ?_
        refine G_iaload (pc := 103) dX9_findParts_103 rfl rfl (by omega) ?_
        try simp (disch := decide) only [su_ne, su_at, su_same, sv_ne, sv_at]
        refine G_iload_n (pc := 104) dX9_findParts_104 rfl ?_
        refine G_iastore (pc := 105) dX9_findParts_105 rfl rfl (by omega) ?_
        refine G_aload_n (pc := 106) dX9_findParts_106 rfl ?_
        refine G_getP (pc := 107) dX9_findParts_107 fk_X9_47 rfl rfl rfl ?_
        refine G_aload_n (pc := 110) dX9_findParts_110 rfl ?_
        refine G_getP (pc := 111) dX9_findParts_111 fk_X9_25 rfl rfl rfl ?_
        refine G_iload_n (pc := 114) dX9_findParts_114 rfl ?_
        refine G_iaload (pc := 115) dX9_findParts_115 rfl rfl (by omega) ?_
        try simp (disch := decide) only [su_ne, su_at, su_same, sv_ne, sv_at]
        refine G_iload_n (pc := 116) dX9_findParts_116 rfl ?_
        refine G_iastore (pc := 117) dX9_findParts_117 rfl rfl (by omega) ?_
        refine G_iinc (pc := 118) dX9_findParts_118 rfl rfl (by omega) ?_
        refine G_goto (pc := 121) (tgt := 35) dX9_findParts_121 rfl ?_
        have e : su (su (sv t 44 (glue (t 2184 0) u (t 44))) 44 (t 35 l) v_93) 44 (t 37 l) v_93 = sv t 44 (glue (t 2184 0) (lkF (t 35) (t 37) l u) (t 44)) := by
          rw [su_sv, su_sv, sv_at, sv_sv, sv_at, sv_sv, glue_fu hfr, glue_fu hto, hv_93]
          rfl
        rw [e]
        refine ih (by omega) _ _ (by omega) ?_
        rw [← hX, itr_lt (l := l) (by omega)]
      · obtain ⟨hfr, hto, -, -⟩ := hS l h0 (by omega)
        refine G_aload_n (pc := 43) dX9_findParts_43 rfl ?_
        refine G_getP (pc := 44) dX9_findParts_44 fk_X9_47 rfl rfl rfl ?_
        refine G_aload_n (pc := 47) dX9_findParts_47 rfl ?_
        refine G_getP (pc := 48) dX9_findParts_48 fk_X9_19 rfl rfl rfl ?_
        refine G_iload_n (pc := 51) dX9_findParts_51 rfl ?_
        refine G_iaload (pc := 52) dX9_findParts_52 rfl rfl (by omega) ?_
        try simp (disch := decide) only [su_ne, su_at, su_same, sv_ne, sv_at]
        refine G_iaload (pc := 53) dX9_findParts_53 rfl rfl (by omega) ?_
        try simp (disch := decide) only [su_ne, su_at, su_same, sv_ne, sv_at]
        refine G_aload_n (pc := 54) dX9_findParts_54 rfl ?_
        refine G_getP (pc := 55) dX9_findParts_55 fk_X9_47 rfl rfl rfl ?_
        refine G_aload_n (pc := 58) dX9_findParts_58 rfl ?_
        refine G_getP (pc := 59) dX9_findParts_59 fk_X9_25 rfl rfl rfl ?_
        refine G_iload_n (pc := 62) dX9_findParts_62 rfl ?_
        refine G_iaload (pc := 63) dX9_findParts_63 rfl rfl (by omega) ?_
        try simp (disch := decide) only [su_ne, su_at, su_same, sv_ne, sv_at]
        refine G_iaload (pc := 64) dX9_findParts_64 rfl rfl (by omega) ?_
        try simp (disch := decide) only [su_ne, su_at, su_same, sv_ne, sv_at]
        rw [glue_at hfr, glue_at hto]
        refine G_icmp_ge (pc := 65) (tgt := 82) dX9_findParts_65 rfl (fun h_65 => ?_) (fun h_65 => ?_)
        · refine G_aload_n (pc := 82) dX9_findParts_82 rfl ?_
          refine G_getP (pc := 83) dX9_findParts_83 fk_X9_47 rfl rfl rfl ?_
          refine G_aload_n (pc := 86) dX9_findParts_86 rfl ?_
          refine G_getP (pc := 87) dX9_findParts_87 fk_X9_25 rfl rfl rfl ?_
          refine G_iload_n (pc := 90) dX9_findParts_90 rfl ?_
          refine G_iaload (pc := 91) dX9_findParts_91 rfl rfl (by omega) ?_
          try simp (disch := decide) only [su_ne, su_at, su_same, sv_ne, sv_at]
          refine G_iaload (pc := 92) dX9_findParts_92 rfl rfl (by omega) ?_
          try simp (disch := decide) only [su_ne, su_at, su_same, sv_ne, sv_at]
          exact j_93 _ (by (first | rw [glue_at hto] | skip); unfold minI; split <;> omega)
        · refine G_aload_n (pc := 68) dX9_findParts_68 rfl ?_
          refine G_getP (pc := 69) dX9_findParts_69 fk_X9_47 rfl rfl rfl ?_
          refine G_aload_n (pc := 72) dX9_findParts_72 rfl ?_
          refine G_getP (pc := 73) dX9_findParts_73 fk_X9_19 rfl rfl rfl ?_
          refine G_iload_n (pc := 76) dX9_findParts_76 rfl ?_
          refine G_iaload (pc := 77) dX9_findParts_77 rfl rfl (by omega) ?_
          try simp (disch := decide) only [su_ne, su_at, su_same, sv_ne, sv_at]
          refine G_iaload (pc := 78) dX9_findParts_78 rfl rfl (by omega) ?_
          try simp (disch := decide) only [su_ne, su_at, su_same, sv_ne, sv_at]
          rw [glue_at hfr]
          refine G_goto (pc := 79) (tgt := 93) dX9_findParts_79 rfl ?_
          exact j_93 _ (by (first | rw [glue_at hto] | skip); unfold minI; split <;> omega)
  have loop2 : ∀ i, i ≤ t 2184 0 → ∀ (u : Int → Int) (o2 o3 : Option MV), 0 ≤ i → itr (fun _ => passF (t 2188 0) (t 35) (t 37)) i (t 2184 0) u = A → G E cX9_findParts RX9 none 0 25 [some (mP 31), some (mI i), o2, o3] [] (sv t 44 (glue (t 2184 0) u (t 44))) (fun a t' => a = none ∧ t' = fpM t) := by
    refine up_ind (fun i hi ih u o2 o3 h0 hX => ?_)
    refine G_iload_n (pc := 25) dX9_findParts_25 rfl ?_
    refine G_aload_n (pc := 26) dX9_findParts_26 rfl ?_
    refine G_getI (pc := 27) dX9_findParts_27 fk_X9_86 rfl rfl rfl ?_
    try simp (disch := decide) only [su_ne, su_at, su_same, sv_ne, sv_at]
    refine G_icmp_ge (pc := 30) (tgt := 130) dX9_findParts_30 rfl (fun h_30 => ?_) (fun h_30 => ?_)
    · refine G_aload_n (pc := 130) dX9_findParts_130 rfl ?_
      refine G_iconst (pc := 131) dX9_findParts_131 (by decide) ?_
      refine G_put (pc := 132) dX9_findParts_132 fk_X9_126 fw_X9_17 rfl rfl rfl (fun h => absurd h (by decide)) ?_
      refine G_iconst (pc := 135) dX9_findParts_135 (by decide) ?_
      refine G_istore_n (pc := 136) dX9_findParts_136 (Nat.le_of_ble_eq_true rfl) rfl ?_
      rw [itr_ge (by omega)] at hX
      subst hX
      have h := loop3 0 (by omega) o2 o3 (by omega)
      have e0 : pcS u 0 = (0, fun _ => 0) := by unfold pcS; rw [itr_ge (by omega)]
      have e1 : sv t1 45 (t 45) = t1 := by
        have e2 : t 45 = t1 45 := by rw [ht1, sv_ne (by decide)]
        rw [e2, sv_id]
      rw [e0, glue_0, e1, ht1] at h
      exact h
    · refine G_iconst (pc := 33) dX9_findParts_33 (by decide) ?_
      refine G_istore_n (pc := 34) dX9_findParts_34 (Nat.le_of_ble_eq_true rfl) rfl ?_
      refine loop2i i h0 (by omega) u (fun p2 p3 => ?_) 0 (by omega) u _ (by omega) rfl
      refine G_iinc (pc := 124) dX9_findParts_124 rfl rfl (by omega) ?_
      refine G_goto (pc := 127) (tgt := 25) dX9_findParts_127 rfl ?_
      refine ih (by omega) _ _ _ (by omega) ?_
      rw [← hX, itr_lt (l := i) (by omega)]
  have loop1 : ∀ r, r ≤ t 2184 0 → ∀ o2 o3 : Option MV, 0 ≤ r → G E cX9_findParts RX9 none 0 2 [some (mP 31), some (mI r), o2, o3] [] (sv t 44 (glue r (fun j => j) (t 44))) (fun a t' => a = none ∧ t' = fpM t) := by
    refine up_ind (fun r hr ih o2 o3 h0 => ?_)
    refine G_iload_n (pc := 2) dX9_findParts_2 rfl ?_
    refine G_aload_n (pc := 3) dX9_findParts_3 rfl ?_
    refine G_getI (pc := 4) dX9_findParts_4 fk_X9_86 rfl rfl rfl ?_
    try simp (disch := decide) only [su_ne, su_at, su_same, sv_ne, sv_at]
    refine G_icmp_ge (pc := 7) (tgt := 23) dX9_findParts_7 rfl (fun h_7 => ?_) (fun h_7 => ?_)
    · refine G_iconst (pc := 23) dX9_findParts_23 (by decide) ?_
      refine G_istore_n (pc := 24) dX9_findParts_24 (Nat.le_of_ble_eq_true rfl) rfl ?_
      have hrn : r = t 2184 0 := by omega
      subst hrn
      exact loop2 0 (by omega) _ _ _ (by omega) hA.symm
    · refine G_aload_n (pc := 10) dX9_findParts_10 rfl ?_
      refine G_getP (pc := 11) dX9_findParts_11 fk_X9_47 rfl rfl rfl ?_
      refine G_iload_n (pc := 14) dX9_findParts_14 rfl ?_
      refine G_iload_n (pc := 15) dX9_findParts_15 rfl ?_
      refine G_iastore (pc := 16) dX9_findParts_16 rfl rfl (by omega) ?_
      refine G_iinc (pc := 17) dX9_findParts_17 rfl rfl (by omega) ?_
      refine G_goto (pc := 20) (tgt := 2) dX9_findParts_20 rfl ?_
      rw [su_sv, sv_at, sv_sv, glue_succ h0]
      exact ih (by omega) _ _ (by omega)
  refine G_iconst (pc := 0) dX9_findParts_0 (by decide) ?_
  refine G_istore_n (pc := 1) dX9_findParts_1 (Nat.le_of_ble_eq_true rfl) rfl ?_
  have h := loop1 0 (by omega) none none (by omega)
  rw [glue_0, sv_id] at h
  exact h
theorem fpM_45 (t : Sto) : fpM t 45 = glue (t 2184 0) (parS (t 2184 0) (t 2188 0) (t 35) (t 37)) (t 45) := by
  unfold fpM
  simp (disch := decide) only [su_ne, sv_at]
theorem fpM_2201 (t : Sto) : fpM t 2201 0 = cntS (t 2184 0) (t 2188 0) (t 35) (t 37) := by
  unfold fpM
  rw [su_at]
theorem fpM_ne (t : Sto) {w : Nat} (h : w ≠ 44 ∧ w ≠ 45 ∧ w ≠ 2201) : fpM t w = t w := by
  unfold fpM
  rw [su_ne h.2.2, sv_ne h.2.1, sv_ne h.1]
theorem c_X9_part (t : Sto) (r : Int) (hS : SM t) : CT yX9_part cX9_part 2 (some .int) 2 [mP 31, mI r] t (fun a t' => ∃ x, a = some (mI x) ∧ (x = partR (t 2184 0) (t 2188 0) (t 35) (t 37) r ∧ (t' = t ∨ t' = fpM t))) := by
  refine CT_of rfl rfl (Nat.le_of_ble_eq_true rfl) (fun E ht has => ?_)
  have hb := hS.1
  refine G_aload_n (pc := 0) dX9_part_0 rfl ?_
  refine G_iload_n (pc := 1) dX9_part_1 rfl ?_
  refine G_cV1 (pc := 2) (c_X9_isRoom _ _ (by omega)) dX9_part_2 ml_X9_101 rfl rfl rfl (by decide) (Nat.le_of_ble_eq_true rfl) ?_
  refine G_if_ne (pc := 5) (tgt := 10) dX9_part_5 rfl (fun h_5 => ?_) (fun h_5 => ?_)
  · try simp only [bq0, ne_eq, Classical.not_not] at h_5
    refine G_aload_n (pc := 10) dX9_part_10 rfl ?_
    refine G_cV0 (pc := 11) (c_X9_findParts _ (by exact hS)) dX9_part_11 ml_X9_129 rfl rfl rfl (by decide) (Nat.le_of_ble_eq_true rfl) ?_
    refine G_aload_n (pc := 14) dX9_part_14 rfl ?_
    refine G_getP (pc := 15) dX9_part_15 fk_X9_50 rfl rfl rfl ?_
    refine G_iload_n (pc := 18) dX9_part_18 rfl ?_
    refine G_iaload (pc := 19) dX9_part_19 rfl rfl (by omega) ?_
    try simp (disch := decide) only [su_ne, su_at, su_same, sv_ne, sv_at]
    rw [fpM_45, glue_at h_5]
    exact G_ireturn (pc := 20) dX9_part_20 ⟨_, rfl, by unfold partR; rw [if_pos h_5], Or.inr rfl⟩
  · try simp only [bq0, ne_eq, Classical.not_not] at h_5
    refine G_iconst (pc := 8) dX9_part_8 (by decide) ?_
    exact G_ireturn (pc := 9) dX9_part_9 ⟨_, rfl, by unfold partR; rw [if_neg h_5], Or.inl rfl⟩
