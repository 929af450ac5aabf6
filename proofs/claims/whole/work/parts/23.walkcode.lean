/-! WALKING: the class -/
theorem beyS_r {n k : Int} {fr di to bo : Int → Int} (hS : SOK n k fr di to bo) (r w : Int) : beyS k fr di to bo r w = -2 ∨ (0 ≤ beyS k fr di to bo r w ∧ beyS k fr di to bo r w < n) := by
  unfold beyS endS
  rcases outS_r k fr di to bo r w with h | h
  · left; rw [if_pos (by omega)]
  · right
    rw [if_neg (by omega)]
    have := hS.2 _ h.1 h.2
    split <;> omega
theorem sh_glue {n : Int} {s f : Int → Int} {a b : Int} (ha : 0 ≤ a ∧ a < n) (hb : 0 ≤ b ∧ b < n) : shF a b (glue n s f) = glue n (shF a b s) f := by
  unfold shF
  rw [glue_at ha, glue_at hb]
  split
  · exact glue_fu ha
  · rfl
theorem ior01 {a b : Int} (ha : a = 0 ∨ a = 1) (hb : b = 0 ∨ b = 1) : (Int32.ofInt a ||| Int32.ofInt b).toInt = if a = 0 ∧ b = 0 then 0 else 1 := by
  rcases ha with rfl | rfl <;> rcases hb with rfl | rfl <;> decide
theorem c_X7_shorten (t : Sto) (a b : Int) (ha : 0 ≤ a ∧ a < 24) (hb : 0 ≤ b ∧ b < 24) (hr : 0 ≤ t 30 b ∧ t 30 b ≤ 2000) : CT yX7_shorten cX7_shorten 3 (some .boolean) 0 [mP 8, mI a, mI b] t (fun r t' => r = some (mI (if t 30 b + 1 < t 30 a then 1 else 0)) ∧ t' = sv t 30 (shF a b (t 30))) := by
  refine CT_of rfl rfl (Nat.le_of_ble_eq_true rfl) (fun E ht has => ?_)
  refine G_aload_n (pc := 0) dX7_shorten_0 rfl ?_
  refine G_getP (pc := 1) dX7_shorten_1 fk_X7_9 rfl rfl rfl ?_
  refine G_iload_n (pc := 4) dX7_shorten_4 rfl ?_
  refine G_iaload (pc := 5) dX7_shorten_5 rfl rfl (by omega) ?_
  refine G_iconst (pc := 6) dX7_shorten_6 (by decide) ?_
  refine G_iadd (pc := 7) dX7_shorten_7 (by omega) ?_
  refine G_aload_n (pc := 8) dX7_shorten_8 rfl ?_
  refine G_getP (pc := 9) dX7_shorten_9 fk_X7_9 rfl rfl rfl ?_
  refine G_iload_n (pc := 12) dX7_shorten_12 rfl ?_
  refine G_iaload (pc := 13) dX7_shorten_13 rfl rfl (by omega) ?_
  refine G_icmp_lt (pc := 14) (tgt := 19) dX7_shorten_14 rfl (fun h_14 => ?_) (fun h_14 => ?_)
  · refine G_aload_n (pc := 19) dX7_shorten_19 rfl ?_
    refine G_getP (pc := 20) dX7_shorten_20 fk_X7_9 rfl rfl rfl ?_
    refine G_iload_n (pc := 23) dX7_shorten_23 rfl ?_
    refine G_aload_n (pc := 24) dX7_shorten_24 rfl ?_
    refine G_getP (pc := 25) dX7_shorten_25 fk_X7_9 rfl rfl rfl ?_
    refine G_iload_n (pc := 28) dX7_shorten_28 rfl ?_
    refine G_iaload (pc := 29) dX7_shorten_29 rfl rfl (by omega) ?_
    refine G_iconst (pc := 30) dX7_shorten_30 (by decide) ?_
    refine G_iadd (pc := 31) dX7_shorten_31 (by omega) ?_
    refine G_iastore (pc := 32) dX7_shorten_32 rfl rfl (by omega) ?_
    refine G_iconst (pc := 33) dX7_shorten_33 (by decide) ?_
    exact G_zreturn (pc := 34) dX7_shorten_34 (by first | exact Or.inl rfl | exact Or.inr rfl | omega | (split <;> first | exact Or.inl rfl | exact Or.inr rfl)) (qeq' (by rw [if_pos h_14]) (by unfold shF; rw [if_pos h_14, su_sv]))
  · refine G_iconst (pc := 17) dX7_shorten_17 (by decide) ?_
    exact G_zreturn (pc := 18) dX7_shorten_18 (by first | exact Or.inl rfl | exact Or.inr rfl | omega | (split <;> first | exact Or.inl rfl | exact Or.inr rfl)) (qeq' (by rw [if_neg (by omega)]) (by unfold shF; rw [if_neg (by omega), sv_id]))
abbrev adjC (t : Sto) : Int → Int → Prop := adjP (t 272 0) (t 13) (t 15) (t 16)
theorem c_X7_shortenAll (t : Sto) (s f : Int → Int) (hS : SC t) (hs : t 30 = glue (t 267 0) s f) (hC : CI 1000 (t 267 0) (adjC t) s) : CT yX7_shortenAll cX7_shortenAll 3 (some .boolean) 1 [mP 8] t (fun a t' => ∃ x, a = some (mI x) ∧ ((x = 0 ∨ x = 1) ∧ (x = 0 → spF (t 272 0) (t 13) (t 15) (t 16) s = s) ∧ t' = sv t 30 (glue (t 267 0) (spF (t 272 0) (t 13) (t 15) (t 16) s) f))) := by
  refine CT_of rfl rfl (Nat.le_of_ble_eq_true rfl) (fun E ht has => ?_)
  obtain ⟨hb, hS⟩ := hS
  have loop : ∀ l, l ≤ t 272 0 → ∀ (u : Int → Int) (c : Int), 0 ≤ l → (c = 0 ∨ c = 1) → (c = 0 → u = s) → CI 1000 (t 267 0) (adjC t) u → itr (slF (t 13) (t 15) (t 16)) l (t 272 0) u = spF (t 272 0) (t 13) (t 15) (t 16) s → G E cX7_shortenAll RX7 (some .boolean) 1 4 [some (mP 8), some (mI c), some (mI l)] [] (sv t 30 (glue (t 267 0) u f)) (fun a t' => ∃ x, a = some (mI x) ∧ ((x = 0 ∨ x = 1) ∧ (x = 0 → spF (t 272 0) (t 13) (t 15) (t 16) s = s) ∧ t' = sv t 30 (glue (t 267 0) (spF (t 272 0) (t 13) (t 15) (t 16) s) f))) := by
    refine up_ind (fun l hl ih u c h0 hc hu hCu hX => ?_)
    refine G_iload_n (pc := 4) dX7_shortenAll_4 rfl ?_
    refine G_aload_n (pc := 5) dX7_shortenAll_5 rfl ?_
    refine G_getP (pc := 6) dX7_shortenAll_6 fk_X7_15 rfl rfl rfl ?_
    refine G_getI (pc := 9) dX7_shortenAll_9 fk_X7_44 rfl rfl rfl ?_
    try simp (disch := decide) only [su_ne, su_at, su_same, sv_ne, sv_at]
    refine G_icmp_ge (pc := 12) (tgt := 83) dX7_shortenAll_12 rfl (fun h_12 => ?_) (fun h_12 => ?_)
    · refine G_iload_n (pc := 83) dX7_shortenAll_83 rfl ?_
      exact G_zreturn (pc := 84) dX7_shortenAll_84 (by exact hc) (by rw [itr_ge (by omega)] at hX; subst hX; exact ⟨_, rfl, hc, hu, rfl⟩)
    · obtain ⟨hfr, hto, -, -⟩ := hS l h0 (by omega)
      have hut := CI_lt hb.1 hCu hto.1 hto.2
      have hC1 := CI_sh (a := t 13 l) (b := t 15 l) hb.1 (by omega) hfr hto (⟨l, h0, by omega, Or.inl ⟨rfl, rfl⟩⟩ : adjC t (t 13 l) (t 15 l)) hCu
      have hC2 := CI_sl hb.1 (by omega) (⟨h0, by omega⟩ : 0 ≤ l ∧ l < t 272 0) hfr hto hCu
      refine G_iload_n (pc := 15) dX7_shortenAll_15 rfl ?_
      refine G_aload_n (pc := 16) dX7_shortenAll_16 rfl ?_
      refine G_aload_n (pc := 17) dX7_shortenAll_17 rfl ?_
      refine G_getP (pc := 18) dX7_shortenAll_18 fk_X7_15 rfl rfl rfl ?_
      refine G_getP (pc := 21) dX7_shortenAll_21 fk_X7_47 rfl rfl rfl ?_
      refine G_iload_n (pc := 24) dX7_shortenAll_24 rfl ?_
      refine G_iaload (pc := 25) dX7_shortenAll_25 rfl rfl (by omega) ?_
      try simp (disch := decide) only [su_ne, su_at, su_same, sv_ne, sv_at]
      refine G_aload_n (pc := 26) dX7_shortenAll_26 rfl ?_
      refine G_getP (pc := 27) dX7_shortenAll_27 fk_X7_15 rfl rfl rfl ?_
      refine G_getP (pc := 30) dX7_shortenAll_30 fk_X7_50 rfl rfl rfl ?_
      refine G_iload_n (pc := 33) dX7_shortenAll_33 rfl ?_
      refine G_iaload (pc := 34) dX7_shortenAll_34 rfl rfl (by omega) ?_
      try simp (disch := decide) only [su_ne, su_at, su_same, sv_ne, sv_at]
      refine G_cV1 (pc := 35) (c_X7_shorten _ _ _ (by omega) (by omega) (by rw [sv_at, glue_at hto]; omega)) dX7_shortenAll_35 ml_X7_53 rfl rfl rfl (by decide) (Nat.le_of_ble_eq_true rfl) ?_
      simp (disch := decide) only [sv_at, sv_sv, sh_glue hfr hto, glue_at hfr, glue_at hto]
      have hc1 := ior01 hc (bqr (P := u (t 15 l) + 1 < u (t 13 l)))
      refine G_ior (pc := 38) dX7_shortenAll_38 ?_
      rw [hc1]
      refine G_istore_n (pc := 39) dX7_shortenAll_39 (Nat.le_of_ble_eq_true rfl) rfl ?_
      refine G_aload_n (pc := 40) dX7_shortenAll_40 rfl ?_
      refine G_getP (pc := 41) dX7_shortenAll_41 fk_X7_15 rfl rfl rfl ?_
      refine G_getP (pc := 44) dX7_shortenAll_44 fk_X7_57 rfl rfl rfl ?_
      refine G_iload_n (pc := 47) dX7_shortenAll_47 rfl ?_
      refine G_baload (pc := 48) dX7_shortenAll_48 rfl rfl (by omega) ?_
      try simp (disch := decide) only [su_ne, su_at, su_same, sv_ne, sv_at]
      refine G_if_eq (pc := 49) (tgt := 77) dX7_shortenAll_49 rfl (fun h_49 => ?_) (fun h_49 => ?_)
      · try simp only [bq0, ne_eq, Classical.not_not] at h_49
        refine G_iinc (pc := 77) dX7_shortenAll_77 rfl rfl (by omega) ?_
        refine G_goto (pc := 80) (tgt := 4) dX7_shortenAll_80 rfl ?_
        rw [itr_lt (by omega)] at hX
        have esl : slF (t 13) (t 15) (t 16) l u = if t 16 l = 0 then shF (t 13 l) (t 15 l) u else shF (t 15 l) (t 13 l) (shF (t 13 l) (t 15 l) u) := by unfold slF; by_cases q : t 16 l = 0 <;> simp [q]
        first | rw [if_pos h_49] at esl | rw [if_neg h_49] at esl
        rw [esl] at hX hC2
        refine ih (by omega) _ _ (by omega) (by split <;> omega) (fun q => ?_) hC2 hX
        have key : ∀ (x y : Int) (v : Int → Int), ¬ v y + 1 < v x → shF x y v = v := fun x y v h => by unfold shF; rw [if_neg h]
        simp only [bq0] at q
        by_cases q1 : u (t 15 l) + 1 < u (t 13 l)
        · simp [q1] at q
        · have e1 := key _ _ _ q1
          simp only [e1] at q ⊢
          by_cases q2 : c = 0
          · simp only [q2, q1] at q
            first | exact hu q2 | (rw [key _ _ _ (by intro z; simp [z] at q)]; exact hu q2)
          · simp [q2] at q
      · try simp only [bq0, ne_eq, Classical.not_not] at h_49
        refine G_iload_n (pc := 52) dX7_shortenAll_52 rfl ?_
        refine G_aload_n (pc := 53) dX7_shortenAll_53 rfl ?_
        refine G_aload_n (pc := 54) dX7_shortenAll_54 rfl ?_
        refine G_getP (pc := 55) dX7_shortenAll_55 fk_X7_15 rfl rfl rfl ?_
        refine G_getP (pc := 58) dX7_shortenAll_58 fk_X7_50 rfl rfl rfl ?_
        refine G_iload_n (pc := 61) dX7_shortenAll_61 rfl ?_
        refine G_iaload (pc := 62) dX7_shortenAll_62 rfl rfl (by omega) ?_
        try simp (disch := decide) only [su_ne, su_at, su_same, sv_ne, sv_at]
        refine G_aload_n (pc := 63) dX7_shortenAll_63 rfl ?_
        refine G_getP (pc := 64) dX7_shortenAll_64 fk_X7_15 rfl rfl rfl ?_
        refine G_getP (pc := 67) dX7_shortenAll_67 fk_X7_47 rfl rfl rfl ?_
        refine G_iload_n (pc := 70) dX7_shortenAll_70 rfl ?_
        refine G_iaload (pc := 71) dX7_shortenAll_71 rfl rfl (by omega) ?_
        try simp (disch := decide) only [su_ne, su_at, su_same, sv_ne, sv_at]
        refine G_cV1 (pc := 72) (c_X7_shorten _ _ _ (by omega) (by omega) (by rw [sv_at, glue_at hfr]; have := CI_lt hb.1 hC1 hfr.1 hfr.2; omega)) dX7_shortenAll_72 ml_X7_53 rfl rfl rfl (by decide) (Nat.le_of_ble_eq_true rfl) ?_
        simp (disch := decide) only [sv_at, sv_sv, sh_glue hto hfr, glue_at hfr, glue_at hto]
        have hc2 := ior01 (a := if c = 0 ∧ (if u (t 15 l) + 1 < u (t 13 l) then (1 : Int) else 0) = 0 then 0 else 1) (by split <;> omega) (bqr (P := shF (t 13 l) (t 15 l) u (t 13 l) + 1 < shF (t 13 l) (t 15 l) u (t 15 l)))
        refine G_ior (pc := 75) dX7_shortenAll_75 ?_
        rw [hc2]
        refine G_istore_n (pc := 76) dX7_shortenAll_76 (Nat.le_of_ble_eq_true rfl) rfl ?_
        refine G_iinc (pc := 77) dX7_shortenAll_77 rfl rfl (by omega) ?_
        refine G_goto (pc := 80) (tgt := 4) dX7_shortenAll_80 rfl ?_
        rw [itr_lt (by omega)] at hX
        have esl : slF (t 13) (t 15) (t 16) l u = if t 16 l = 0 then shF (t 13 l) (t 15 l) u else shF (t 15 l) (t 13 l) (shF (t 13 l) (t 15 l) u) := by unfold slF; by_cases q : t 16 l = 0 <;> simp [q]
        first | rw [if_pos h_49] at esl | rw [if_neg h_49] at esl
        rw [esl] at hX hC2
        refine ih (by omega) _ _ (by omega) (by split <;> omega) (fun q => ?_) hC2 hX
        have key : ∀ (x y : Int) (v : Int → Int), ¬ v y + 1 < v x → shF x y v = v := fun x y v h => by unfold shF; rw [if_neg h]
        simp only [bq0] at q
        by_cases q1 : u (t 15 l) + 1 < u (t 13 l)
        · simp [q1] at q
        · have e1 := key _ _ _ q1
          simp only [e1] at q ⊢
          by_cases q2 : c = 0
          · simp only [q2, q1] at q
            first | exact hu q2 | (rw [key _ _ _ (by intro z; simp [z] at q)]; exact hu q2)
          · simp [q2] at q
  refine G_iconst (pc := 0) dX7_shortenAll_0 (by decide) ?_
  refine G_istore_n (pc := 1) dX7_shortenAll_1 (Nat.le_of_ble_eq_true rfl) rfl ?_
  refine G_iconst (pc := 2) dX7_shortenAll_2 (by decide) ?_
  refine G_istore_n (pc := 3) dX7_shortenAll_3 (Nat.le_of_ble_eq_true rfl) rfl ?_
  have h := loop 0 (by omega) s 0 (by omega) (Or.inl rfl) (fun _ => rfl) hC rfl
  rw [← hs, sv_id] at h
  exact h
theorem c_X7_measure (t : Sto) (g : Int) (hS : SC t) (hg : 0 ≤ g ∧ g < t 267 0) : CT yX7_measure cX7_measure 4 none 2 [mP 8, mI g] t (fun a t' => a = none ∧ t' = sv t 30 (glue (t 267 0) (disF 1000 (t 267 0) (t 272 0) (t 13) (t 15) (t 16) g) (t 30))) := by
  refine CT_of rfl rfl (Nat.le_of_ble_eq_true rfl) (fun E ht has => ?_)
  have hb := hS.1
  have hS2 : ∀ l, 0 ≤ l → l < t 272 0 → (0 ≤ t 13 l ∧ t 13 l < t 267 0) ∧ (0 ≤ t 15 l ∧ t 15 l < t 267 0) := fun l h0 h1 => ⟨(hS.2 l h0 h1).1, (hS.2 l h0 h1).2.1⟩
  have loop2 : ∀ i, i ≤ t 267 0 → ∀ (u : Int → Int) (c : Int), 0 ≤ i → (c = 0 → spF (t 272 0) (t 13) (t 15) (t 16) u = u) → CI 1000 (t 267 0) (adjC t) u → itr (fun _ => spF (t 272 0) (t 13) (t 15) (t 16)) i (t 267 0) u = disF 1000 (t 267 0) (t 272 0) (t 13) (t 15) (t 16) g → G E cX7_measure RX7 none 2 41 [some (mP 8), some (mI g), some (mI c), some (mI i)] [] (sv t 30 (glue (t 267 0) u (t 30))) (fun a t' => a = none ∧ t' = sv t 30 (glue (t 267 0) (disF 1000 (t 267 0) (t 272 0) (t 13) (t 15) (t 16) g) (t 30))) := by
    refine up_ind (fun i hi ih u c h0 hc hCu hX => ?_)
    refine G_iload_n (pc := 41) dX7_measure_41 rfl ?_
    refine G_aload_n (pc := 42) dX7_measure_42 rfl ?_
    refine G_getP (pc := 43) dX7_measure_43 fk_X7_15 rfl rfl rfl ?_
    refine G_getI (pc := 46) dX7_measure_46 fk_X7_36 rfl rfl rfl ?_
    try simp (disch := decide) only [su_ne, su_at, su_same, sv_ne, sv_at]
    refine G_icmp_ge (pc := 49) (tgt := 67) dX7_measure_49 rfl (fun h_49 => ?_) (fun h_49 => ?_)
    · exact G_return (pc := 67) dX7_measure_67 ⟨rfl, by first | rw [← hX, itr_ge (by omega)] | rw [← hX, itr_fix (hc h_53) i hi]⟩
    · refine G_iload_n (pc := 52) dX7_measure_52 rfl ?_
      refine G_if_eq (pc := 53) (tgt := 67) dX7_measure_53 rfl (fun h_53 => ?_) (fun h_53 => ?_)
      · try simp only [bq0, ne_eq, Classical.not_not] at h_53
        exact G_return (pc := 67) dX7_measure_67 ⟨rfl, by first | rw [← hX, itr_ge (by omega)] | rw [← hX, itr_fix (hc h_53) i hi]⟩
      · try simp only [bq0, ne_eq, Classical.not_not] at h_53
        refine G_aload_n (pc := 56) dX7_measure_56 rfl ?_
        refine G_cVg1 (pc := 57) (c_X7_shortenAll _ u (t 30) (by exact SC_sv rfl hS) (by rw [sv_at, sv_ne (by decide)]) (by simpa (disch := decide) only [adjC, sv_ne] using hCu)) dX7_measure_57 ml_X7_40 rfl rfl rfl (by decide) (Nat.le_of_ble_eq_true rfl) (fun r_57 t_57 hq_57 => ?_)
        simp (disch := decide) only [sv_ne, sv_at, sv_sv] at hq_57
        obtain ⟨hx01, hx0, rfl⟩ := hq_57
        refine G_istore_n (pc := 60) dX7_measure_60 (Nat.le_of_ble_eq_true rfl) rfl ?_
        refine G_iinc (pc := 61) dX7_measure_61 rfl rfl (by omega) ?_
        refine G_goto (pc := 64) (tgt := 41) dX7_measure_64 rfl ?_
        refine ih (by omega) _ r_57 (by omega) (fun q => by rw [hx0 q]; exact hx0 q) (CI_pass hb.1 (by omega) (by omega) hS2 hCu) ?_
        rw [← hX, itr_lt (l := i) (by omega)]
  have loop1 : ∀ r, r ≤ t 267 0 → ∀ o3 : Option MV, 0 ≤ r → G E cX7_measure RX7 none 2 2 [some (mP 8), some (mI g), some (mI r), o3] [] (sv t 30 (glue r (iniD 1000 g) (t 30))) (fun a t' => a = none ∧ t' = sv t 30 (glue (t 267 0) (disF 1000 (t 267 0) (t 272 0) (t 13) (t 15) (t 16) g) (t 30))) := by
    refine up_ind (fun r hr ih o3 h0 => ?_)
    refine G_iload_n (pc := 2) dX7_measure_2 rfl ?_
    refine G_aload_n (pc := 3) dX7_measure_3 rfl ?_
    refine G_getP (pc := 4) dX7_measure_4 fk_X7_15 rfl rfl rfl ?_
    refine G_getI (pc := 7) dX7_measure_7 fk_X7_36 rfl rfl rfl ?_
    try simp (disch := decide) only [su_ne, su_at, su_same, sv_ne, sv_at]
    refine G_icmp_ge (pc := 10) (tgt := 37) dX7_measure_10 rfl (fun h_10 => ?_) (fun h_10 => ?_)
    · refine G_iconst (pc := 37) dX7_measure_37 (by decide) ?_
      refine G_istore_n (pc := 38) dX7_measure_38 (Nat.le_of_ble_eq_true rfl) rfl ?_
      refine G_iconst (pc := 39) dX7_measure_39 (by decide) ?_
      refine G_istore_n (pc := 40) dX7_measure_40 (Nat.le_of_ble_eq_true rfl) rfl ?_
      have hrn : r = t 267 0 := by omega
      subst hrn
      exact loop2 0 (by omega) _ 1 (by omega) (fun q => by omega) (CI_ini hg) rfl
    · refine G_aload_n (pc := 13) dX7_measure_13 rfl ?_
      refine G_getP (pc := 14) dX7_measure_14 fk_X7_9 rfl rfl rfl ?_
      refine G_iload_n (pc := 17) dX7_measure_17 rfl ?_
      refine G_iload_n (pc := 18) dX7_measure_18 rfl ?_
      refine G_iload_n (pc := 19) dX7_measure_19 rfl ?_
      refine G_icmp_ne (pc := 20) (tgt := 27) dX7_measure_20 rfl (fun h_20 => ?_) (fun h_20 => ?_)
      · refine G_sipush (pc := 27) (x := 1000) dX7_measure_27 rfl (by decide) ?_
        refine G_iastore (pc := 30) dX7_measure_30 rfl rfl (by omega) ?_
        refine G_iinc (pc := 31) dX7_measure_31 rfl rfl (by omega) ?_
        refine G_goto (pc := 34) (tgt := 2) dX7_measure_34 rfl ?_
        rw [su_sv, sv_at, sv_sv]
        have e : ∀ x, x = iniD 1000 g r → fu (glue r (iniD 1000 g) (t 30)) r x = glue (r + 1) (iniD 1000 g) (t 30) := fun x hx => by rw [hx]; exact glue_succ h0 _ _
        rw [e _ (by unfold iniD; first | rw [if_pos h_20] | rw [if_neg h_20])]
        exact ih (by omega) _ (by omega)
      · refine G_iconst (pc := 23) dX7_measure_23 (by decide) ?_
        refine G_goto (pc := 24) (tgt := 30) dX7_measure_24 rfl ?_
        refine G_iastore (pc := 30) dX7_measure_30 rfl rfl (by omega) ?_
        refine G_iinc (pc := 31) dX7_measure_31 rfl rfl (by omega) ?_
        refine G_goto (pc := 34) (tgt := 2) dX7_measure_34 rfl ?_
        rw [su_sv, sv_at, sv_sv]
        have e : ∀ x, x = iniD 1000 g r → fu (glue r (iniD 1000 g) (t 30)) r x = glue (r + 1) (iniD 1000 g) (t 30) := fun x hx => by rw [hx]; exact glue_succ h0 _ _
        rw [e _ (by unfold iniD; first | rw [if_pos h_20] | rw [if_neg h_20])]
        exact ih (by omega) _ (by omega)
  refine G_iconst (pc := 0) dX7_measure_0 (by decide) ?_
  refine G_istore_n (pc := 1) dX7_measure_1 (Nat.le_of_ble_eq_true rfl) rfl ?_
  have h := loop1 0 (by omega) none (by omega)
  rw [glue_0, sv_id] at h
  exact h
/-! a good direction -/
def UQ (k : Int) (fr di to bo : Int → Int) : Prop := ∀ l1 l2 r w, 0 ≤ l1 → l1 < k → 0 ≤ l2 → l2 < k → outP fr di to bo r w l1 → outP fr di to bo r w l2 → l1 = l2
def goodW (k : Int) (fr di to bo F : Int → Int) (r w : Int) : Prop := 0 ≤ beyS k fr di to bo r w ∧ F (beyS k fr di to bo r w) + 1 = F r
noncomputable def lgS (k : Int) (fr di to bo F : Int → Int) (r : Int) : Int := fst (goodW k fr di to bo F r) 0 10
theorem opp_ne {d : Int} (h : 0 ≤ d ∧ d ≤ 9) : oppI d ≠ d := by
  rcases dir_cases h with rfl | rfl | rfl | rfl | rfl | rfl | rfl | rfl | rfl | rfl <;> decide
theorem bey_of {n k : Int} {fr di to bo : Int → Int} (hS : SOK n k fr di to bo) (hU : UQ k fr di to bo) {a b : Int} (h : adjP k fr to bo a b) : ∃ w, 0 ≤ w ∧ w ≤ 9 ∧ beyS k fr di to bo a w = b := by
  obtain ⟨l, h0, h1, hl⟩ := h
  have hd := (hS.2 l h0 h1).2.2.1
  rcases hl with ⟨e1, e2⟩ | ⟨hb, e1, e2⟩
  · refine ⟨di l, hd.1, hd.2, ?_⟩
    have ho : outP fr di to bo a (di l) l := Or.inl ⟨e1, rfl⟩
    have e : outS k fr di to bo a (di l) = l := fst_uniq h0 h1 ho (fun j j0 j1 hj => hU j l a (di l) j0 j1 h0 h1 hj ho)
    unfold beyS endS
    rw [e, if_neg (by omega), if_pos ⟨e1, rfl⟩, e2]
  · have ho9 := oppI_r hd
    refine ⟨oppI (di l), ho9.1, ho9.2, ?_⟩
    have ho : outP fr di to bo a (oppI (di l)) l := Or.inr ⟨hb, e1, rfl⟩
    have e : outS k fr di to bo a (oppI (di l)) = l := fst_uniq h0 h1 ho (fun j j0 j1 hj => hU j l a _ j0 j1 h0 h1 hj ho)
    unfold beyS endS
    rw [e, if_neg (by omega), if_neg (fun q => opp_ne hd q.2.symm), e2]
theorem good_ex {M n k : Int} {fr di to bo F : Int → Int} (hn : 0 ≤ n) (hS : SOK n k fr di to bo) (hU : UQ k fr di to bo) (hC : CI M n (adjP k fr to bo) F) (hst : stabP k fr to bo F) {r : Int} (hr : 0 ≤ r ∧ r < n) (hf : F r ≠ M) (hp : 0 < F r) : 0 ≤ lgS k fr di to bo F r ∧ lgS k fr di to bo F r < 10 ∧ goodW k fr di to bo F r (lgS k fr di to bo F r) := by
  rcases hC r hr.1 hr.2 with q | ⟨q0, w, hw0, hw1, hw2, hw3⟩
  · exact absurd q hf
  · have ha := hw3 (F r - 1) (by omega) (by omega)
    rw [show F r - 1 + 1 = F r by omega, hw0] at ha
    have hle := (hw1 (F r - 1) (by omega) (by omega)).2
    have hge : F r ≤ F (w (F r - 1)) + 1 := by
      obtain ⟨l, h0, h1, hl⟩ := ha
      rcases hl with ⟨e1, e2⟩ | ⟨hb, e1, e2⟩
      · have := (hst l h0 h1).1
        rw [e1, e2] at this
        exact this
      · have := (hst l h0 h1).2 hb
        rw [e1, e2] at this
        exact this
    obtain ⟨d, hd0, hd9, hd⟩ := bey_of hS hU ha
    have hg : goodW k fr di to bo F r d := by
      unfold goodW
      rw [hd]
      exact ⟨(hw1 (F r - 1) (by omega) (by omega)).1.1, by omega⟩
    rcases fst_spec (goodW k fr di to bo F r) 0 10 with ⟨a, b⟩ | ⟨a, b, c, e⟩
    · exact absurd hg (b d hd0 (by omega))
    · exact ⟨a, b, c⟩
theorem c_X7_wayLength (t : Sto) (a g : Int) (hS : SC t) (ha : 0 ≤ a ∧ a < t 267 0) (hg : 0 ≤ g ∧ g < t 267 0) : CT yX7_wayLength cX7_wayLength 3 (some .int) 3 [mP 8, mI a, mI g] t (fun r t' => r = some (mI (if disF 1000 (t 267 0) (t 272 0) (t 13) (t 15) (t 16) g a < 1000 then disF 1000 (t 267 0) (t 272 0) (t 13) (t 15) (t 16) g a else -2)) ∧ t' = sv t 30 (glue (t 267 0) (disF 1000 (t 267 0) (t 272 0) (t 13) (t 15) (t 16) g) (t 30))) := by
  refine CT_of rfl rfl (Nat.le_of_ble_eq_true rfl) (fun E ht has => ?_)
  have hb := hS.1
  refine G_aload_n (pc := 0) dX7_wayLength_0 rfl ?_
  refine G_iload_n (pc := 1) dX7_wayLength_1 rfl ?_
  refine G_cV0 (pc := 2) (c_X7_measure _ _ (by exact hS) (by exact hg)) dX7_wayLength_2 ml_X7_19 rfl rfl rfl (by decide) (Nat.le_of_ble_eq_true rfl) ?_
  refine G_aload_n (pc := 5) dX7_wayLength_5 rfl ?_
  refine G_getP (pc := 6) dX7_wayLength_6 fk_X7_9 rfl rfl rfl ?_
  refine G_iload_n (pc := 9) dX7_wayLength_9 rfl ?_
  refine G_iaload (pc := 10) dX7_wayLength_10 rfl rfl (by omega) ?_
  try simp (disch := decide) only [su_ne, su_at, su_same, sv_ne, sv_at]
  rw [glue_at ha]
  refine G_sipush (pc := 11) (x := 1000) dX7_wayLength_11 rfl (by decide) ?_
  refine G_icmp_ge (pc := 14) (tgt := 26) dX7_wayLength_14 rfl (fun h_14 => ?_) (fun h_14 => ?_)
  · refine G_bipush (pc := 26) (x := (-2)) dX7_wayLength_26 rfl (by decide) ?_
    exact G_ireturn (pc := 28) dX7_wayLength_28 (qeq (by grind))
  · refine G_aload_n (pc := 17) dX7_wayLength_17 rfl ?_
    refine G_getP (pc := 18) dX7_wayLength_18 fk_X7_9 rfl rfl rfl ?_
    refine G_iload_n (pc := 21) dX7_wayLength_21 rfl ?_
    refine G_iaload (pc := 22) dX7_wayLength_22 rfl rfl (by omega) ?_
    try simp (disch := decide) only [su_ne, su_at, su_same, sv_ne, sv_at]
    rw [glue_at ha]
    refine G_goto (pc := 23) (tgt := 28) dX7_wayLength_23 rfl ?_
    exact G_ireturn (pc := 28) dX7_wayLength_28 (qeq (by grind))
theorem c_X7_leastGoodDirection (t : Sto) (r : Int) (F f : Int → Int) (hS : SC t) (hr : 0 ≤ r ∧ r < t 267 0) (hF : t 30 = glue (t 267 0) F f) (hB : ∀ j, 0 ≤ j → j < t 267 0 → 0 ≤ F j ∧ F j ≤ 1000) : CT yX7_leastGoodDirection cX7_leastGoodDirection 4 (some .int) 3 [mP 8, mI r] t (fun a t' => a = some (mI (lgS (t 272 0) (t 13) (t 14) (t 15) (t 16) F r)) ∧ t' = t) := by
  refine CT_of rfl rfl (Nat.le_of_ble_eq_true rfl) (fun E ht has => ?_)
  have hb := hS.1
  have loop : ∀ w, w ≤ 10 → ∀ o3 : Option MV, 0 ≤ w → fst (goodW (t 272 0) (t 13) (t 14) (t 15) (t 16) F r) w 10 = lgS (t 272 0) (t 13) (t 14) (t 15) (t 16) F r → G E cX7_leastGoodDirection RX7 (some .int) 3 2 [some (mP 8), some (mI r), some (mI w), o3] [] t (fun a t' => a = some (mI (lgS (t 272 0) (t 13) (t 14) (t 15) (t 16) F r)) ∧ t' = t) := by
    refine up_ind (fun w hw ih o3 h0 hX => ?_)
    have hbr := beyS_r hS r w
    refine G_iload_n (pc := 2) dX7_leastGoodDirection_2 rfl ?_
    refine G_bipush (pc := 3) (x := 10) dX7_leastGoodDirection_3 rfl (by decide) ?_
    refine G_icmp_ge (pc := 5) (tgt := 47) dX7_leastGoodDirection_5 rfl (fun h_5 => ?_) (fun h_5 => ?_)
    · refine G_bipush (pc := 47) (x := (-2)) dX7_leastGoodDirection_47 rfl (by decide) ?_
      exact G_ireturn (pc := 49) dX7_leastGoodDirection_49 (qeq (by rw [← hX, fst_ge (by omega)]))
    · refine G_aload_n (pc := 8) dX7_leastGoodDirection_8 rfl ?_
      refine G_getP (pc := 9) dX7_leastGoodDirection_9 fk_X7_15 rfl rfl rfl ?_
      refine G_iload_n (pc := 12) dX7_leastGoodDirection_12 rfl ?_
      refine G_iload_n (pc := 13) dX7_leastGoodDirection_13 rfl ?_
      refine G_cV1 (pc := 14) (c_X5_beyond _ _ _ (by exact hS)) dX7_leastGoodDirection_14 ml_X7_31 rfl rfl rfl (by decide) (Nat.le_of_ble_eq_true rfl) ?_
      refine G_istore_n (pc := 17) dX7_leastGoodDirection_17 (Nat.le_of_ble_eq_true rfl) rfl ?_
      refine G_iload_n (pc := 18) dX7_leastGoodDirection_18 rfl ?_
      refine G_if_lt (pc := 19) (tgt := 41) dX7_leastGoodDirection_19 rfl (fun h_19 => ?_) (fun h_19 => ?_)
      · refine G_iinc (pc := 41) dX7_leastGoodDirection_41 rfl rfl (by omega) ?_
        refine G_goto (pc := 44) (tgt := 2) dX7_leastGoodDirection_44 rfl ?_
        exact ih (by omega) _ (by omega) ((fst_neg (by omega) (by unfold goodW; omega)).symm.trans hX)
      · have hBn := hB (beyS (t 272 0) (t 13) (t 14) (t 15) (t 16) r w) (by omega) (by omega)
        refine G_aload_n (pc := 22) dX7_leastGoodDirection_22 rfl ?_
        refine G_getP (pc := 23) dX7_leastGoodDirection_23 fk_X7_9 rfl rfl rfl ?_
        refine G_iload_n (pc := 26) dX7_leastGoodDirection_26 rfl ?_
        refine G_iaload (pc := 27) dX7_leastGoodDirection_27 rfl rfl (by omega) ?_
        rw [hF, glue_at (by omega)]
        refine G_iconst (pc := 28) dX7_leastGoodDirection_28 (by decide) ?_
        refine G_iadd (pc := 29) dX7_leastGoodDirection_29 (by omega) ?_
        refine G_aload_n (pc := 30) dX7_leastGoodDirection_30 rfl ?_
        refine G_getP (pc := 31) dX7_leastGoodDirection_31 fk_X7_9 rfl rfl rfl ?_
        refine G_iload_n (pc := 34) dX7_leastGoodDirection_34 rfl ?_
        refine G_iaload (pc := 35) dX7_leastGoodDirection_35 rfl rfl (by omega) ?_
        rw [hF, glue_at hr]
        refine G_icmp_ne (pc := 36) (tgt := 41) dX7_leastGoodDirection_36 rfl (fun h_36 => ?_) (fun h_36 => ?_)
        · refine G_iinc (pc := 41) dX7_leastGoodDirection_41 rfl rfl (by omega) ?_
          refine G_goto (pc := 44) (tgt := 2) dX7_leastGoodDirection_44 rfl ?_
          exact ih (by omega) _ (by omega) ((fst_neg (by omega) (by unfold goodW; omega)).symm.trans hX)
        · refine G_iload_n (pc := 39) dX7_leastGoodDirection_39 rfl ?_
          exact G_ireturn (pc := 40) dX7_leastGoodDirection_40 (qeq (by rw [← hX, fst_pos (by omega) (by unfold goodW; exact ⟨by omega, h_36⟩)]))
  refine G_iconst (pc := 0) dX7_leastGoodDirection_0 (by decide) ?_
  refine G_istore_n (pc := 1) dX7_leastGoodDirection_1 (Nat.le_of_ble_eq_true rfl) rfl ?_
  exact loop 0 (by omega) _ (by omega) rfl
