/-! WALKING: steps; the reference -/
noncomputable def posS (k : Int) (fr di to bo F : Int → Int) (a i : Int) : Int := itr (fun _ p => beyS k fr di to bo p (lgS k fr di to bo F p)) 0 i a
theorem posS_0 (k : Int) (fr di to bo F : Int → Int) (a : Int) : posS k fr di to bo F a 0 = a := itr_ge (by omega)
theorem posS_succ (k : Int) (fr di to bo F : Int → Int) (a : Int) {i : Int} (h : 0 ≤ i) : posS k fr di to bo F a (i + 1) = beyS k fr di to bo (posS k fr di to bo F a i) (lgS k fr di to bo F (posS k fr di to bo F a i)) := itr_right 0 h a
/-- on the way each step brings one nearer -/
theorem pos_ok {M n k : Int} {fr di to bo F : Int → Int} (hn : 0 ≤ n) (hS : SOK n k fr di to bo) (hU : UQ k fr di to bo) (hC : CI M n (adjP k fr to bo) F) (hM : n ≤ M) (hst : stabP k fr to bo F) {a : Int} (ha : 0 ≤ a ∧ a < n) (hf : F a ≠ M) : ∀ i, 0 ≤ i → i ≤ F a → (0 ≤ posS k fr di to bo F a i ∧ posS k fr di to bo F a i < n) ∧ F (posS k fr di to bo F a i) = F a - i := by
  refine down_ind (z := 0) (fun i hi ih hia => ?_)
  rcases Int.lt_or_le 0 i with h | h
  · have h1 := ih h (by omega)
    have hfa := CI_lt hn hC ha.1 ha.2
    have hg := good_ex hn hS hU hC hst h1.1 (by rw [h1.2]; omega) (by rw [h1.2]; omega)
    have e := posS_succ k fr di to bo F a (i := i - 1) (by omega)
    rw [show i - 1 + 1 = i by omega] at e
    rw [e]
    obtain ⟨-, -, hg1, hg2⟩ := hg
    have hr := beyS_r hS (posS k fr di to bo F a (i - 1)) (lgS k fr di to bo F (posS k fr di to bo F a (i - 1)))
    refine ⟨by omega, ?_⟩
    rw [h1.2] at hg2
    omega
  · have : i = 0 := by omega
    subst this
    rw [posS_0]
    exact ⟨ha, by omega⟩
noncomputable def stpS (M n k : Int) (fr di to bo : Int → Int) (a g j : Int) : Int := if (0 ≤ j ∧ j < disF M n k fr to bo g a) ∧ disF M n k fr to bo g a ≠ M then lgS k fr di to bo (disF M n k fr to bo g) (posS k fr di to bo (disF M n k fr to bo g) a j) else -2
theorem stp_eq {n k : Int} {fr di to bo : Int → Int} {a g j : Int} (hS : SOK n k fr di to bo) (hU : UQ k fr di to bo) (ha : 0 ≤ a ∧ a < n) (hg : 0 ≤ g ∧ g < n) : stpS 1000 n k fr di to bo a g j = stpS 99 n k fr di to bo a g j := by
  have hb := hS.1
  have hS2 : ∀ l, 0 ≤ l → l < k → (0 ≤ fr l ∧ fr l < n) ∧ (0 ≤ to l ∧ to l < n) := fun l h0 h1 => ⟨(hS.2 l h0 h1).1, (hS.2 l h0 h1).2.1⟩
  have hR := rel_dis (bo := bo) (k := k) (⟨hb.1, hb.2.1⟩ : 0 ≤ n ∧ n ≤ 24) hb.2.2.1 hg hS2
  have hC1 : CI 1000 n (adjP k fr to bo) (disF 1000 n k fr to bo g) := CI_dis (M := 1000) (bo := bo) hb.1 (by omega) hb.2.2.1 hg hS2 0 hb.1 (iniD 1000 g) (Int.le_refl _) (CI_ini hg)
  have hst1 := dis_stab (M := 1000) (bo := bo) hb.1 (by omega) hb.2.2.1 hg hS2
  have hra := hR a ha.1 ha.2
  have lg : ∀ p, 0 ≤ p → p < n → disF 1000 n k fr to bo g p ≠ 1000 → lgS k fr di to bo (disF 1000 n k fr to bo g) p = lgS k fr di to bo (disF 99 n k fr to bo g) p := by
    intro p h0 h1 hne
    unfold lgS
    apply fst_congr
    intro w _ _
    have hp := hR p h0 h1
    have hbr := beyS_r hS p w
    unfold goodW
    constructor
    · rintro ⟨q1, q2⟩
      have hq := hR _ q1 (by omega)
      exact ⟨q1, by omega⟩
    · rintro ⟨q1, q2⟩
      have hq := hR _ q1 (by omega)
      exact ⟨q1, by omega⟩
  unfold stpS
  by_cases hcond : (0 ≤ j ∧ j < disF 1000 n k fr to bo g a) ∧ disF 1000 n k fr to bo g a ≠ 1000
  · rw [if_pos hcond, if_pos (by omega)]
    have hpos : ∀ i, 0 ≤ i → i ≤ j → posS k fr di to bo (disF 1000 n k fr to bo g) a i = posS k fr di to bo (disF 99 n k fr to bo g) a i := by
      refine down_ind (z := 0) (fun i hi ih hij => ?_)
      rcases Int.lt_or_le 0 i with h | h
      · have e := ih h (by omega)
        have hp := pos_ok hb.1 hS hU hC1 (by omega) hst1 ha hcond.2 (i - 1) (by omega) (by omega)
        have e1 := posS_succ k fr di to bo (disF 1000 n k fr to bo g) a (i := i - 1) (by omega)
        have e2 := posS_succ k fr di to bo (disF 99 n k fr to bo g) a (i := i - 1) (by omega)
        rw [show i - 1 + 1 = i by omega] at e1 e2
        have hne : disF 1000 n k fr to bo g (posS k fr di to bo (disF 1000 n k fr to bo g) a (i - 1)) ≠ 1000 := by
          have h9 := hp.2
          omega
        rw [e1, e2, ← e, lg _ hp.1.1 hp.1.2 hne]
      · have : i = 0 := by omega
        subst this
        rw [posS_0, posS_0]
    have hp := pos_ok hb.1 hS hU hC1 (by omega) hst1 ha hcond.2 j (by omega) (by omega)
    have hne : disF 1000 n k fr to bo g (posS k fr di to bo (disF 1000 n k fr to bo g) a j) ≠ 1000 := by
      have h9 := hp.2
      omega
    rw [lg _ hp.1.1 hp.1.2 hne, hpos j (by omega) (Int.le_refl _)]
  · rw [if_neg hcond, if_neg (by omega)]
theorem c_X7_wayDirection (t : Sto) (a g j : Int) (hS : SC t) (hU : UQ (t 272 0) (t 13) (t 14) (t 15) (t 16)) (ha : 0 ≤ a ∧ a < t 267 0) (hg : 0 ≤ g ∧ g < t 267 0) : CT yX7_wayDirection cX7_wayDirection 8 (some .int) 4 [mP 8, mI a, mI g, mI j] t (fun r t' => r = some (mI (stpS 1000 (t 267 0) (t 272 0) (t 13) (t 14) (t 15) (t 16) a g j)) ∧ t' = sv t 30 (glue (t 267 0) (disF 1000 (t 267 0) (t 272 0) (t 13) (t 15) (t 16) g) (t 30))) := by
  refine CT_of rfl rfl (Nat.le_of_ble_eq_true rfl) (fun E ht has => ?_)
  have hb := hS.1
  have hS2 : ∀ l, 0 ≤ l → l < t 272 0 → (0 ≤ t 13 l ∧ t 13 l < t 267 0) ∧ (0 ≤ t 15 l ∧ t 15 l < t 267 0) := fun l h0 h1 => ⟨(hS.2 l h0 h1).1, (hS.2 l h0 h1).2.1⟩
  have hst := dis_stab (M := 1000) (bo := t 16) hb.1 (by omega) hb.2.2.1 hg hS2
  have hC : CI 1000 (t 267 0) (adjP (t 272 0) (t 13) (t 15) (t 16)) (disF 1000 (t 267 0) (t 272 0) (t 13) (t 15) (t 16) g) := CI_dis hb.1 (by omega) hb.2.2.1 hg hS2 0 hb.1 (iniD 1000 g) (Int.le_refl _) (CI_ini hg)
  unfold stpS
  generalize hFe : disF 1000 (t 267 0) (t 272 0) (t 13) (t 15) (t 16) g = F at *
  have hBF : ∀ q, 0 ≤ q → q < t 267 0 → 0 ≤ F q ∧ F q ≤ 1000 := fun q h0 h1 => by have := CI_lt hb.1 hC h0 h1; omega
  have hFa := CI_lt hb.1 hC ha.1 ha.2
  obtain ⟨t1, ht1⟩ : ∃ t1, t1 = sv t 30 (glue (t 267 0) F (t 30)) := ⟨_, rfl⟩
  have e267 : t1 267 = t 267 := by rw [ht1, sv_ne (by decide)]
  have e272 : t1 272 = t 272 := by rw [ht1, sv_ne (by decide)]
  have e13 : t1 13 = t 13 := by rw [ht1, sv_ne (by decide)]
  have e14 : t1 14 = t 14 := by rw [ht1, sv_ne (by decide)]
  have e15 : t1 15 = t 15 := by rw [ht1, sv_ne (by decide)]
  have e16 : t1 16 = t 16 := by rw [ht1, sv_ne (by decide)]
  have hS1 : SC t1 := by rw [ht1]; exact SC_sv rfl hS
  have hF1 : t1 30 = glue (t1 267 0) F (t 30) := by rw [e267, ht1, sv_at]
  rw [← ht1]
  have loop : (0 ≤ j ∧ j < F a) → F a ≠ 1000 → ∀ i, i ≤ j → 0 ≤ i → G E cX7_wayDirection RX7 (some .int) 4 35 [some (mP 8), some (mI a), some (mI g), some (mI j), some (mI (F a)), some (mI (posS (t 272 0) (t 13) (t 14) (t 15) (t 16) F a i)), some (mI (lgS (t 272 0) (t 13) (t 14) (t 15) (t 16) F (posS (t 272 0) (t 13) (t 14) (t 15) (t 16) F a i))), some (mI i)] [] t1 (fun r t' => r = some (mI (if (0 ≤ j ∧ j < F a) ∧ F a ≠ 1000 then lgS (t 272 0) (t 13) (t 14) (t 15) (t 16) F (posS (t 272 0) (t 13) (t 14) (t 15) (t 16) F a j) else -2)) ∧ t' = t1) := by
    intro hj hf
    refine up_ind (fun i hi ih h0 => ?_)
    have hp := pos_ok hb.1 hS hU hC (by omega) hst ha hf i h0 (by omega)
    have hg2 := good_ex hb.1 hS hU hC hst hp.1 (by rw [hp.2]; omega) (by rw [hp.2]; omega)
    have hps := posS_succ (t 272 0) (t 13) (t 14) (t 15) (t 16) F a h0
    have hp2 := pos_ok hb.1 hS hU hC (by omega) hst ha hf (i + 1) (by omega) (by omega)
    refine G_iload (pc := 35) dX7_wayDirection_35 rfl ?_
    refine G_iload_n (pc := 37) dX7_wayDirection_37 rfl ?_
    refine G_icmp_ge (pc := 38) (tgt := 73) dX7_wayDirection_38 rfl (fun h_38 => ?_) (fun h_38 => ?_)
    · refine G_iload (pc := 73) dX7_wayDirection_73 rfl ?_
      exact G_ireturn (pc := 75) dX7_wayDirection_75 (qeq (by rw [if_pos ⟨hj, hf⟩, show i = j by omega]))
    · refine G_iload (pc := 41) dX7_wayDirection_41 rfl ?_
      refine G_if_lt (pc := 43) (tgt := 73) dX7_wayDirection_43 rfl (fun h_43 => ?_) (fun h_43 => ?_)
      · exact absurd h_43 (by omega)
      · refine G_aload_n (pc := 46) dX7_wayDirection_46 rfl ?_
        refine G_getP (pc := 47) dX7_wayDirection_47 fk_X7_15 rfl rfl rfl ?_
        refine G_iload (pc := 50) dX7_wayDirection_50 rfl ?_
        refine G_iload (pc := 52) dX7_wayDirection_52 rfl ?_
        refine G_cV1 (pc := 54) (c_X5_beyond _ _ _ (by exact hS1)) dX7_wayDirection_54 ml_X7_31 rfl rfl rfl (by decide) (Nat.le_of_ble_eq_true rfl) ?_
        rw [e272, e13, e14, e15, e16, ← hps]
        refine G_istore (pc := 57) dX7_wayDirection_57 (Nat.le_of_ble_eq_true rfl) rfl ?_
        refine G_aload_n (pc := 59) dX7_wayDirection_59 rfl ?_
        refine G_iload (pc := 60) dX7_wayDirection_60 rfl ?_
        refine G_cV1 (pc := 62) (c_X7_leastGoodDirection _ _ F (t 30) (by exact hS1) (by rw [e267]; exact hp2.1) (by exact hF1) (by rw [e267]; exact hBF)) dX7_wayDirection_62 ml_X7_27 rfl rfl rfl (by decide) (Nat.le_of_ble_eq_true rfl) ?_
        rw [e272, e13, e14, e15, e16]
        refine G_istore (pc := 65) dX7_wayDirection_65 (Nat.le_of_ble_eq_true rfl) rfl ?_
        refine G_iinc (pc := 67) dX7_wayDirection_67 rfl rfl (by omega) ?_
        refine G_goto (pc := 70) (tgt := 35) dX7_wayDirection_70 rfl ?_
        exact ih (by omega) (by omega)
  refine G_aload_n (pc := 0) dX7_wayDirection_0 rfl ?_
  refine G_iload_n (pc := 1) dX7_wayDirection_1 rfl ?_
  refine G_iload_n (pc := 2) dX7_wayDirection_2 rfl ?_
  refine G_cV1 (pc := 3) (c_X7_wayLength _ _ _ (by exact hS) (by exact ha) (by exact hg)) dX7_wayDirection_3 ml_X7_23 rfl rfl rfl (by decide) (Nat.le_of_ble_eq_true rfl) ?_
  rw [hFe, ← ht1]
  refine G_istore (pc := 6) dX7_wayDirection_6 (Nat.le_of_ble_eq_true rfl) rfl ?_
  refine G_iload_n (pc := 8) dX7_wayDirection_8 rfl ?_
  refine G_if_lt (pc := 9) (tgt := 18) dX7_wayDirection_9 rfl (fun h_9 => ?_) (fun h_9 => ?_)
  · have hnj : ¬ ((0 ≤ j ∧ j < F a) ∧ F a ≠ 1000) := by omega
    refine G_bipush (pc := 18) (x := (-2)) dX7_wayDirection_18 rfl (by decide) ?_
    exact G_ireturn (pc := 20) dX7_wayDirection_20 (qeq (by rw [if_neg hnj]))
  · refine G_iload_n (pc := 12) dX7_wayDirection_12 rfl ?_
    refine G_iload (pc := 13) dX7_wayDirection_13 rfl ?_
    refine G_icmp_lt (pc := 15) (tgt := 21) dX7_wayDirection_15 rfl (fun h_15 => ?_) (fun h_15 => ?_)
    · refine G_iload_n (pc := 21) dX7_wayDirection_21 rfl ?_
      refine G_istore (pc := 22) dX7_wayDirection_22 (Nat.le_of_ble_eq_true rfl) rfl ?_
      refine G_aload_n (pc := 24) dX7_wayDirection_24 rfl ?_
      refine G_iload (pc := 25) dX7_wayDirection_25 rfl ?_
      refine G_cV1 (pc := 27) (c_X7_leastGoodDirection _ _ F (t 30) (by exact hS1) (by rw [e267]; exact ha) (by exact hF1) (by rw [e267]; exact hBF)) dX7_wayDirection_27 ml_X7_27 rfl rfl rfl (by decide) (Nat.le_of_ble_eq_true rfl) ?_
      rw [e272, e13, e14, e15, e16]
      refine G_istore (pc := 30) dX7_wayDirection_30 (Nat.le_of_ble_eq_true rfl) rfl ?_
      refine G_iconst (pc := 32) dX7_wayDirection_32 (by decide) ?_
      refine G_istore (pc := 33) dX7_wayDirection_33 (Nat.le_of_ble_eq_true rfl) rfl ?_
      have hlt : F a < 1000 := by
        by_cases q : F a < 1000
        · exact q
        · rw [if_neg q] at h_15; omega
      rw [if_pos hlt] at h_15
      have h := loop ⟨by omega, h_15⟩ (by omega) 0 (by omega) (by omega)
      rw [posS_0] at h
      rw [if_pos hlt]
      exact h
    · have hnj : ¬ ((0 ≤ j ∧ j < F a) ∧ F a ≠ 1000) := by
        intro q
        rw [if_pos (by omega)] at h_15
        omega
      refine G_bipush (pc := 18) (x := (-2)) dX7_wayDirection_18 rfl (by decide) ?_
      exact G_ireturn (pc := 20) dX7_wayDirection_20 (qeq (by rw [if_neg hnj]))
noncomputable def farR (M n k : Int) (fr to bo : Int → Int) (a b : Int) : Int := if (0 ≤ a ∧ a < n) ∧ (0 ≤ b ∧ b < n) then (if disF M n k fr to bo b a < n then disF M n k fr to bo b a else -2) else -1
theorem c_X8_far (t : Sto) (a b : Int) (hS : SC t) : CT yX8_far cX8_far 3 (some .int) 4 [mP 0, mI a, mI b] t (fun r t' => ∃ x, r = some (mI x) ∧ (x = farR 1000 (t 267 0) (t 272 0) (t 13) (t 15) (t 16) a b ∧ ∃ f, t' = sv t 30 f)) := by
  refine CT_of rfl rfl (Nat.le_of_ble_eq_true rfl) (fun E ht has => ?_)
  have hb := hS.1
  have hS2 : ∀ l, 0 ≤ l → l < t 272 0 → (0 ≤ t 13 l ∧ t 13 l < t 267 0) ∧ (0 ≤ t 15 l ∧ t 15 l < t 267 0) := fun l h0 h1 => ⟨(hS.2 l h0 h1).1, (hS.2 l h0 h1).2.1⟩
  have hlt : (0 ≤ a ∧ a < t 267 0) → (0 ≤ b ∧ b < t 267 0) → disF 1000 (t 267 0) (t 272 0) (t 13) (t 15) (t 16) b a = 1000 ∨ (0 ≤ disF 1000 (t 267 0) (t 272 0) (t 13) (t 15) (t 16) b a ∧ disF 1000 (t 267 0) (t 272 0) (t 13) (t 15) (t 16) b a < t 267 0) := fun ha hg => CI_lt hb.1 (CI_dis (bo := t 16) hb.1 (by omega) hb.2.2.1 hg hS2 0 hb.1 (iniD 1000 b) (Int.le_refl _) (CI_ini hg)) ha.1 ha.2
  refine G_aload_n (pc := 0) dX8_far_0 rfl ?_
  refine G_getP (pc := 1) dX8_far_1 fk_X8_10 rfl rfl rfl ?_
  refine G_iload_n (pc := 4) dX8_far_4 rfl ?_
  refine G_cV1 (pc := 5) (c_X5_isRoom _ _) dX8_far_5 ml_X8_69 rfl rfl rfl (by decide) (Nat.le_of_ble_eq_true rfl) ?_
  refine G_if_eq (pc := 8) (tgt := 34) dX8_far_8 rfl (fun h_8 => ?_) (fun h_8 => ?_)
  · try simp only [bq0, ne_eq, Classical.not_not] at h_8
    have hn9 : ¬ ((0 ≤ a ∧ a < t 267 0) ∧ (0 ≤ b ∧ b < t 267 0)) := fun q => h_8 q.1
    refine G_iconst (pc := 34) dX8_far_34 (by decide) ?_
    exact G_ireturn (pc := 35) dX8_far_35 ⟨_, rfl, by unfold farR; rw [if_neg hn9], t 30, (sv_id t 30).symm⟩
  · try simp only [bq0, ne_eq, Classical.not_not] at h_8
    refine G_aload_n (pc := 11) dX8_far_11 rfl ?_
    refine G_getP (pc := 12) dX8_far_12 fk_X8_10 rfl rfl rfl ?_
    refine G_iload_n (pc := 15) dX8_far_15 rfl ?_
    refine G_cV1 (pc := 16) (c_X5_isRoom _ _) dX8_far_16 ml_X8_69 rfl rfl rfl (by decide) (Nat.le_of_ble_eq_true rfl) ?_
    refine G_if_eq (pc := 19) (tgt := 34) dX8_far_19 rfl (fun h_19 => ?_) (fun h_19 => ?_)
    · try simp only [bq0, ne_eq, Classical.not_not] at h_19
      have hn9 : ¬ ((0 ≤ a ∧ a < t 267 0) ∧ (0 ≤ b ∧ b < t 267 0)) := fun q => h_19 q.2
      refine G_iconst (pc := 34) dX8_far_34 (by decide) ?_
      exact G_ireturn (pc := 35) dX8_far_35 ⟨_, rfl, by unfold farR; rw [if_neg hn9], t 30, (sv_id t 30).symm⟩
    · try simp only [bq0, ne_eq, Classical.not_not] at h_19
      refine G_aload_n (pc := 22) dX8_far_22 rfl ?_
      refine G_getP (pc := 23) dX8_far_23 fk_X8_44 rfl rfl rfl ?_
      refine G_iload_n (pc := 26) dX8_far_26 rfl ?_
      refine G_iload_n (pc := 27) dX8_far_27 rfl ?_
      refine G_cV1 (pc := 28) (c_X7_wayLength _ _ _ (by exact hS) (by omega) (by omega)) dX8_far_28 ml_X8_177 rfl rfl rfl (by decide) (Nat.le_of_ble_eq_true rfl) ?_
      have hlt2 := hlt h_8 h_19
      refine G_goto (pc := 31) (tgt := 35) dX8_far_31 rfl ?_
      refine G_ireturn (pc := 35) dX8_far_35 ⟨_, rfl, ?_, _, rfl⟩
      unfold farR
      rw [if_pos (show (0 ≤ a ∧ a < t 267 0) ∧ (0 ≤ b ∧ b < t 267 0) from ⟨h_8, h_19⟩)]
      generalize disF 1000 (t 267 0) (t 272 0) (t 13) (t 15) (t 16) b a = x at *
      rcases hlt2 with h9 | h9
      · rw [if_neg (by omega), if_neg (by omega)]
      · rw [if_pos (by omega), if_pos (by omega)]
noncomputable def stepR (M n k : Int) (fr di to bo : Int → Int) (a b j : Int) : Int := if (0 ≤ a ∧ a < n) ∧ (0 ≤ b ∧ b < n) then stpS M n k fr di to bo a b j else -1
theorem c_X8_step (t : Sto) (a b j : Int) (hS : SC t) (hU : UQ (t 272 0) (t 13) (t 14) (t 15) (t 16)) : CT yX8_step cX8_step 4 (some .int) 5 [mP 0, mI a, mI b, mI j] t (fun r t' => ∃ x, r = some (mI x) ∧ (x = stepR 1000 (t 267 0) (t 272 0) (t 13) (t 14) (t 15) (t 16) a b j ∧ ∃ f, t' = sv t 30 f)) := by
  refine CT_of rfl rfl (Nat.le_of_ble_eq_true rfl) (fun E ht has => ?_)
  have hb := hS.1
  refine G_aload_n (pc := 0) dX8_step_0 rfl ?_
  refine G_getP (pc := 1) dX8_step_1 fk_X8_10 rfl rfl rfl ?_
  refine G_iload_n (pc := 4) dX8_step_4 rfl ?_
  refine G_cV1 (pc := 5) (c_X5_isRoom _ _) dX8_step_5 ml_X8_69 rfl rfl rfl (by decide) (Nat.le_of_ble_eq_true rfl) ?_
  refine G_if_eq (pc := 8) (tgt := 35) dX8_step_8 rfl (fun h_8 => ?_) (fun h_8 => ?_)
  · try simp only [bq0, ne_eq, Classical.not_not] at h_8
    have hn9 : ¬ ((0 ≤ a ∧ a < t 267 0) ∧ (0 ≤ b ∧ b < t 267 0)) := fun q => h_8 q.1
    refine G_iconst (pc := 35) dX8_step_35 (by decide) ?_
    exact G_ireturn (pc := 36) dX8_step_36 ⟨_, rfl, by unfold stepR; rw [if_neg hn9], t 30, (sv_id t 30).symm⟩
  · try simp only [bq0, ne_eq, Classical.not_not] at h_8
    refine G_aload_n (pc := 11) dX8_step_11 rfl ?_
    refine G_getP (pc := 12) dX8_step_12 fk_X8_10 rfl rfl rfl ?_
    refine G_iload_n (pc := 15) dX8_step_15 rfl ?_
    refine G_cV1 (pc := 16) (c_X5_isRoom _ _) dX8_step_16 ml_X8_69 rfl rfl rfl (by decide) (Nat.le_of_ble_eq_true rfl) ?_
    refine G_if_eq (pc := 19) (tgt := 35) dX8_step_19 rfl (fun h_19 => ?_) (fun h_19 => ?_)
    · try simp only [bq0, ne_eq, Classical.not_not] at h_19
      have hn9 : ¬ ((0 ≤ a ∧ a < t 267 0) ∧ (0 ≤ b ∧ b < t 267 0)) := fun q => h_19 q.2
      refine G_iconst (pc := 35) dX8_step_35 (by decide) ?_
      exact G_ireturn (pc := 36) dX8_step_36 ⟨_, rfl, by unfold stepR; rw [if_neg hn9], t 30, (sv_id t 30).symm⟩
    · try simp only [bq0, ne_eq, Classical.not_not] at h_19
      refine G_aload_n (pc := 22) dX8_step_22 rfl ?_
      refine G_getP (pc := 23) dX8_step_23 fk_X8_44 rfl rfl rfl ?_
      refine G_iload_n (pc := 26) dX8_step_26 rfl ?_
      refine G_iload_n (pc := 27) dX8_step_27 rfl ?_
      refine G_iload_n (pc := 28) dX8_step_28 rfl ?_
      refine G_cV1 (pc := 29) (c_X7_wayDirection _ _ _ _ (by exact hS) (by exact hU) (by omega) (by omega)) dX8_step_29 ml_X8_180 rfl rfl rfl (by decide) (Nat.le_of_ble_eq_true rfl) ?_
      refine G_goto (pc := 32) (tgt := 36) dX8_step_32 rfl ?_
      exact G_ireturn (pc := 36) dX8_step_36 ⟨_, rfl, by unfold stepR; rw [if_pos ⟨h_8, h_19⟩], _, rfl⟩
/-! the reference -/
abbrev adjM (t : Sto) : Int → Int → Prop := adjP (t 2188 0) (t 35) (t 37) (t 38)
theorem c_X9_findDistances (t : Sto) (g : Int) (hS : SM t) (hg : 0 ≤ g ∧ g < t 2184 0) : CT yX9_findDistances cX9_findDistances 6 none 0 [mP 31, mI g] t (fun a t' => a = none ∧ t' = sv t 56 (glue (t 2184 0) (disF 99 (t 2184 0) (t 2188 0) (t 35) (t 37) (t 38) g) (t 56))) := by
  refine CT_of rfl rfl (Nat.le_of_ble_eq_true rfl) (fun E ht has => ?_)
  have hb := hS.1
  have hS2 : ∀ l, 0 ≤ l → l < t 2188 0 → (0 ≤ t 35 l ∧ t 35 l < t 2184 0) ∧ (0 ≤ t 37 l ∧ t 37 l < t 2184 0) := fun l h0 h1 => ⟨(hS.2 l h0 h1).1, (hS.2 l h0 h1).2.1⟩
  have hst := dis_stab (M := 99) (bo := t 38) hb.1 (by omega) hb.2.2.1 hg hS2
  obtain ⟨Z, hZ⟩ : ∃ Z, Z = disF 99 (t 2184 0) (t 2188 0) (t 35) (t 37) (t 38) g := ⟨_, rfl⟩
  rw [← hZ] at hst ⊢
  have inner : ∀ u0 : Int → Int, (∀ (u : Int → Int) (c : Int) (o4 o5 : Option MV), (c = 0 ∨ c = 1) → (c = 0 → u = u0) → (stabP (t 2188 0) (t 35) (t 37) (t 38) u0 → c = 0 ∧ u = u0) → CI 99 (t 2184 0) (adjM t) u → u = spF (t 2188 0) (t 35) (t 37) (t 38) u0 → G E cX9_findDistances RX9 none 0 156 [some (mP 31), some (mI g), some (mI c), some (mI (t 2188 0)), o4, o5] [] (sv t 56 (glue (t 2184 0) u (t 56))) (fun a t' => a = none ∧ t' = sv t 56 (glue (t 2184 0) Z (t 56)))) →
      ∀ l, l ≤ t 2188 0 → ∀ (u : Int → Int) (c : Int) (o4 o5 : Option MV), 0 ≤ l → (c = 0 ∨ c = 1) → (c = 0 → u = u0) → (stabP (t 2188 0) (t 35) (t 37) (t 38) u0 → c = 0 ∧ u = u0) → CI 99 (t 2184 0) (adjM t) u → itr (slF (t 35) (t 37) (t 38)) l (t 2188 0) u = spF (t 2188 0) (t 35) (t 37) (t 38) u0 → G E cX9_findDistances RX9 none 0 43 [some (mP 31), some (mI g), some (mI c), some (mI l), o4, o5] [] (sv t 56 (glue (t 2184 0) u (t 56))) (fun a t' => a = none ∧ t' = sv t 56 (glue (t 2184 0) Z (t 56))) := by
    intro u0 hend
    refine up_ind (fun l hl ih u c o4 o5 h0 hc hu hus hCu hX => ?_)
    have second : ∀ (v : Int → Int) (c' : Int), l < t 2188 0 → v = shF (t 35 l) (t 37 l) u → (c' = 0 ∨ c' = 1) → (c' = 0 → v = u0) → (stabP (t 2188 0) (t 35) (t 37) (t 38) u0 → c' = 0 ∧ v = u0) → CI 99 (t 2184 0) (adjM t) v → G E cX9_findDistances RX9 none 0 104 [some (mP 31), some (mI g), some (mI c'), some (mI l), some (mI (t 35 l)), some (mI (t 37 l))] [] (sv t 56 (glue (t 2184 0) v (t 56))) (fun a t' => a = none ∧ t' = sv t 56 (glue (t 2184 0) Z (t 56))) := by
      intro v c' hlk hv hc' hv0 hvs hCv
      obtain ⟨hfr, hto⟩ := hS2 l h0 hlk
      have hC2 := CI_sl hb.1 (by omega) (⟨h0, hlk⟩ : 0 ≤ l ∧ l < t 2188 0) hfr hto hCu
      have hvf := CI_lt hb.1 hCv hfr.1 hfr.2
      rw [itr_lt hlk] at hX
      have esl : slF (t 35) (t 37) (t 38) l u = if t 38 l = 0 then v else shF (t 37 l) (t 35 l) v := by rw [hv]; unfold slF; by_cases q : t 38 l = 0 <;> simp [q]
      rw [esl] at hX hC2
      refine G_aload_n (pc := 104) dX9_findDistances_104 rfl ?_
      refine G_getP (pc := 105) dX9_findDistances_105 fk_X9_28 rfl rfl rfl ?_
      refine G_iload_n (pc := 108) dX9_findDistances_108 rfl ?_
      refine G_baload (pc := 109) dX9_findDistances_109 rfl rfl (by omega) ?_
      try simp (disch := decide) only [su_ne, su_at, su_same, sv_ne, sv_at]
      refine G_if_eq (pc := 110) (tgt := 150) dX9_findDistances_110 rfl (fun h_110 => ?_) (fun h_110 => ?_)
      · try simp only [bq0, ne_eq, Classical.not_not] at h_110
        rw [if_pos h_110] at hX hC2
        refine G_iinc (pc := 150) dX9_findDistances_150 rfl rfl (by omega) ?_
        refine G_goto (pc := 153) (tgt := 43) dX9_findDistances_153 rfl ?_
        first | exact ih hlk _ _ _ _ (by omega) hc' hv0 hvs hC2 hX | (rw [su_sv, sv_at, sv_sv, glue_fu hto, ← e9]; exact ih hlk _ 1 _ _ (by omega) (Or.inr rfl) (fun q => by omega) (fun q => absurd (show v (t 37 l) ≤ v (t 35 l) + 1 from by rw [(hvs q).2]; exact (q l h0 hlk).2 h_110) (by omega)) hC2 hX)
      · try simp only [bq0, ne_eq, Classical.not_not] at h_110
        rw [if_neg h_110] at hX hC2
        refine G_aload_n (pc := 113) dX9_findDistances_113 rfl ?_
        refine G_getP (pc := 114) dX9_findDistances_114 fk_X9_83 rfl rfl rfl ?_
        refine G_iload (pc := 117) dX9_findDistances_117 rfl ?_
        refine G_iaload (pc := 119) dX9_findDistances_119 rfl rfl (by omega) ?_
        try simp (disch := decide) only [su_ne, su_at, su_same, sv_ne, sv_at]
        rw [glue_at hfr]
        refine G_iconst (pc := 120) dX9_findDistances_120 (by decide) ?_
        refine G_iadd (pc := 121) dX9_findDistances_121 (by omega) ?_
        refine G_aload_n (pc := 122) dX9_findDistances_122 rfl ?_
        refine G_getP (pc := 123) dX9_findDistances_123 fk_X9_83 rfl rfl rfl ?_
        refine G_iload (pc := 126) dX9_findDistances_126 rfl ?_
        refine G_iaload (pc := 128) dX9_findDistances_128 rfl rfl (by omega) ?_
        try simp (disch := decide) only [su_ne, su_at, su_same, sv_ne, sv_at]
        rw [glue_at hto]
        refine G_icmp_ge (pc := 129) (tgt := 150) dX9_findDistances_129 rfl (fun h_129 => ?_) (fun h_129 => ?_)
        · rw [sh_stable (by omega)] at hX hC2
          refine G_iinc (pc := 150) dX9_findDistances_150 rfl rfl (by omega) ?_
          refine G_goto (pc := 153) (tgt := 43) dX9_findDistances_153 rfl ?_
          first | exact ih hlk _ _ _ _ (by omega) hc' hv0 hvs hC2 hX | (rw [su_sv, sv_at, sv_sv, glue_fu hto, ← e9]; exact ih hlk _ 1 _ _ (by omega) (Or.inr rfl) (fun q => by omega) (fun q => absurd (show v (t 37 l) ≤ v (t 35 l) + 1 from by rw [(hvs q).2]; exact (q l h0 hlk).2 h_110) (by omega)) hC2 hX)
        · have e9 : shF (t 37 l) (t 35 l) v = fu v (t 37 l) (v (t 35 l) + 1) := by unfold shF; rw [if_pos (by omega)]
          refine G_aload_n (pc := 132) dX9_findDistances_132 rfl ?_
          refine G_getP (pc := 133) dX9_findDistances_133 fk_X9_83 rfl rfl rfl ?_
          refine G_iload (pc := 136) dX9_findDistances_136 rfl ?_
          refine G_aload_n (pc := 138) dX9_findDistances_138 rfl ?_
          refine G_getP (pc := 139) dX9_findDistances_139 fk_X9_83 rfl rfl rfl ?_
          refine G_iload (pc := 142) dX9_findDistances_142 rfl ?_
          refine G_iaload (pc := 144) dX9_findDistances_144 rfl rfl (by omega) ?_
          try simp (disch := decide) only [su_ne, su_at, su_same, sv_ne, sv_at]
          rw [glue_at hfr]
          refine G_iconst (pc := 145) dX9_findDistances_145 (by decide) ?_
          refine G_iadd (pc := 146) dX9_findDistances_146 (by omega) ?_
          refine G_iastore (pc := 147) dX9_findDistances_147 rfl rfl (by omega) ?_
          refine G_iconst (pc := 148) dX9_findDistances_148 (by decide) ?_
          refine G_istore_n (pc := 149) dX9_findDistances_149 (Nat.le_of_ble_eq_true rfl) rfl ?_
          refine G_iinc (pc := 150) dX9_findDistances_150 rfl rfl (by omega) ?_
          refine G_goto (pc := 153) (tgt := 43) dX9_findDistances_153 rfl ?_
          first | exact ih hlk _ _ _ _ (by omega) hc' hv0 hvs hC2 hX | (rw [su_sv, sv_at, sv_sv, glue_fu hto, ← e9]; exact ih hlk _ 1 _ _ (by omega) (Or.inr rfl) (fun q => by omega) (fun q => absurd (show v (t 37 l) ≤ v (t 35 l) + 1 from by rw [(hvs q).2]; exact (q l h0 hlk).2 h_110) (by omega)) hC2 hX)
    refine G_iload_n (pc := 43) dX9_findDistances_43 rfl ?_
    refine G_aload_n (pc := 44) dX9_findDistances_44 rfl ?_
    refine G_getI (pc := 45) dX9_findDistances_45 fk_X9_94 rfl rfl rfl ?_
    try simp (disch := decide) only [su_ne, su_at, su_same, sv_ne, sv_at]
    refine G_icmp_ge (pc := 48) (tgt := 156) dX9_findDistances_48 rfl (fun h_48 => ?_) (fun h_48 => ?_)
    · rw [itr_ge (by omega)] at hX
      have hl2 : l = t 2188 0 := by omega
      subst hl2
      exact hend u c _ _ hc hu hus hCu hX
    · obtain ⟨hfr, hto⟩ := hS2 l h0 (by omega)
      have hut := CI_lt hb.1 hCu hto.1 hto.2
      have hC1 := CI_sh (a := t 35 l) (b := t 37 l) hb.1 (by omega) hfr hto (⟨l, h0, by omega, Or.inl ⟨rfl, rfl⟩⟩ : adjM t (t 35 l) (t 37 l)) hCu
      refine G_aload_n (pc := 51) dX9_findDistances_51 rfl ?_
      refine G_getP (pc := 52) dX9_findDistances_52 fk_X9_19 rfl rfl rfl ?_
      refine G_iload_n (pc := 55) dX9_findDistances_55 rfl ?_
      refine G_iaload (pc := 56) dX9_findDistances_56 rfl rfl (by omega) ?_
      try simp (disch := decide) only [su_ne, su_at, su_same, sv_ne, sv_at]
      refine G_istore (pc := 57) dX9_findDistances_57 (Nat.le_of_ble_eq_true rfl) rfl ?_
      refine G_aload_n (pc := 59) dX9_findDistances_59 rfl ?_
      refine G_getP (pc := 60) dX9_findDistances_60 fk_X9_25 rfl rfl rfl ?_
      refine G_iload_n (pc := 63) dX9_findDistances_63 rfl ?_
      refine G_iaload (pc := 64) dX9_findDistances_64 rfl rfl (by omega) ?_
      try simp (disch := decide) only [su_ne, su_at, su_same, sv_ne, sv_at]
      refine G_istore (pc := 65) dX9_findDistances_65 (Nat.le_of_ble_eq_true rfl) rfl ?_
      refine G_aload_n (pc := 67) dX9_findDistances_67 rfl ?_
      refine G_getP (pc := 68) dX9_findDistances_68 fk_X9_83 rfl rfl rfl ?_
      refine G_iload (pc := 71) dX9_findDistances_71 rfl ?_
      refine G_iaload (pc := 73) dX9_findDistances_73 rfl rfl (by omega) ?_
      try simp (disch := decide) only [su_ne, su_at, su_same, sv_ne, sv_at]
      rw [glue_at hto]
      refine G_iconst (pc := 74) dX9_findDistances_74 (by decide) ?_
      refine G_iadd (pc := 75) dX9_findDistances_75 (by omega) ?_
      refine G_aload_n (pc := 76) dX9_findDistances_76 rfl ?_
      refine G_getP (pc := 77) dX9_findDistances_77 fk_X9_83 rfl rfl rfl ?_
      refine G_iload (pc := 80) dX9_findDistances_80 rfl ?_
      refine G_iaload (pc := 82) dX9_findDistances_82 rfl rfl (by omega) ?_
      try simp (disch := decide) only [su_ne, su_at, su_same, sv_ne, sv_at]
      rw [glue_at hfr]
      refine G_icmp_ge (pc := 83) (tgt := 104) dX9_findDistances_83 rfl (fun h_83 => ?_) (fun h_83 => ?_)
      · have e8 := sh_stable (s := u) (a := t 35 l) (b := t 37 l) (by omega)
        first | exact second u c (by omega) e8.symm hc hu hus hCu | (rw [su_sv, sv_at, sv_sv, glue_fu hfr]; exact second _ 1 (by omega) e8.symm (Or.inr rfl) (fun q => by omega) (fun q => absurd (show u (t 35 l) ≤ u (t 37 l) + 1 from by rw [(hus q).2]; exact (q l h0 (by omega)).1) (by omega)) (by rw [← e8]; exact hC1))
      · have e8 : shF (t 35 l) (t 37 l) u = fu u (t 35 l) (u (t 37 l) + 1) := by unfold shF; rw [if_pos (by omega)]
        refine G_aload_n (pc := 86) dX9_findDistances_86 rfl ?_
        refine G_getP (pc := 87) dX9_findDistances_87 fk_X9_83 rfl rfl rfl ?_
        refine G_iload (pc := 90) dX9_findDistances_90 rfl ?_
        refine G_aload_n (pc := 92) dX9_findDistances_92 rfl ?_
        refine G_getP (pc := 93) dX9_findDistances_93 fk_X9_83 rfl rfl rfl ?_
        refine G_iload (pc := 96) dX9_findDistances_96 rfl ?_
        refine G_iaload (pc := 98) dX9_findDistances_98 rfl rfl (by omega) ?_
        try simp (disch := decide) only [su_ne, su_at, su_same, sv_ne, sv_at]
        rw [glue_at hto]
        refine G_iconst (pc := 99) dX9_findDistances_99 (by decide) ?_
        refine G_iadd (pc := 100) dX9_findDistances_100 (by omega) ?_
        refine G_iastore (pc := 101) dX9_findDistances_101 rfl rfl (by omega) ?_
        refine G_iconst (pc := 102) dX9_findDistances_102 (by decide) ?_
        refine G_istore_n (pc := 103) dX9_findDistances_103 (Nat.le_of_ble_eq_true rfl) rfl ?_
        first | exact second u c (by omega) e8.symm hc hu hus hCu | (rw [su_sv, sv_at, sv_sv, glue_fu hfr]; exact second _ 1 (by omega) e8.symm (Or.inr rfl) (fun q => by omega) (fun q => absurd (show u (t 35 l) ≤ u (t 37 l) + 1 from by rw [(hus q).2]; exact (q l h0 (by omega)).1) (by omega)) (by rw [← e8]; exact hC1))
  have outer : ∀ i, i ≤ t 2184 0 + 1 → ∀ (u : Int → Int) (c : Int) (o3 o4 o5 : Option MV), 0 ≤ i → (c = 0 → u = Z) → (c ≠ 0 → i ≤ t 2184 0 ∧ u = itr (fun _ => spF (t 2188 0) (t 35) (t 37) (t 38)) 0 i (iniD 99 g)) → CI 99 (t 2184 0) (adjM t) u → G E cX9_findDistances RX9 none 0 35 [some (mP 31), some (mI g), some (mI c), o3, o4, o5] [] (sv t 56 (glue (t 2184 0) u (t 56))) (fun a t' => a = none ∧ t' = sv t 56 (glue (t 2184 0) Z (t 56))) := by
    refine up_ind (fun i hi ih u c o3 o4 o5 h0 hc0 hc1 hCu => ?_)
    refine G_iload_n (pc := 35) dX9_findDistances_35 rfl ?_
    refine G_if_eq (pc := 36) (tgt := 159) dX9_findDistances_36 rfl (fun h_36 => ?_) (fun h_36 => ?_)
    · try simp only [bq0, ne_eq, Classical.not_not] at h_36
      exact G_return (pc := 159) dX9_findDistances_159 ⟨rfl, by rw [hc0 h_36]⟩
    · try simp only [bq0, ne_eq, Classical.not_not] at h_36
      refine G_iconst (pc := 39) dX9_findDistances_39 (by decide) ?_
      refine G_istore_n (pc := 40) dX9_findDistances_40 (Nat.le_of_ble_eq_true rfl) rfl ?_
      refine G_iconst (pc := 41) dX9_findDistances_41 (by decide) ?_
      refine G_istore_n (pc := 42) dX9_findDistances_42 (Nat.le_of_ble_eq_true rfl) rfl ?_
      obtain ⟨hin, hui⟩ := hc1 h_36
      refine inner u (fun u' c' p4 p5 h1 h2 h3 h4 h5 => ?_) 0 (by omega) u 0 _ _ (by omega) (Or.inl rfl) (fun _ => rfl) (fun _ => ⟨rfl, rfl⟩) hCu rfl
      refine G_goto (pc := 156) (tgt := 35) dX9_findDistances_156 rfl ?_
      refine ih (by omega) u' c' _ _ _ (by omega) (fun q => ?_) (fun q => ?_) h4
      · have e1 := h2 q
        have e2 : spF (t 2188 0) (t 35) (t 37) (t 38) u = u := by rw [← h5, e1]
        rw [e1, hZ]
        unfold disF
        have e3 : ∀ m, i ≤ m → itr (fun _ => spF (t 2188 0) (t 35) (t 37) (t 38)) 0 m (iniD 99 g) = u := by
          refine down_ind (z := i) (fun m hm ihm => ?_)
          rcases Int.lt_or_le i m with q1 | q1
          · have e4 := itr_right (F := fun _ => spF (t 2188 0) (t 35) (t 37) (t 38)) (k := m - 1) 0 (by omega) (iniD 99 g)
            rw [show m - 1 + 1 = m by omega] at e4
            rw [e4, ihm q1, e2]
          · rw [show m = i by omega, ← hui]
        exact (e3 (t 2184 0) hin).symm
      · have hne : i ≠ t 2184 0 := by
          intro e
          have e5 : u = Z := by rw [hui, hZ, e]; rfl
          rw [← e5] at hst
          exact q (h3 hst).1
        refine ⟨by omega, ?_⟩
        rw [itr_right 0 h0, ← hui]
        exact h5
  have loop1 : ∀ r, r ≤ t 2184 0 → ∀ o3 o4 o5 : Option MV, 0 ≤ r → G E cX9_findDistances RX9 none 0 2 [some (mP 31), some (mI g), some (mI r), o3, o4, o5] [] (sv t 56 (glue r (iniD 99 g) (t 56))) (fun a t' => a = none ∧ t' = sv t 56 (glue (t 2184 0) Z (t 56))) := by
    refine up_ind (fun r hr ih o3 o4 o5 h0 => ?_)
    refine G_iload_n (pc := 2) dX9_findDistances_2 rfl ?_
    refine G_aload_n (pc := 3) dX9_findDistances_3 rfl ?_
    refine G_getI (pc := 4) dX9_findDistances_4 fk_X9_86 rfl rfl rfl ?_
    try simp (disch := decide) only [su_ne, su_at, su_same, sv_ne, sv_at]
    refine G_icmp_ge (pc := 7) (tgt := 33) dX9_findDistances_7 rfl (fun h_7 => ?_) (fun h_7 => ?_)
    · refine G_iconst (pc := 33) dX9_findDistances_33 (by decide) ?_
      refine G_istore_n (pc := 34) dX9_findDistances_34 (Nat.le_of_ble_eq_true rfl) rfl ?_
      have hrn : r = t 2184 0 := by omega
      subst hrn
      exact outer 0 (by omega) _ 1 _ _ _ (by omega) (fun q => by omega) (fun _ => ⟨by omega, (itr_ge (by omega)).symm⟩) (CI_ini hg)
    · refine G_aload_n (pc := 10) dX9_findDistances_10 rfl ?_
      refine G_getP (pc := 11) dX9_findDistances_11 fk_X9_83 rfl rfl rfl ?_
      refine G_iload_n (pc := 14) dX9_findDistances_14 rfl ?_
      refine G_iload_n (pc := 15) dX9_findDistances_15 rfl ?_
      refine G_iload_n (pc := 16) dX9_findDistances_16 rfl ?_
      refine G_icmp_ne (pc := 17) (tgt := 24) dX9_findDistances_17 rfl (fun h_17 => ?_) (fun h_17 => ?_)
      · refine G_bipush (pc := 24) (x := 99) dX9_findDistances_24 rfl (by decide) ?_
        refine G_iastore (pc := 26) dX9_findDistances_26 rfl rfl (by omega) ?_
        refine G_iinc (pc := 27) dX9_findDistances_27 rfl rfl (by omega) ?_
        refine G_goto (pc := 30) (tgt := 2) dX9_findDistances_30 rfl ?_
        rw [su_sv, sv_at, sv_sv]
        have e : ∀ x, x = iniD 99 g r → fu (glue r (iniD 99 g) (t 56)) r x = glue (r + 1) (iniD 99 g) (t 56) := fun x hx => by rw [hx]; exact glue_succ h0 _ _
        rw [e _ (by unfold iniD; first | rw [if_pos h_17] | rw [if_neg h_17])]
        exact ih (by omega) _ _ _ (by omega)
      · refine G_iconst (pc := 20) dX9_findDistances_20 (by decide) ?_
        refine G_goto (pc := 21) (tgt := 26) dX9_findDistances_21 rfl ?_
        refine G_iastore (pc := 26) dX9_findDistances_26 rfl rfl (by omega) ?_
        refine G_iinc (pc := 27) dX9_findDistances_27 rfl rfl (by omega) ?_
        refine G_goto (pc := 30) (tgt := 2) dX9_findDistances_30 rfl ?_
        rw [su_sv, sv_at, sv_sv]
        have e : ∀ x, x = iniD 99 g r → fu (glue r (iniD 99 g) (t 56)) r x = glue (r + 1) (iniD 99 g) (t 56) := fun x hx => by rw [hx]; exact glue_succ h0 _ _
        rw [e _ (by unfold iniD; first | rw [if_pos h_17] | rw [if_neg h_17])]
        exact ih (by omega) _ _ _ (by omega)
  refine G_iconst (pc := 0) dX9_findDistances_0 (by decide) ?_
  refine G_istore_n (pc := 1) dX9_findDistances_1 (Nat.le_of_ble_eq_true rfl) rfl ?_
  have h := loop1 0 (by omega) none none none (by omega)
  rw [glue_0, sv_id] at h
  exact h
theorem c_X9_far (t : Sto) (a b : Int) (hS : SM t) : CT yX9_far cX9_far 3 (some .int) 2 [mP 31, mI a, mI b] t (fun r t' => r = some (mI (farR 99 (t 2184 0) (t 2188 0) (t 35) (t 37) (t 38) a b)) ∧ t' = if (0 ≤ a ∧ a < t 2184 0) ∧ (0 ≤ b ∧ b < t 2184 0) then sv t 56 (glue (t 2184 0) (disF 99 (t 2184 0) (t 2188 0) (t 35) (t 37) (t 38) b) (t 56)) else t) := by
  refine CT_of rfl rfl (Nat.le_of_ble_eq_true rfl) (fun E ht has => ?_)
  have hb := hS.1
  have hS2 : ∀ l, 0 ≤ l → l < t 2188 0 → (0 ≤ t 35 l ∧ t 35 l < t 2184 0) ∧ (0 ≤ t 37 l ∧ t 37 l < t 2184 0) := fun l h0 h1 => ⟨(hS.2 l h0 h1).1, (hS.2 l h0 h1).2.1⟩
  have hlt : (0 ≤ a ∧ a < t 2184 0) → (0 ≤ b ∧ b < t 2184 0) → disF 99 (t 2184 0) (t 2188 0) (t 35) (t 37) (t 38) b a = 99 ∨ (0 ≤ disF 99 (t 2184 0) (t 2188 0) (t 35) (t 37) (t 38) b a ∧ disF 99 (t 2184 0) (t 2188 0) (t 35) (t 37) (t 38) b a < t 2184 0) := fun ha hg => CI_lt hb.1 (CI_dis (bo := t 38) hb.1 (by omega) hb.2.2.1 hg hS2 0 hb.1 (iniD 99 b) (Int.le_refl _) (CI_ini hg)) ha.1 ha.2
  unfold farR
  refine G_aload_n (pc := 0) dX9_far_0 rfl ?_
  refine G_iload_n (pc := 1) dX9_far_1 rfl ?_
  refine G_cV1 (pc := 2) (c_X9_isRoom _ _ (by omega)) dX9_far_2 ml_X9_101 rfl rfl rfl (by decide) (Nat.le_of_ble_eq_true rfl) ?_
  refine G_if_eq (pc := 5) (tgt := 16) dX9_far_5 rfl (fun h_5 => ?_) (fun h_5 => ?_)
  · try simp only [bq0, ne_eq, Classical.not_not] at h_5
    have hn9 : ¬ ((0 ≤ a ∧ a < t 2184 0) ∧ (0 ≤ b ∧ b < t 2184 0)) := fun q => h_5 q.1
    refine G_iconst (pc := 16) dX9_far_16 (by decide) ?_
    exact G_ireturn (pc := 17) dX9_far_17 (qeq' (by rw [if_neg hn9]) (by rw [if_neg hn9]))
  · try simp only [bq0, ne_eq, Classical.not_not] at h_5
    refine G_aload_n (pc := 8) dX9_far_8 rfl ?_
    refine G_iload_n (pc := 9) dX9_far_9 rfl ?_
    refine G_cV1 (pc := 10) (c_X9_isRoom _ _ (by omega)) dX9_far_10 ml_X9_101 rfl rfl rfl (by decide) (Nat.le_of_ble_eq_true rfl) ?_
    refine G_if_ne (pc := 13) (tgt := 18) dX9_far_13 rfl (fun h_13 => ?_) (fun h_13 => ?_)
    · try simp only [bq0, ne_eq, Classical.not_not] at h_13
      have hn9 : (0 ≤ a ∧ a < t 2184 0) ∧ (0 ≤ b ∧ b < t 2184 0) := ⟨h_5, h_13⟩
      rw [if_pos hn9, if_pos hn9]
      have hlt2 := hlt h_5 h_13
      refine G_aload_n (pc := 18) dX9_far_18 rfl ?_
      refine G_iload_n (pc := 19) dX9_far_19 rfl ?_
      refine G_cV0 (pc := 20) (c_X9_findDistances _ _ (by exact hS) (by omega)) dX9_far_20 ml_X9_230 rfl rfl rfl (by decide) (Nat.le_of_ble_eq_true rfl) ?_
      refine G_aload_n (pc := 23) dX9_far_23 rfl ?_
      refine G_getP (pc := 24) dX9_far_24 fk_X9_83 rfl rfl rfl ?_
      refine G_iload_n (pc := 27) dX9_far_27 rfl ?_
      refine G_iaload (pc := 28) dX9_far_28 rfl rfl (by omega) ?_
      try simp (disch := decide) only [su_ne, su_at, su_same, sv_ne, sv_at]
      rw [glue_at h_5]
      refine G_bipush (pc := 29) (x := 24) dX9_far_29 rfl (by decide) ?_
      refine G_icmp_le (pc := 31) (tgt := 39) dX9_far_31 rfl (fun h_31 => ?_) (fun h_31 => ?_)
      · refine G_aload_n (pc := 39) dX9_far_39 rfl ?_
        refine G_getP (pc := 40) dX9_far_40 fk_X9_83 rfl rfl rfl ?_
        refine G_iload_n (pc := 43) dX9_far_43 rfl ?_
        refine G_iaload (pc := 44) dX9_far_44 rfl rfl (by omega) ?_
        try simp (disch := decide) only [su_ne, su_at, su_same, sv_ne, sv_at]
        skip
        exact G_ireturn (pc := 45) dX9_far_45 ⟨by first | rw [if_neg (by omega)] | rw [glue_at h_5, if_pos (by omega)], rfl⟩
      · refine G_bipush (pc := 34) (x := (-2)) dX9_far_34 rfl (by decide) ?_
        refine G_goto (pc := 36) (tgt := 45) dX9_far_36 rfl ?_
        skip
        exact G_ireturn (pc := 45) dX9_far_45 ⟨by first | rw [if_neg (by omega)] | rw [glue_at h_5, if_pos (by omega)], rfl⟩
    · try simp only [bq0, ne_eq, Classical.not_not] at h_13
      have hn9 : ¬ ((0 ≤ a ∧ a < t 2184 0) ∧ (0 ≤ b ∧ b < t 2184 0)) := fun q => h_13 q.2
      refine G_iconst (pc := 16) dX9_far_16 (by decide) ?_
      exact G_ireturn (pc := 17) dX9_far_17 (qeq' (by rw [if_neg hn9]) (by rw [if_neg hn9]))
theorem c_X9_step (t : Sto) (a b j : Int) (hS : SM t) (hU : UQ (t 2188 0) (t 35) (t 36) (t 37) (t 38)) : CT yX9_step cX9_step 10 (some .int) 3 [mP 31, mI a, mI b, mI j] t (fun r t' => ∃ x, r = some (mI x) ∧ (x = stepR 99 (t 2184 0) (t 2188 0) (t 35) (t 36) (t 37) (t 38) a b j ∧ ∃ f, t' = sv t 56 f)) := by
  refine CT_of rfl rfl (Nat.le_of_ble_eq_true rfl) (fun E ht has => ?_)
  have hb := hS.1
  have hS2 : ∀ l, 0 ≤ l → l < t 2188 0 → (0 ≤ t 35 l ∧ t 35 l < t 2184 0) ∧ (0 ≤ t 37 l ∧ t 37 l < t 2184 0) := fun l h0 h1 => ⟨(hS.2 l h0 h1).1, (hS.2 l h0 h1).2.1⟩
  by_cases hab : (0 ≤ a ∧ a < t 2184 0) ∧ (0 ≤ b ∧ b < t 2184 0)
  · obtain ⟨ha, hg⟩ := hab
    have hst := dis_stab (M := 99) (bo := t 38) hb.1 (by omega) hb.2.2.1 hg hS2
    have hC : CI 99 (t 2184 0) (adjP (t 2188 0) (t 35) (t 37) (t 38)) (disF 99 (t 2184 0) (t 2188 0) (t 35) (t 37) (t 38) b) := CI_dis hb.1 (by omega) hb.2.2.1 hg hS2 0 hb.1 (iniD 99 b) (Int.le_refl _) (CI_ini hg)
    unfold stepR stpS
    rw [if_pos (⟨ha, hg⟩ : (0 ≤ a ∧ a < t 2184 0) ∧ (0 ≤ b ∧ b < t 2184 0))]
    have hfar : farR 99 (t 2184 0) (t 2188 0) (t 35) (t 37) (t 38) a b = if disF 99 (t 2184 0) (t 2188 0) (t 35) (t 37) (t 38) b a < t 2184 0 then disF 99 (t 2184 0) (t 2188 0) (t 35) (t 37) (t 38) b a else -2 := by unfold farR; rw [if_pos (⟨ha, hg⟩ : (0 ≤ a ∧ a < t 2184 0) ∧ (0 ≤ b ∧ b < t 2184 0))]
    generalize hFe : disF 99 (t 2184 0) (t 2188 0) (t 35) (t 37) (t 38) b = F at *
    have hFa := CI_lt hb.1 hC ha.1 ha.2
    have hBF : ∀ q, 0 ≤ q → q < t 2184 0 → 0 ≤ F q ∧ F q ≤ 99 := fun q h0 h1 => by have := CI_lt hb.1 hC h0 h1; omega
    obtain ⟨t1, ht1⟩ : ∃ t1, t1 = sv t 56 (glue (t 2184 0) F (t 56)) := ⟨_, rfl⟩
    have e267 : t1 2184 = t 2184 := by rw [ht1, sv_ne (by decide)]
    have e272 : t1 2188 = t 2188 := by rw [ht1, sv_ne (by decide)]
    have e13 : t1 35 = t 35 := by rw [ht1, sv_ne (by decide)]
    have e14 : t1 36 = t 36 := by rw [ht1, sv_ne (by decide)]
    have e15 : t1 37 = t 37 := by rw [ht1, sv_ne (by decide)]
    have e16 : t1 38 = t 38 := by rw [ht1, sv_ne (by decide)]
    have e56 : t1 56 = glue (t 2184 0) F (t 56) := by rw [ht1, sv_at]
    have hS1 : SM t1 := by rw [ht1]; exact SM_sv rfl hS
    have inner : (0 ≤ j ∧ j < F a) → F a ≠ 99 → ∀ i p, 0 ≤ i → i ≤ j → (0 ≤ p ∧ p < t 2184 0) → (∀ o9 : Option MV, G E cX9_step RX9 (some .int) 3 117 [some (mP 31), some (mI a), some (mI b), some (mI j), some (mI (F a)), some (mI p), some (mI (lgS (t 2188 0) (t 35) (t 36) (t 37) (t 38) F p)), some (mI i), some (mI (-1)), o9] [] t1 (fun r t' => ∃ x, r = some (mI x) ∧ ((x = if (0 ≤ j ∧ j < F a) ∧ F a ≠ 99 then lgS (t 2188 0) (t 35) (t 36) (t 37) (t 38) F (posS (t 2188 0) (t 35) (t 36) (t 37) (t 38) F a j) else -2) ∧ ∃ f, t' = sv t 56 f))) →
        ∀ d, -1 ≤ d → ∀ o9 : Option MV, d ≤ 9 → G E cX9_step RX9 (some .int) 3 55 [some (mP 31), some (mI a), some (mI b), some (mI j), some (mI (F a)), some (mI p), some (mI (fst (goodW (t 2188 0) (t 35) (t 36) (t 37) (t 38) F p) (d + 1) 10)), some (mI i), some (mI d), o9] [] t1 (fun r t' => ∃ x, r = some (mI x) ∧ ((x = if (0 ≤ j ∧ j < F a) ∧ F a ≠ 99 then lgS (t 2188 0) (t 35) (t 36) (t 37) (t 38) F (posS (t 2188 0) (t 35) (t 36) (t 37) (t 38) F a j) else -2) ∧ ∃ f, t' = sv t 56 f)) := by
      intro hj hf i p hi0 hij hp hend
      refine down_ind (z := -1) (fun d hd ih o9 hd9 => ?_)
      have hor := outS_r (t 2188 0) (t 35) (t 36) (t 37) (t 38) p d
      have hbr := beyS_r hS p d
      have hpF := hBF p hp.1 hp.2
      refine G_iload (pc := 55) dX9_step_55 rfl ?_
      refine G_if_lt (pc := 57) (tgt := 117) dX9_step_57 rfl (fun h_57 => ?_) (fun h_57 => ?_)
      · have hd1 : d = -1 := by omega
        subst hd1
        exact hend o9
      · refine G_aload_n (pc := 60) dX9_step_60 rfl ?_
        refine G_iload (pc := 61) dX9_step_61 rfl ?_
        refine G_iload (pc := 63) dX9_step_63 rfl ?_
        refine G_cV1 (pc := 65) (c_X9_outOf _ _ _ (by exact hS1)) dX9_step_65 ml_X9_105 rfl rfl rfl (by decide) (Nat.le_of_ble_eq_true rfl) ?_
        rw [e272, e13, e14, e15, e16]
        refine G_istore (pc := 68) dX9_step_68 (Nat.le_of_ble_eq_true rfl) rfl ?_
        refine G_iload (pc := 70) dX9_step_70 rfl ?_
        refine G_if_lt (pc := 72) (tgt := 107) dX9_step_72 rfl (fun h_72 => ?_) (fun h_72 => ?_)
        · have hN : ¬ goodW (t 2188 0) (t 35) (t 36) (t 37) (t 38) F p d := by
            unfold goodW beyS
            rw [if_pos h_72]
            omega
          refine G_iload (pc := 107) dX9_step_107 rfl ?_
          refine G_istore (pc := 109) dX9_step_109 (Nat.le_of_ble_eq_true rfl) rfl ?_
          refine G_iinc (pc := 111) dX9_step_111 rfl rfl (by omega) ?_
          refine G_goto (pc := 114) (tgt := 55) dX9_step_114 rfl ?_
          have h := ih (by omega) (some (mI (outS (t 2188 0) (t 35) (t 36) (t 37) (t 38) p d))) (by omega)
          rw [show d - 1 + 1 = d by omega] at h
          first | (rw [fst_neg (by omega) hN] at h; exact h) | (rw [fst_pos (by omega) hG] at h; exact h)
        · have eb : beyS (t 2188 0) (t 35) (t 36) (t 37) (t 38) p d = endS (t 35) (t 36) (t 37) (outS (t 2188 0) (t 35) (t 36) (t 37) (t 38) p d) p d := by unfold beyS; rw [if_neg h_72]
          have hbe : 0 ≤ beyS (t 2188 0) (t 35) (t 36) (t 37) (t 38) p d ∧ beyS (t 2188 0) (t 35) (t 36) (t 37) (t 38) p d < t 2184 0 := by
            have h9 := hS.2 (outS (t 2188 0) (t 35) (t 36) (t 37) (t 38) p d) (by omega) (by omega)
            rw [eb]
            unfold endS
            split <;> omega
          refine G_aload_n (pc := 75) dX9_step_75 rfl ?_
          refine G_getP (pc := 76) dX9_step_76 fk_X9_83 rfl rfl rfl ?_
          refine G_aload_n (pc := 79) dX9_step_79 rfl ?_
          refine G_iload (pc := 80) dX9_step_80 rfl ?_
          refine G_iload (pc := 82) dX9_step_82 rfl ?_
          refine G_iload (pc := 84) dX9_step_84 rfl ?_
          refine G_cV1 (pc := 86) (c_X9_endOf _ _ _ _ (by omega)) dX9_step_86 ml_X9_116 rfl rfl rfl (by decide) (Nat.le_of_ble_eq_true rfl) ?_
          rw [e13, e14, e15, ← eb]
          refine G_iaload (pc := 89) dX9_step_89 rfl rfl (by omega) ?_
          rw [e56, glue_at (by omega)]
          refine G_aload_n (pc := 90) dX9_step_90 rfl ?_
          refine G_getP (pc := 91) dX9_step_91 fk_X9_83 rfl rfl rfl ?_
          refine G_iload (pc := 94) dX9_step_94 rfl ?_
          refine G_iaload (pc := 96) dX9_step_96 rfl rfl (by omega) ?_
          rw [e56, glue_at hp]
          refine G_iconst (pc := 97) dX9_step_97 (by decide) ?_
          refine G_isub (pc := 98) dX9_step_98 (by omega) ?_
          refine G_icmp_ne (pc := 99) (tgt := 107) dX9_step_99 rfl (fun h_99 => ?_) (fun h_99 => ?_)
          · have hN : ¬ goodW (t 2188 0) (t 35) (t 36) (t 37) (t 38) F p d := by
              unfold goodW
              omega
            refine G_iload (pc := 107) dX9_step_107 rfl ?_
            refine G_istore (pc := 109) dX9_step_109 (Nat.le_of_ble_eq_true rfl) rfl ?_
            refine G_iinc (pc := 111) dX9_step_111 rfl rfl (by omega) ?_
            refine G_goto (pc := 114) (tgt := 55) dX9_step_114 rfl ?_
            have h := ih (by omega) (some (mI (outS (t 2188 0) (t 35) (t 36) (t 37) (t 38) p d))) (by omega)
            rw [show d - 1 + 1 = d by omega] at h
            first | (rw [fst_neg (by omega) hN] at h; exact h) | (rw [fst_pos (by omega) hG] at h; exact h)
          · have hG : goodW (t 2188 0) (t 35) (t 36) (t 37) (t 38) F p d := by
              unfold goodW
              omega
            refine G_iload (pc := 102) dX9_step_102 rfl ?_
            refine G_goto (pc := 104) (tgt := 109) dX9_step_104 rfl ?_
            refine G_istore (pc := 109) dX9_step_109 (Nat.le_of_ble_eq_true rfl) rfl ?_
            refine G_iinc (pc := 111) dX9_step_111 rfl rfl (by omega) ?_
            refine G_goto (pc := 114) (tgt := 55) dX9_step_114 rfl ?_
            have h := ih (by omega) (some (mI (outS (t 2188 0) (t 35) (t 36) (t 37) (t 38) p d))) (by omega)
            rw [show d - 1 + 1 = d by omega] at h
            first | (rw [fst_neg (by omega) hN] at h; exact h) | (rw [fst_pos (by omega) hG] at h; exact h)
    have outer : (0 ≤ j ∧ j < F a) → F a ≠ 99 → ∀ i, i ≤ j + 1 → ∀ (y : Int) (o8 o9 : Option MV), 0 ≤ i → (0 < i → y = lgS (t 2188 0) (t 35) (t 36) (t 37) (t 38) F (posS (t 2188 0) (t 35) (t 36) (t 37) (t 38) F a (i - 1))) → G E cX9_step RX9 (some .int) 3 41 [some (mP 31), some (mI a), some (mI b), some (mI j), some (mI (F a)), some (mI (posS (t 2188 0) (t 35) (t 36) (t 37) (t 38) F a i)), some (mI y), some (mI i), o8, o9] [] t1 (fun r t' => ∃ x, r = some (mI x) ∧ ((x = if (0 ≤ j ∧ j < F a) ∧ F a ≠ 99 then lgS (t 2188 0) (t 35) (t 36) (t 37) (t 38) F (posS (t 2188 0) (t 35) (t 36) (t 37) (t 38) F a j) else -2) ∧ ∃ f, t' = sv t 56 f)) := by
      intro hj hf
      refine up_ind (fun i hi ih y o8 o9 h0 hy => ?_)
      refine G_iload (pc := 41) dX9_step_41 rfl ?_
      refine G_iload_n (pc := 43) dX9_step_43 rfl ?_
      refine G_icmp_gt (pc := 44) (tgt := 141) dX9_step_44 rfl (fun h_44 => ?_) (fun h_44 => ?_)
      · refine G_iload (pc := 141) dX9_step_141 rfl ?_
        exact G_ireturn (pc := 143) dX9_step_143 ⟨_, rfl, by rw [if_pos ⟨hj, hf⟩, hy (by omega), show i - 1 = j by omega], _, ht1⟩
      · refine G_bipush (pc := 47) (x := (-2)) dX9_step_47 rfl (by decide) ?_
        refine G_istore (pc := 49) dX9_step_49 (Nat.le_of_ble_eq_true rfl) rfl ?_
        refine G_bipush (pc := 51) (x := 9) dX9_step_51 rfl (by decide) ?_
        refine G_istore (pc := 53) dX9_step_53 (Nat.le_of_ble_eq_true rfl) rfl ?_
        have hp := pos_ok hb.1 hS hU hC (by omega) hst ha hf i h0 (by omega)
        have hg2 := good_ex hb.1 hS hU hC hst hp.1 (by rw [hp.2]; omega) (by rw [hp.2]; omega)
        have hps := posS_succ (t 2188 0) (t 35) (t 36) (t 37) (t 38) F a h0
        have h := inner hj hf i _ h0 (by omega) hp.1 ?_ 9 (by omega) o9 (by omega)
        · rw [fst_ge (by omega)] at h
          exact h
        intro p9
        generalize hw : lgS (t 2188 0) (t 35) (t 36) (t 37) (t 38) F (posS (t 2188 0) (t 35) (t 36) (t 37) (t 38) F a i) = w at *
        have hor := outS_r (t 2188 0) (t 35) (t 36) (t 37) (t 38) (posS (t 2188 0) (t 35) (t 36) (t 37) (t 38) F a i) w
        have hge : 0 ≤ outS (t 2188 0) (t 35) (t 36) (t 37) (t 38) (posS (t 2188 0) (t 35) (t 36) (t 37) (t 38) F a i) w := by
          rcases hor with q | q
          · have := hg2.2.2.1
            unfold beyS at this
            rw [if_pos (by omega)] at this
            omega
          · exact q.1
        have eb : beyS (t 2188 0) (t 35) (t 36) (t 37) (t 38) (posS (t 2188 0) (t 35) (t 36) (t 37) (t 38) F a i) w = endS (t 35) (t 36) (t 37) (outS (t 2188 0) (t 35) (t 36) (t 37) (t 38) (posS (t 2188 0) (t 35) (t 36) (t 37) (t 38) F a i) w) (posS (t 2188 0) (t 35) (t 36) (t 37) (t 38) F a i) w := by unfold beyS; rw [if_neg (by omega)]
        refine G_aload_n (pc := 117) dX9_step_117 rfl ?_
        refine G_aload_n (pc := 118) dX9_step_118 rfl ?_
        refine G_iload (pc := 119) dX9_step_119 rfl ?_
        refine G_iload (pc := 121) dX9_step_121 rfl ?_
        refine G_cV1 (pc := 123) (c_X9_outOf _ _ _ hS1) dX9_step_123 ml_X9_105 rfl rfl rfl (by decide) (Nat.le_of_ble_eq_true rfl) ?_
        rw [e272, e13, e14, e15, e16]
        refine G_iload (pc := 126) dX9_step_126 rfl ?_
        refine G_iload (pc := 128) dX9_step_128 rfl ?_
        refine G_cV1 (pc := 130) (c_X9_endOf _ _ _ _ (by omega)) dX9_step_130 ml_X9_116 rfl rfl rfl (by decide) (Nat.le_of_ble_eq_true rfl) ?_
        rw [e13, e14, e15, ← eb, ← hps]
        refine G_istore (pc := 133) dX9_step_133 (Nat.le_of_ble_eq_true rfl) rfl ?_
        refine G_iinc (pc := 135) dX9_step_135 rfl rfl (by omega) ?_
        refine G_goto (pc := 138) (tgt := 41) dX9_step_138 rfl ?_
        exact ih (by omega) w _ _ (by omega) (fun _ => by rw [show i + 1 - 1 = i by omega]; exact hw.symm)
    refine G_aload_n (pc := 0) dX9_step_0 rfl ?_
    refine G_iload_n (pc := 1) dX9_step_1 rfl ?_
    refine G_iload_n (pc := 2) dX9_step_2 rfl ?_
    refine G_cV1 (pc := 3) (c_X9_far _ _ _ (by exact hS)) dX9_step_3 ml_X9_233 rfl rfl rfl (by decide) (Nat.le_of_ble_eq_true rfl) ?_
    rw [if_pos (⟨ha, hg⟩ : (0 ≤ a ∧ a < t 2184 0) ∧ (0 ≤ b ∧ b < t 2184 0)), hFe, ← ht1, hfar]
    refine G_istore (pc := 6) dX9_step_6 (Nat.le_of_ble_eq_true rfl) rfl ?_
    refine G_iload (pc := 8) dX9_step_8 rfl ?_
    refine G_if_ge (pc := 10) (tgt := 16) dX9_step_10 rfl (fun h_10 => ?_) (fun h_10 => ?_)
    · have hlt : F a < t 2184 0 := by
        by_cases q : F a < t 2184 0
        · exact q
        · rw [if_neg q] at h_10; omega
      rw [if_pos hlt]
      refine G_iload_n (pc := 16) dX9_step_16 rfl ?_
      refine G_iconst (pc := 17) dX9_step_17 (by decide) ?_
      refine G_iload (pc := 18) dX9_step_18 rfl ?_
      refine G_iconst (pc := 20) dX9_step_20 (by decide) ?_
      refine G_isub (pc := 21) dX9_step_21 (by omega) ?_
      refine G_cS1 (pc := 22) (c_X9_in _ _ _ _) dX9_step_22 ml_X9_90 rfl (by decide) (Nat.le_of_ble_eq_true rfl) ?_
      refine G_if_ne (pc := 25) (tgt := 31) dX9_step_25 rfl (fun h_25 => ?_) (fun h_25 => ?_)
      · try simp only [bq0, ne_eq, Classical.not_not] at h_25
        refine G_iload_n (pc := 31) dX9_step_31 rfl ?_
        refine G_istore (pc := 32) dX9_step_32 (Nat.le_of_ble_eq_true rfl) rfl ?_
        refine G_bipush (pc := 34) (x := (-2)) dX9_step_34 rfl (by decide) ?_
        refine G_istore (pc := 36) dX9_step_36 (Nat.le_of_ble_eq_true rfl) rfl ?_
        refine G_iconst (pc := 38) dX9_step_38 (by decide) ?_
        refine G_istore (pc := 39) dX9_step_39 (Nat.le_of_ble_eq_true rfl) rfl ?_
        have h := outer (by omega) (by omega) 0 (by omega) (-2) none none (by omega) (fun q => by omega)
        rw [posS_0] at h
        exact h
      · try simp only [bq0, ne_eq, Classical.not_not] at h_25
        refine G_bipush (pc := 28) (x := (-2)) dX9_step_28 rfl (by decide) ?_
        exact G_ireturn (pc := 30) dX9_step_30 ⟨_, rfl, by rw [if_neg (by omega)], _, ht1⟩
    · refine G_iload (pc := 13) dX9_step_13 rfl ?_
      exact G_ireturn (pc := 15) dX9_step_15 ⟨_, rfl, by (rcases hFa with q | q; (rw [if_neg (by omega), if_neg (by omega)]); (rw [if_pos (by omega)] at h_10; exact absurd q.1 h_10)), _, ht1⟩
  · have hfar : farR 99 (t 2184 0) (t 2188 0) (t 35) (t 37) (t 38) a b = -1 := by unfold farR; rw [if_neg hab]
    unfold stepR
    rw [if_neg hab]
    refine G_aload_n (pc := 0) dX9_step_0 rfl ?_
    refine G_iload_n (pc := 1) dX9_step_1 rfl ?_
    refine G_iload_n (pc := 2) dX9_step_2 rfl ?_
    refine G_cV1 (pc := 3) (c_X9_far _ _ _ (by exact hS)) dX9_step_3 ml_X9_233 rfl rfl rfl (by decide) (Nat.le_of_ble_eq_true rfl) ?_
    rw [if_neg hab, hfar]
    refine G_istore (pc := 6) dX9_step_6 (Nat.le_of_ble_eq_true rfl) rfl ?_
    refine G_iload (pc := 8) dX9_step_8 rfl ?_
    refine G_if_ge (pc := 10) (tgt := 16) dX9_step_10 rfl (fun h_10 => ?_) (fun h_10 => ?_)
    · exact absurd h_10 (by decide)
    · refine G_iload (pc := 13) dX9_step_13 rfl ?_
      exact G_ireturn (pc := 15) dX9_step_15 ⟨_, rfl, rfl, t 56, (sv_id t 56).symm⟩
