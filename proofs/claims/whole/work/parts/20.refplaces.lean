/-! PLACES: the reference -/
theorem c_X9_isLoop (t : Sto) (l : Int) (h : 0 ≤ l ∧ l < 60) : CT yX9_isLoop cX9_isLoop 2 (some .boolean) 0 [mP 31, mI l] t (fun a t' => a = some (mI (if t 35 l = t 37 l then 1 else 0)) ∧ t' = t) := by
  refine CT_of rfl rfl (Nat.le_of_ble_eq_true rfl) (fun E ht has => ?_)
  refine G_aload_n (pc := 0) dX9_isLoop_0 rfl ?_
  refine G_getP (pc := 1) dX9_isLoop_1 fk_X9_19 rfl rfl rfl ?_
  refine G_iload_n (pc := 4) dX9_isLoop_4 rfl ?_
  refine G_iaload (pc := 5) dX9_isLoop_5 rfl rfl (by omega) ?_
  refine G_aload_n (pc := 6) dX9_isLoop_6 rfl ?_
  refine G_getP (pc := 7) dX9_isLoop_7 fk_X9_25 rfl rfl rfl ?_
  refine G_iload_n (pc := 10) dX9_isLoop_10 rfl ?_
  refine G_iaload (pc := 11) dX9_isLoop_11 rfl rfl (by omega) ?_
  refine G_icmp_ne (pc := 12) (tgt := 19) dX9_isLoop_12 rfl (fun h_12 => ?_) (fun h_12 => ?_)
  · refine G_iconst (pc := 19) dX9_isLoop_19 (by decide) ?_
    exact G_zreturn (pc := 20) dX9_isLoop_20 (by first | exact Or.inl rfl | exact Or.inr rfl | omega | (split <;> first | exact Or.inl rfl | exact Or.inr rfl)) (qeq (by first | rfl | omega | (split <;> omega) | grind))
  · refine G_iconst (pc := 15) dX9_isLoop_15 (by decide) ?_
    refine G_goto (pc := 16) (tgt := 20) dX9_isLoop_16 rfl ?_
    exact G_zreturn (pc := 20) dX9_isLoop_20 (by first | exact Or.inl rfl | exact Or.inr rfl | omega | (split <;> first | exact Or.inl rfl | exact Or.inr rfl)) (qeq (by first | rfl | omega | (split <;> omega) | grind))
theorem c_X9_at (t : Sto) (x y l : Int) (hn : 0 ≤ t 2184 0 ∧ t 2184 0 ≤ 24) : CT yX9_at cX9_at 5 (some .int) 0 [mP 31, mI x, mI y, mI l] t (fun a t' => a = some (mI (atS (t 2184 0) (t 46) (t 47) (t 48) (t 49) x y l)) ∧ t' = t) := by
  refine CT_of rfl rfl (Nat.le_of_ble_eq_true rfl) (fun E ht has => ?_)
  have loop : ∀ r, r ≤ t 2184 0 → 0 ≤ r → fst (atP (t 46) (t 47) (t 48) (t 49) x y l) r (t 2184 0) = atS (t 2184 0) (t 46) (t 47) (t 48) (t 49) x y l → G E cX9_at RX9 (some .int) 0 3 [some (mP 31), some (mI x), some (mI y), some (mI l), some (mI r)] [] t (fun a t' => a = some (mI (atS (t 2184 0) (t 46) (t 47) (t 48) (t 49) x y l)) ∧ t' = t) := by
    refine up_ind (fun r hr ih h0 hX => ?_)
    refine G_iload (pc := 3) dX9_at_3 rfl ?_
    refine G_aload_n (pc := 5) dX9_at_5 rfl ?_
    refine G_getI (pc := 6) dX9_at_6 fk_X9_86 rfl rfl rfl ?_
    refine G_icmp_ge (pc := 9) (tgt := 64) dX9_at_9 rfl (fun h_9 => ?_) (fun h_9 => ?_)
    · refine G_bipush (pc := 64) (x := (-2)) dX9_at_64 rfl (by decide) ?_
      exact G_ireturn (pc := 66) dX9_at_66 (qeq (by rw [fst_ge (by omega)] at hX; exact hX))
    · refine G_aload_n (pc := 12) dX9_at_12 rfl ?_
      refine G_getP (pc := 13) dX9_at_13 fk_X9_53 rfl rfl rfl ?_
      refine G_iload (pc := 16) dX9_at_16 rfl ?_
      refine G_baload (pc := 18) dX9_at_18 rfl rfl (by omega) ?_
      refine G_if_eq (pc := 19) (tgt := 58) dX9_at_19 rfl (fun h_19 => ?_) (fun h_19 => ?_)
      · try simp only [bq0, ne_eq, Classical.not_not] at h_19
        refine G_iinc (pc := 58) dX9_at_58 rfl rfl (by omega) ?_
        refine G_goto (pc := 61) (tgt := 3) dX9_at_61 rfl ?_
        exact ih (by omega) (by omega) ((fst_neg (by omega) (by unfold atP; omega)).symm.trans hX)
      · try simp only [bq0, ne_eq, Classical.not_not] at h_19
        refine G_aload_n (pc := 22) dX9_at_22 rfl ?_
        refine G_getP (pc := 23) dX9_at_23 fk_X9_56 rfl rfl rfl ?_
        refine G_iload (pc := 26) dX9_at_26 rfl ?_
        refine G_iaload (pc := 28) dX9_at_28 rfl rfl (by omega) ?_
        refine G_iload_n (pc := 29) dX9_at_29 rfl ?_
        refine G_icmp_ne (pc := 30) (tgt := 58) dX9_at_30 rfl (fun h_30 => ?_) (fun h_30 => ?_)
        · refine G_iinc (pc := 58) dX9_at_58 rfl rfl (by omega) ?_
          refine G_goto (pc := 61) (tgt := 3) dX9_at_61 rfl ?_
          exact ih (by omega) (by omega) ((fst_neg (by omega) (by unfold atP; omega)).symm.trans hX)
        · refine G_aload_n (pc := 33) dX9_at_33 rfl ?_
          refine G_getP (pc := 34) dX9_at_34 fk_X9_59 rfl rfl rfl ?_
          refine G_iload (pc := 37) dX9_at_37 rfl ?_
          refine G_iaload (pc := 39) dX9_at_39 rfl rfl (by omega) ?_
          refine G_iload_n (pc := 40) dX9_at_40 rfl ?_
          refine G_icmp_ne (pc := 41) (tgt := 58) dX9_at_41 rfl (fun h_41 => ?_) (fun h_41 => ?_)
          · refine G_iinc (pc := 58) dX9_at_58 rfl rfl (by omega) ?_
            refine G_goto (pc := 61) (tgt := 3) dX9_at_61 rfl ?_
            exact ih (by omega) (by omega) ((fst_neg (by omega) (by unfold atP; omega)).symm.trans hX)
          · refine G_aload_n (pc := 44) dX9_at_44 rfl ?_
            refine G_getP (pc := 45) dX9_at_45 fk_X9_62 rfl rfl rfl ?_
            refine G_iload (pc := 48) dX9_at_48 rfl ?_
            refine G_iaload (pc := 50) dX9_at_50 rfl rfl (by omega) ?_
            refine G_iload_n (pc := 51) dX9_at_51 rfl ?_
            refine G_icmp_ne (pc := 52) (tgt := 58) dX9_at_52 rfl (fun h_52 => ?_) (fun h_52 => ?_)
            · refine G_iinc (pc := 58) dX9_at_58 rfl rfl (by omega) ?_
              refine G_goto (pc := 61) (tgt := 3) dX9_at_61 rfl ?_
              exact ih (by omega) (by omega) ((fst_neg (by omega) (by unfold atP; omega)).symm.trans hX)
            · refine G_iload (pc := 55) dX9_at_55 rfl ?_
              exact G_ireturn (pc := 57) dX9_at_57 (qeq (by rw [fst_pos (by omega) (by unfold atP; exact ⟨h_19, h_30, h_41, h_52⟩)] at hX; exact hX))
  refine G_iconst (pc := 0) dX9_at_0 (by decide) ?_
  refine G_istore (pc := 1) dX9_at_1 (Nat.le_of_ble_eq_true rfl) rfl ?_
  exact loop 0 (by omega) (by omega) rfl
def standM (t : Sto) (r x y l : Int) : Sto := su (su (su (su t 46 r 1) 47 r x) 48 r y) 49 r l
theorem c_X9_stand (t : Sto) (r x y l : Int) (hr : 0 ≤ r ∧ r < 24) : CT yX9_stand cX9_stand 5 none 0 [mP 31, mI r, mI x, mI y, mI l] t (fun a t' => a = none ∧ t' = standM t r x y l) := by
  refine CT_of rfl rfl (Nat.le_of_ble_eq_true rfl) (fun E ht has => ?_)
  refine G_aload_n (pc := 0) dX9_stand_0 rfl ?_
  refine G_getP (pc := 1) dX9_stand_1 fk_X9_53 rfl rfl rfl ?_
  refine G_iload_n (pc := 4) dX9_stand_4 rfl ?_
  refine G_iconst (pc := 5) dX9_stand_5 (by decide) ?_
  refine G_bastore (pc := 6) dX9_stand_6 rfl rfl (by omega) (by first | exact Or.inl rfl | exact Or.inr rfl | omega) ?_
  refine G_aload_n (pc := 7) dX9_stand_7 rfl ?_
  refine G_getP (pc := 8) dX9_stand_8 fk_X9_56 rfl rfl rfl ?_
  refine G_iload_n (pc := 11) dX9_stand_11 rfl ?_
  refine G_iload_n (pc := 12) dX9_stand_12 rfl ?_
  refine G_iastore (pc := 13) dX9_stand_13 rfl rfl (by omega) ?_
  refine G_aload_n (pc := 14) dX9_stand_14 rfl ?_
  refine G_getP (pc := 15) dX9_stand_15 fk_X9_59 rfl rfl rfl ?_
  refine G_iload_n (pc := 18) dX9_stand_18 rfl ?_
  refine G_iload_n (pc := 19) dX9_stand_19 rfl ?_
  refine G_iastore (pc := 20) dX9_stand_20 rfl rfl (by omega) ?_
  refine G_aload_n (pc := 21) dX9_stand_21 rfl ?_
  refine G_getP (pc := 22) dX9_stand_22 fk_X9_62 rfl rfl rfl ?_
  refine G_iload_n (pc := 25) dX9_stand_25 rfl ?_
  refine G_iload (pc := 26) dX9_stand_26 rfl ?_
  refine G_iastore (pc := 28) dX9_stand_28 rfl rfl (by omega) ?_
  exact G_return (pc := 29) dX9_stand_29 ⟨rfl, rfl⟩
def fk0 (xs ys : Int → Int) (a w px py : Int) : Int := (px - xs a) * eaI w + (py - ys a) * soI w
def fk1 (xs ys : Int → Int) (a w px py : Int) : Int := if w.tmod 2 = 1 then (fk0 xs ys a w px py).tdiv 2 else fk0 xs ys a w px py
def farS (xs ys : Int → Int) (a w px py : Int) : Int := if 0 < fk1 xs ys a w px py ∧ px - xs a = fk1 xs ys a w px py * eaI w ∧ py - ys a = fk1 xs ys a w px py * soI w then fk1 xs ys a w px py else 0
theorem td2 (x : Int) : (0 ≤ x → 2 * x.tdiv 2 ≤ x ∧ x ≤ 2 * x.tdiv 2 + 1) ∧ (x < 0 → x.tdiv 2 ≤ 0 ∧ x ≤ x.tdiv 2) := by
  constructor
  · intro h
    rw [Int.tdiv_eq_ediv_of_nonneg h]
    omega
  · intro h
    have e : x.tdiv 2 = -((-x).tdiv 2) := by rw [Int.neg_tdiv, Int.neg_neg]
    have h1 : 0 ≤ (-x).tdiv 2 := Int.tdiv_nonneg (by omega) (by omega)
    have h2 : (-x).tdiv 2 ≤ -x := Int.tdiv_le_self _ (by omega)
    omega
theorem fk1_r {xs ys : Int → Int} {a w px py : Int} (hw : 0 ≤ w ∧ w ≤ 9) (hX : BD xs) (hY : BD ys) (hx : -1000000 ≤ px ∧ px ≤ 1000000) (hy : -1000000 ≤ py ∧ py ≤ 1000000) : -4000000 ≤ fk1 xs ys a w px py ∧ fk1 xs ys a w px py ≤ 4000000 := by
  have h1 := mul_r (x := px - xs a) (B := 2000000) (eaI_r hw) (by have := hX a; omega)
  have h2 := mul_r (x := py - ys a) (B := 2000000) (soI_r hw) (by have := hY a; omega)
  have h3 := td2 (fk0 xs ys a w px py)
  unfold fk1
  unfold fk0 at *
  split <;> omega
theorem far_dist {xs ys ls : Int → Int} {a w b : Int} (hw : 0 ≤ w ∧ w ≤ 7) : distS xs ys ls a w b = if ls a = ls b ∧ farS xs ys a w (xs b) (ys b) ≤ 60 then farS xs ys a w (xs b) (ys b) else 0 := by
  have h3 := td2 (fk0 xs ys a w (xs b) (ys b))
  unfold distS dlS farS fk1
  unfold fk0 at *
  rcases (show w = 0 ∨ w = 1 ∨ w = 2 ∨ w = 3 ∨ w = 4 ∨ w = 5 ∨ w = 6 ∨ w = 7 by omega) with rfl | rfl | rfl | rfl | rfl | rfl | rfl | rfl
  · simp only [show eaI 0 = 0 from rfl, show soI 0 = -1 from rfl, show riI 0 = 0 from rfl, show (0 : Int).tmod 2 = 0 from rfl] at *
    grind
  · simp only [show eaI 1 = 1 from rfl, show soI 1 = -1 from rfl, show riI 1 = 0 from rfl, show (1 : Int).tmod 2 = 1 from rfl] at *
    generalize ((xs b - xs a) * 1 + (ys b - ys a) * -1).tdiv 2 = k at *
    grind
  · simp only [show eaI 2 = 1 from rfl, show soI 2 = 0 from rfl, show riI 2 = 0 from rfl, show (2 : Int).tmod 2 = 0 from rfl] at *
    grind
  · simp only [show eaI 3 = 1 from rfl, show soI 3 = 1 from rfl, show riI 3 = 0 from rfl, show (3 : Int).tmod 2 = 1 from rfl] at *
    generalize ((xs b - xs a) * 1 + (ys b - ys a) * 1).tdiv 2 = k at *
    grind
  · simp only [show eaI 4 = 0 from rfl, show soI 4 = 1 from rfl, show riI 4 = 0 from rfl, show (4 : Int).tmod 2 = 0 from rfl] at *
    grind
  · simp only [show eaI 5 = -1 from rfl, show soI 5 = 1 from rfl, show riI 5 = 0 from rfl, show (5 : Int).tmod 2 = 1 from rfl] at *
    generalize ((xs b - xs a) * -1 + (ys b - ys a) * 1).tdiv 2 = k at *
    grind
  · simp only [show eaI 6 = -1 from rfl, show soI 6 = 0 from rfl, show riI 6 = 0 from rfl, show (6 : Int).tmod 2 = 0 from rfl] at *
    grind
  · simp only [show eaI 7 = -1 from rfl, show soI 7 = -1 from rfl, show riI 7 = 0 from rfl, show (7 : Int).tmod 2 = 1 from rfl] at *
    generalize ((xs b - xs a) * -1 + (ys b - ys a) * -1).tdiv 2 = k at *
    grind
theorem c_X9_farBy (t : Sto) (a w px py : Int) (ha : 0 ≤ a ∧ a < 24) (hw : 0 ≤ w ∧ w ≤ 9) (hX : BD (t 47)) (hY : BD (t 48)) (hx : -1000000 ≤ px ∧ px ≤ 1000000) (hy : -1000000 ≤ py ∧ py ≤ 1000000) : CT yX9_farBy cX9_farBy 8 (some .int) 2 [mP 31, mI a, mI w, mI px, mI py] t (fun r t' => r = some (mI (farS (t 47) (t 48) a w px py)) ∧ t' = t) := by
  refine CT_of rfl rfl (Nat.le_of_ble_eq_true rfl) (fun E ht has => ?_)
  have h1 := mul_r (x := px - t 47 a) (B := 2000000) (eaI_r hw) (by have := hX a; omega)
  have h2 := mul_r (x := py - t 48 a) (B := 2000000) (soI_r hw) (by have := hY a; omega)
  have h3 := fk1_r (a := a) hw hX hY hx hy
  have h4 := mul_r (x := fk1 (t 47) (t 48) a w px py) (B := 4000000) (eaI_r hw) h3
  have h5 := mul_r (x := fk1 (t 47) (t 48) a w px py) (B := 4000000) (soI_r hw) h3
  have hxa := hX a
  have hya := hY a
  refine G_iload_n (pc := 0) dX9_farBy_0 rfl ?_
  refine G_aload_n (pc := 1) dX9_farBy_1 rfl ?_
  refine G_getP (pc := 2) dX9_farBy_2 fk_X9_56 rfl rfl rfl ?_
  refine G_iload_n (pc := 5) dX9_farBy_5 rfl ?_
  refine G_iaload (pc := 6) dX9_farBy_6 rfl rfl (by omega) ?_
  refine G_isub (pc := 7) dX9_farBy_7 (by omega) ?_
  refine G_istore (pc := 8) dX9_farBy_8 (Nat.le_of_ble_eq_true rfl) rfl ?_
  refine G_iload (pc := 10) dX9_farBy_10 rfl ?_
  refine G_aload_n (pc := 12) dX9_farBy_12 rfl ?_
  refine G_getP (pc := 13) dX9_farBy_13 fk_X9_59 rfl rfl rfl ?_
  refine G_iload_n (pc := 16) dX9_farBy_16 rfl ?_
  refine G_iaload (pc := 17) dX9_farBy_17 rfl rfl (by omega) ?_
  refine G_isub (pc := 18) dX9_farBy_18 (by omega) ?_
  refine G_istore (pc := 19) dX9_farBy_19 (Nat.le_of_ble_eq_true rfl) rfl ?_
  refine G_iload (pc := 21) dX9_farBy_21 rfl ?_
  refine G_iload_n (pc := 23) dX9_farBy_23 rfl ?_
  refine G_cS1 (pc := 24) (c_X9_east _ _ (by omega)) dX9_farBy_24 ml_X9_132 rfl (by decide) (Nat.le_of_ble_eq_true rfl) ?_
  refine G_imul (pc := 27) dX9_farBy_27 (by omega) ?_
  refine G_iload (pc := 28) dX9_farBy_28 rfl ?_
  refine G_iload_n (pc := 30) dX9_farBy_30 rfl ?_
  refine G_cS1 (pc := 31) (c_X9_south _ _ (by omega)) dX9_farBy_31 ml_X9_135 rfl (by decide) (Nat.le_of_ble_eq_true rfl) ?_
  refine G_imul (pc := 34) dX9_farBy_34 (by omega) ?_
  refine G_iadd (pc := 35) dX9_farBy_35 (by omega) ?_
  refine G_istore (pc := 36) dX9_farBy_36 (Nat.le_of_ble_eq_true rfl) rfl ?_
  refine G_join (pc := 38) (P := fun v => v = fk1 (t 47) (t 48) a w px py) 54 (fun v_54 hv_54 => ?_) (fun j_54 => ?_)
  · rw [hv_54]
    refine G_istore (pc := 54) dX9_farBy_54 (Nat.le_of_ble_eq_true rfl) rfl ?_
    refine G_iload (pc := 56) dX9_farBy_56 rfl ?_
    refine G_if_le (pc := 58) (tgt := 90) dX9_farBy_58 rfl (fun h_58 => ?_) (fun h_58 => ?_)
    · refine G_iconst (pc := 90) dX9_farBy_90 (by decide) ?_
      exact G_ireturn (pc := 91) dX9_farBy_91 (qeq (by unfold farS; grind))
    · refine G_iload (pc := 61) dX9_farBy_61 rfl ?_
      refine G_iload (pc := 63) dX9_farBy_63 rfl ?_
      refine G_iload_n (pc := 65) dX9_farBy_65 rfl ?_
      refine G_cS1 (pc := 66) (c_X9_east _ _ (by omega)) dX9_farBy_66 ml_X9_132 rfl (by decide) (Nat.le_of_ble_eq_true rfl) ?_
      refine G_imul (pc := 69) dX9_farBy_69 (by omega) ?_
      refine G_icmp_ne (pc := 70) (tgt := 90) dX9_farBy_70 rfl (fun h_70 => ?_) (fun h_70 => ?_)
      · refine G_iconst (pc := 90) dX9_farBy_90 (by decide) ?_
        exact G_ireturn (pc := 91) dX9_farBy_91 (qeq (by unfold farS; grind))
      · refine G_iload (pc := 73) dX9_farBy_73 rfl ?_
        refine G_iload (pc := 75) dX9_farBy_75 rfl ?_
        refine G_iload_n (pc := 77) dX9_farBy_77 rfl ?_
        refine G_cS1 (pc := 78) (c_X9_south _ _ (by omega)) dX9_farBy_78 ml_X9_135 rfl (by decide) (Nat.le_of_ble_eq_true rfl) ?_
        refine G_imul (pc := 81) dX9_farBy_81 (by omega) ?_
        refine G_icmp_ne (pc := 82) (tgt := 90) dX9_farBy_82 rfl (fun h_82 => ?_) (fun h_82 => ?_)
        · refine G_iconst (pc := 90) dX9_farBy_90 (by decide) ?_
          exact G_ireturn (pc := 91) dX9_farBy_91 (qeq (by unfold farS; grind))
        · refine G_iload (pc := 85) dX9_farBy_85 rfl ?_
          refine G_goto (pc := 87) (tgt := 91) dX9_farBy_87 rfl ?_
          exact G_ireturn (pc := 91) dX9_farBy_91 (qeq (by unfold farS; grind))
  · refine G_iload_n (pc := 38) dX9_farBy_38 rfl ?_
    refine G_iconst (pc := 39) dX9_farBy_39 (by decide) ?_
    refine G_irem (pc := 40) dX9_farBy_40 (by decide) ?_
    refine G_iconst (pc := 41) dX9_farBy_41 (by decide) ?_
    refine G_icmp_ne (pc := 42) (tgt := 52) dX9_farBy_42 rfl (fun h_42 => ?_) (fun h_42 => ?_)
    · refine G_iload (pc := 52) dX9_farBy_52 rfl ?_
      exact j_54 _ (by unfold fk1 fk0; grind)
    · refine G_iload (pc := 45) dX9_farBy_45 rfl ?_
      refine G_iconst (pc := 47) dX9_farBy_47 (by decide) ?_
      refine G_idiv (pc := 48) dX9_farBy_48 (by decide) ?_
      refine G_goto (pc := 49) (tgt := 54) dX9_farBy_49 rfl ?_
      exact j_54 _ (by unfold fk1 fk0; grind)
theorem c_X9_straightBy (t : Sto) (l : Int) (hS : SM t) (hl : 0 ≤ l ∧ l < t 2188 0) (hX : BD (t 47)) (hY : BD (t 48)) (hL : BD (t 49)) : CT yX9_straightBy cX9_straightBy 8 (some .int) 3 [mP 31, mI l] t (fun a t' => a = some (mI (strS (t 2184 0) (t 46) (t 47) (t 48) (t 49) (t 35 l) (t 36 l) (t 37 l))) ∧ t' = t) := by
  refine CT_of rfl rfl (Nat.le_of_ble_eq_true rfl) (fun E ht has => ?_)
  have hb := hS.1
  obtain ⟨hfr, hto, hdi, -⟩ := hS.2 l hl.1 hl.2
  obtain ⟨d, hd⟩ : ∃ d, d = distS (t 47) (t 48) (t 49) (t 35 l) (t 36 l) (t 37 l) := ⟨_, rfl⟩
  obtain ⟨res, hres⟩ : ∃ res, res = strS (t 2184 0) (t 46) (t 47) (t 48) (t 49) (t 35 l) (t 36 l) (t 37 l) := ⟨_, rfl⟩
  have hres2 := hres
  unfold strS at hres2
  rw [← hd] at hres2
  rw [← hres]
  have hd2 := hd
  have hri := riI_r hdi
  have hLa := hL (t 35 l)
  have hLb := hL (t 37 l)
  have hd60 := distS_r (t 47) (t 48) (t 49) (t 35 l) (t 36 l) (t 37 l)
  have loop : t 36 l ≤ 7 → ∀ r, r ≤ t 2184 0 → ∀ (f : Int) (o7 : Option MV), 0 ≤ r → ((f = d ∧ fst (nearP (t 46) (t 47) (t 48) (t 49) (t 35 l) (t 36 l) d) r (t 2184 0) = fst (nearP (t 46) (t 47) (t 48) (t 49) (t 35 l) (t 36 l) d) 0 (t 2184 0)) ∨ (f = 0 ∧ res = 0)) → G E cX9_straightBy RX9 (some .int) 3 141 [some (mP 31), some (mI l), some (mI (t 36 l)), some (mI (t 35 l)), some (mI (t 37 l)), some (mI f), some (mI r), o7] [] t (fun a t' => a = some (mI res) ∧ t' = t) := by
    intro hw7
    refine up_ind (fun r hr ih f o7 h0 hF => ?_)
    have hfd := far_dist (xs := t 47) (ys := t 48) (ls := t 49) (a := t 35 l) (w := t 36 l) (b := r) (by omega)
    refine G_iload (pc := 141) dX9_straightBy_141 rfl ?_
    refine G_aload_n (pc := 143) dX9_straightBy_143 rfl ?_
    refine G_getI (pc := 144) dX9_straightBy_144 fk_X9_86 rfl rfl rfl ?_
    refine G_icmp_ge (pc := 147) (tgt := 234) dX9_straightBy_147 rfl (fun h_147 => ?_) (fun h_147 => ?_)
    · refine G_iload (pc := 234) dX9_straightBy_234 rfl ?_
      exact G_ireturn (pc := 236) dX9_straightBy_236 (qeq (by
        rcases hF with ⟨q1, q2⟩ | ⟨q1, q2⟩
        · rw [hres2, if_neg, q1]
          intro q
          rw [← q2] at q
          rcases Int.lt_or_le r (t 2184 0) with h9 | h9
          · omega
          · rw [fst_ge h9] at q; omega
        · omega))
    · refine G_iload (pc := 150) dX9_straightBy_150 rfl ?_
      refine G_iconst (pc := 152) dX9_straightBy_152 (by decide) ?_
      refine G_icmp_le (pc := 153) (tgt := 234) dX9_straightBy_153 rfl (fun h_153 => ?_) (fun h_153 => ?_)
      · refine G_iload (pc := 234) dX9_straightBy_234 rfl ?_
        exact G_ireturn (pc := 236) dX9_straightBy_236 (qeq (by
          rcases hF with ⟨q1, q2⟩ | ⟨q1, q2⟩
          · rw [hres2, if_neg, q1]
            intro q
            rw [← q2] at q
            rcases Int.lt_or_le r (t 2184 0) with h9 | h9
            · omega
            · rw [fst_ge h9] at q; omega
          · omega))
      · obtain ⟨hfd1, hF1⟩ : f = d ∧ fst (nearP (t 46) (t 47) (t 48) (t 49) (t 35 l) (t 36 l) d) r (t 2184 0) = fst (nearP (t 46) (t 47) (t 48) (t 49) (t 35 l) (t 36 l) d) 0 (t 2184 0) := by
          rcases hF with h | h
          · exact h
          · omega
        refine G_join (pc := 156) (P := fun v => v = (if t 46 r ≠ 0 ∧ t 49 (t 35 l) = t 49 r then farS (t 47) (t 48) (t 35 l) (t 36 l) (t 47 r) (t 48 r) else 0)) 206 (fun v_206 hv_206 => ?_) (fun j_206 => ?_)
        · refine G_istore (pc := 206) dX9_straightBy_206 (Nat.le_of_ble_eq_true rfl) rfl ?_
          refine G_join (pc := 208) (P := fun v => v = (if 0 < v_206 ∧ v_206 < f then 0 else f)) 226 (fun v_226 hv_226 => ?_) (fun j_226 => ?_)
          · refine G_istore (pc := 226) dX9_straightBy_226 (Nat.le_of_ble_eq_true rfl) rfl ?_
            refine G_iinc (pc := 228) dX9_straightBy_228 rfl rfl (by omega) ?_
            refine G_goto (pc := 231) (tgt := 141) dX9_straightBy_231 rfl ?_
            refine ih (by omega) _ _ (by omega) ?_
            rw [hv_226]
            by_cases hnr : 0 < v_206 ∧ v_206 < f
            · rw [if_pos hnr]
              right
              refine ⟨rfl, ?_⟩
              have hN : nearP (t 46) (t 47) (t 48) (t 49) (t 35 l) (t 36 l) d r := by unfold nearP; grind
              rw [fst_pos (by omega) hN] at hF1
              rw [hres2, if_pos ⟨by omega, by omega⟩]
            · rw [if_neg hnr]
              left
              refine ⟨hfd1, (fst_neg (by omega) ?_).symm.trans hF1⟩
              unfold nearP; grind
          · refine G_iload (pc := 208) dX9_straightBy_208 rfl ?_
            refine G_if_le (pc := 210) (tgt := 224) dX9_straightBy_210 rfl (fun h_210 => ?_) (fun h_210 => ?_)
            · refine G_iload (pc := 224) dX9_straightBy_224 rfl ?_
              exact j_226 _ (by grind)
            · refine G_iload (pc := 213) dX9_straightBy_213 rfl ?_
              refine G_iload (pc := 215) dX9_straightBy_215 rfl ?_
              refine G_icmp_ge (pc := 217) (tgt := 224) dX9_straightBy_217 rfl (fun h_217 => ?_) (fun h_217 => ?_)
              · refine G_iload (pc := 224) dX9_straightBy_224 rfl ?_
                exact j_226 _ (by grind)
              · refine G_iconst (pc := 220) dX9_straightBy_220 (by decide) ?_
                refine G_goto (pc := 221) (tgt := 226) dX9_straightBy_221 rfl ?_
                exact j_226 _ (by grind)
        · obtain ⟨hfd1, hF1⟩ : f = d ∧ fst (nearP (t 46) (t 47) (t 48) (t 49) (t 35 l) (t 36 l) d) r (t 2184 0) = fst (nearP (t 46) (t 47) (t 48) (t 49) (t 35 l) (t 36 l) d) 0 (t 2184 0) := by
            rcases hF with h | h
            · exact h
            · omega
          refine G_aload_n (pc := 156) dX9_straightBy_156 rfl ?_
          refine G_getP (pc := 157) dX9_straightBy_157 fk_X9_53 rfl rfl rfl ?_
          refine G_iload (pc := 160) dX9_straightBy_160 rfl ?_
          refine G_baload (pc := 162) dX9_straightBy_162 rfl rfl (by omega) ?_
          refine G_if_eq (pc := 163) (tgt := 205) dX9_straightBy_163 rfl (fun h_163 => ?_) (fun h_163 => ?_)
          · try simp only [bq0, ne_eq, Classical.not_not] at h_163
            refine G_iconst (pc := 205) dX9_straightBy_205 (by decide) ?_
            exact j_206 _ (by grind)
          · try simp only [bq0, ne_eq, Classical.not_not] at h_163
            refine G_aload_n (pc := 166) dX9_straightBy_166 rfl ?_
            refine G_getP (pc := 167) dX9_straightBy_167 fk_X9_62 rfl rfl rfl ?_
            refine G_iload (pc := 170) dX9_straightBy_170 rfl ?_
            refine G_iaload (pc := 172) dX9_straightBy_172 rfl rfl (by omega) ?_
            refine G_aload_n (pc := 173) dX9_straightBy_173 rfl ?_
            refine G_getP (pc := 174) dX9_straightBy_174 fk_X9_62 rfl rfl rfl ?_
            refine G_iload_n (pc := 177) dX9_straightBy_177 rfl ?_
            refine G_iaload (pc := 178) dX9_straightBy_178 rfl rfl (by omega) ?_
            refine G_icmp_ne (pc := 179) (tgt := 205) dX9_straightBy_179 rfl (fun h_179 => ?_) (fun h_179 => ?_)
            · refine G_iconst (pc := 205) dX9_straightBy_205 (by decide) ?_
              exact j_206 _ (by grind)
            · refine G_aload_n (pc := 182) dX9_straightBy_182 rfl ?_
              refine G_iload_n (pc := 183) dX9_straightBy_183 rfl ?_
              refine G_iload_n (pc := 184) dX9_straightBy_184 rfl ?_
              refine G_aload_n (pc := 185) dX9_straightBy_185 rfl ?_
              refine G_getP (pc := 186) dX9_straightBy_186 fk_X9_56 rfl rfl rfl ?_
              refine G_iload (pc := 189) dX9_straightBy_189 rfl ?_
              refine G_iaload (pc := 191) dX9_straightBy_191 rfl rfl (by omega) ?_
              refine G_aload_n (pc := 192) dX9_straightBy_192 rfl ?_
              refine G_getP (pc := 193) dX9_straightBy_193 fk_X9_59 rfl rfl rfl ?_
              refine G_iload (pc := 196) dX9_straightBy_196 rfl ?_
              refine G_iaload (pc := 198) dX9_straightBy_198 rfl rfl (by omega) ?_
              refine G_cV1 (pc := 199) (c_X9_farBy _ _ _ _ _ (by omega) (by omega) (by exact hX) (by exact hY) (by exact hX r) (by exact hY r)) dX9_straightBy_199 ml_X9_141 rfl rfl rfl (by decide) (Nat.le_of_ble_eq_true rfl) ?_
              refine G_goto (pc := 202) (tgt := 206) dX9_straightBy_202 rfl ?_
              exact j_206 _ (by grind)
  refine G_aload_n (pc := 0) dX9_straightBy_0 rfl ?_
  refine G_getP (pc := 1) dX9_straightBy_1 fk_X9_22 rfl rfl rfl ?_
  refine G_iload_n (pc := 4) dX9_straightBy_4 rfl ?_
  refine G_iaload (pc := 5) dX9_straightBy_5 rfl rfl (by omega) ?_
  refine G_istore_n (pc := 6) dX9_straightBy_6 (Nat.le_of_ble_eq_true rfl) rfl ?_
  refine G_aload_n (pc := 7) dX9_straightBy_7 rfl ?_
  refine G_getP (pc := 8) dX9_straightBy_8 fk_X9_19 rfl rfl rfl ?_
  refine G_iload_n (pc := 11) dX9_straightBy_11 rfl ?_
  refine G_iaload (pc := 12) dX9_straightBy_12 rfl rfl (by omega) ?_
  refine G_istore_n (pc := 13) dX9_straightBy_13 (Nat.le_of_ble_eq_true rfl) rfl ?_
  refine G_aload_n (pc := 14) dX9_straightBy_14 rfl ?_
  refine G_getP (pc := 15) dX9_straightBy_15 fk_X9_25 rfl rfl rfl ?_
  refine G_iload_n (pc := 18) dX9_straightBy_18 rfl ?_
  refine G_iaload (pc := 19) dX9_straightBy_19 rfl rfl (by omega) ?_
  refine G_istore (pc := 20) dX9_straightBy_20 (Nat.le_of_ble_eq_true rfl) rfl ?_
  refine G_iload_n (pc := 22) dX9_straightBy_22 rfl ?_
  refine G_bipush (pc := 23) (x := 7) dX9_straightBy_23 rfl (by decide) ?_
  refine G_icmp_le (pc := 25) (tgt := 87) dX9_straightBy_25 rfl (fun h_25 => ?_) (fun h_25 => ?_)
  · have hfd := far_dist (xs := t 47) (ys := t 48) (ls := t 49) (a := t 35 l) (w := t 36 l) (b := t 37 l) (by omega)
    refine G_join (pc := 87) (P := fun v => v = (if t 49 (t 35 l) = t 49 (t 37 l) then farS (t 47) (t 48) (t 35 l) (t 36 l) (t 47 (t 37 l)) (t 48 (t 37 l)) else 0)) 127 (fun v_127 hv_127 => ?_) (fun j_127 => ?_)
    · refine G_istore (pc := 127) dX9_straightBy_127 (Nat.le_of_ble_eq_true rfl) rfl ?_
      refine G_iload (pc := 129) dX9_straightBy_129 rfl ?_
      refine G_bipush (pc := 131) (x := 60) dX9_straightBy_131 rfl (by decide) ?_
      refine G_icmp_le (pc := 133) (tgt := 138) dX9_straightBy_133 rfl (fun h_133 => ?_) (fun h_133 => ?_)
      · refine G_iconst (pc := 138) dX9_straightBy_138 (by decide) ?_
        refine G_istore (pc := 139) dX9_straightBy_139 (Nat.le_of_ble_eq_true rfl) rfl ?_
        exact loop (by omega) 0 (by omega) _ _ (by omega) (Or.inl ⟨by grind, rfl⟩)
      · refine G_iconst (pc := 136) dX9_straightBy_136 (by decide) ?_
        exact G_ireturn (pc := 137) dX9_straightBy_137 (qeq (by rw [hres2, if_neg (by omega)]; grind))
    · refine G_aload_n (pc := 87) dX9_straightBy_87 rfl ?_
      refine G_getP (pc := 88) dX9_straightBy_88 fk_X9_62 rfl rfl rfl ?_
      refine G_iload_n (pc := 91) dX9_straightBy_91 rfl ?_
      refine G_iaload (pc := 92) dX9_straightBy_92 rfl rfl (by omega) ?_
      refine G_aload_n (pc := 93) dX9_straightBy_93 rfl ?_
      refine G_getP (pc := 94) dX9_straightBy_94 fk_X9_62 rfl rfl rfl ?_
      refine G_iload (pc := 97) dX9_straightBy_97 rfl ?_
      refine G_iaload (pc := 99) dX9_straightBy_99 rfl rfl (by omega) ?_
      refine G_icmp_ne (pc := 100) (tgt := 126) dX9_straightBy_100 rfl (fun h_100 => ?_) (fun h_100 => ?_)
      · refine G_iconst (pc := 126) dX9_straightBy_126 (by decide) ?_
        exact j_127 _ (by grind)
      · refine G_aload_n (pc := 103) dX9_straightBy_103 rfl ?_
        refine G_iload_n (pc := 104) dX9_straightBy_104 rfl ?_
        refine G_iload_n (pc := 105) dX9_straightBy_105 rfl ?_
        refine G_aload_n (pc := 106) dX9_straightBy_106 rfl ?_
        refine G_getP (pc := 107) dX9_straightBy_107 fk_X9_56 rfl rfl rfl ?_
        refine G_iload (pc := 110) dX9_straightBy_110 rfl ?_
        refine G_iaload (pc := 112) dX9_straightBy_112 rfl rfl (by omega) ?_
        refine G_aload_n (pc := 113) dX9_straightBy_113 rfl ?_
        refine G_getP (pc := 114) dX9_straightBy_114 fk_X9_59 rfl rfl rfl ?_
        refine G_iload (pc := 117) dX9_straightBy_117 rfl ?_
        refine G_iaload (pc := 119) dX9_straightBy_119 rfl rfl (by omega) ?_
        refine G_cV1 (pc := 120) (c_X9_farBy _ _ _ _ _ (by omega) (by omega) (by exact hX) (by exact hY) (by exact hX _) (by exact hY _)) dX9_straightBy_120 ml_X9_141 rfl rfl rfl (by decide) (Nat.le_of_ble_eq_true rfl) ?_
        refine G_goto (pc := 123) (tgt := 127) dX9_straightBy_123 rfl ?_
        exact j_127 _ (by grind)
  · unfold distS at hd2
    rw [if_pos (show 8 ≤ t 36 l by omega)] at hd2
    refine G_aload_n (pc := 28) dX9_straightBy_28 rfl ?_
    refine G_getP (pc := 29) dX9_straightBy_29 fk_X9_56 rfl rfl rfl ?_
    refine G_iload_n (pc := 32) dX9_straightBy_32 rfl ?_
    refine G_iaload (pc := 33) dX9_straightBy_33 rfl rfl (by omega) ?_
    refine G_aload_n (pc := 34) dX9_straightBy_34 rfl ?_
    refine G_getP (pc := 35) dX9_straightBy_35 fk_X9_56 rfl rfl rfl ?_
    refine G_iload (pc := 38) dX9_straightBy_38 rfl ?_
    refine G_iaload (pc := 40) dX9_straightBy_40 rfl rfl (by omega) ?_
    refine G_icmp_ne (pc := 41) (tgt := 85) dX9_straightBy_41 rfl (fun h_41 => ?_) (fun h_41 => ?_)
    · refine G_iconst (pc := 85) dX9_straightBy_85 (by decide) ?_
      exact G_ireturn (pc := 86) dX9_straightBy_86 (qeq (by rw [hres2, if_neg (by omega)]; rw [hd2]; grind))
    · refine G_aload_n (pc := 44) dX9_straightBy_44 rfl ?_
      refine G_getP (pc := 45) dX9_straightBy_45 fk_X9_59 rfl rfl rfl ?_
      refine G_iload_n (pc := 48) dX9_straightBy_48 rfl ?_
      refine G_iaload (pc := 49) dX9_straightBy_49 rfl rfl (by omega) ?_
      refine G_aload_n (pc := 50) dX9_straightBy_50 rfl ?_
      refine G_getP (pc := 51) dX9_straightBy_51 fk_X9_59 rfl rfl rfl ?_
      refine G_iload (pc := 54) dX9_straightBy_54 rfl ?_
      refine G_iaload (pc := 56) dX9_straightBy_56 rfl rfl (by omega) ?_
      refine G_icmp_ne (pc := 57) (tgt := 85) dX9_straightBy_57 rfl (fun h_57 => ?_) (fun h_57 => ?_)
      · refine G_iconst (pc := 85) dX9_straightBy_85 (by decide) ?_
        exact G_ireturn (pc := 86) dX9_straightBy_86 (qeq (by rw [hres2, if_neg (by omega)]; rw [hd2]; grind))
      · refine G_aload_n (pc := 60) dX9_straightBy_60 rfl ?_
        refine G_getP (pc := 61) dX9_straightBy_61 fk_X9_62 rfl rfl rfl ?_
        refine G_iload (pc := 64) dX9_straightBy_64 rfl ?_
        refine G_iaload (pc := 66) dX9_straightBy_66 rfl rfl (by omega) ?_
        refine G_aload_n (pc := 67) dX9_straightBy_67 rfl ?_
        refine G_getP (pc := 68) dX9_straightBy_68 fk_X9_62 rfl rfl rfl ?_
        refine G_iload_n (pc := 71) dX9_straightBy_71 rfl ?_
        refine G_iaload (pc := 72) dX9_straightBy_72 rfl rfl (by omega) ?_
        refine G_iload_n (pc := 73) dX9_straightBy_73 rfl ?_
        refine G_cS1 (pc := 74) (c_X9_up _ _ (by omega)) dX9_straightBy_74 ml_X9_138 rfl (by decide) (Nat.le_of_ble_eq_true rfl) ?_
        refine G_iadd (pc := 77) dX9_straightBy_77 (by omega) ?_
        refine G_icmp_ne (pc := 78) (tgt := 85) dX9_straightBy_78 rfl (fun h_78 => ?_) (fun h_78 => ?_)
        · refine G_iconst (pc := 85) dX9_straightBy_85 (by decide) ?_
          exact G_ireturn (pc := 86) dX9_straightBy_86 (qeq (by rw [hres2, if_neg (by omega)]; rw [hd2]; grind))
        · refine G_iconst (pc := 81) dX9_straightBy_81 (by decide) ?_
          refine G_goto (pc := 82) (tgt := 86) dX9_straightBy_82 rfl ?_
          exact G_ireturn (pc := 86) dX9_straightBy_86 (qeq (by rw [hres2, if_neg (by omega)]; rw [hd2]; grind))
