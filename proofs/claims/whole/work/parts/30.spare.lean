/-! SPARE PLACES and first chances: the words, and the class -/
def absI (v : Int) : Int := if 0 ≤ v then v else -v
def rgX (xn far j : Int) : Int := if j % 2 = 0 then xn - (far - absI (-far + j / 2)) else xn + (far - absI (-far + j / 2))
def rgY (yn far j : Int) : Int := yn + (-far + j / 2)
noncomputable def ringS (n : Int) (ps xs ys ls : Int → Int) (xn yn ln far : Int) : Int := fst (fun j => atS n ps xs ys ls (rgX xn far j) (rgY yn far j) ln < 0) 0 (4 * far + 2)
noncomputable def spFar (n : Int) (ps xs ys ls : Int → Int) (xn yn ln : Int) : Int := fst (fun far => 0 ≤ ringS n ps xs ys ls xn yn ln far) 1 25
/-- of 49 rows one is free -/
theorem ring_24 {n : Int} {ps xs ys ls : Int → Int} (hn : n ≤ 24) (xn yn ln : Int) : 0 ≤ ringS n ps xs ys ls xn yn ln 24 := by
  unfold ringS
  rcases fst_spec (fun j => atS n ps xs ys ls (rgX xn 24 j) (rgY yn 24 j) ln < 0) 0 (4 * 24 + 2) with ⟨a, b⟩ | ⟨a, b, c, e⟩
  · exfalso
    have key : ∀ i, 0 ≤ i → i ≤ 48 → ∃ r, (0 ≤ r ∧ r < n) ∧ ys r = yn + (-24 + i) := by
      intro i h0 h1
      have h2 := b (2 * i) (by omega) (by omega)
      unfold atS at h2
      rcases fst_spec (atP ps xs ys ls (rgX xn 24 (2 * i)) (rgY yn 24 (2 * i)) ln) 0 n with ⟨a', b'⟩ | ⟨a', b', c', e'⟩
      · omega
      · refine ⟨_, ⟨a', b'⟩, ?_⟩
        have := c'.2.2.1
        rw [this]
        unfold rgY
        omega
    have h3 := pigeon n.toNat 48 (fun i => if h : 0 ≤ i ∧ i ≤ 48 then (key i h.1 h.2).choose else 0) (fun i h0 h1 => by
      have h : 0 ≤ i ∧ i ≤ 48 := ⟨h0, h1⟩
      rw [dif_pos h]
      have := (key i h.1 h.2).choose_spec.1
      omega) (fun i j hi0 hi1 hj0 hj1 e => by
      have h : 0 ≤ i ∧ i ≤ 48 := ⟨hi0, hi1⟩
      have h' : 0 ≤ j ∧ j ≤ 48 := ⟨hj0, hj1⟩
      rw [dif_pos h, dif_pos h'] at e
      have e1 := (key i h.1 h.2).choose_spec.2
      have e2 := (key j h'.1 h'.2).choose_spec.2
      rw [e] at e1
      omega)
    omega
  · exact a
theorem spFar_ok {n : Int} {ps xs ys ls : Int → Int} (hn : n ≤ 24) (xn yn ln : Int) : (1 ≤ spFar n ps xs ys ls xn yn ln ∧ spFar n ps xs ys ls xn yn ln ≤ 24) ∧ (0 ≤ ringS n ps xs ys ls xn yn ln (spFar n ps xs ys ls xn yn ln) ∧ ringS n ps xs ys ls xn yn ln (spFar n ps xs ys ls xn yn ln) < 4 * spFar n ps xs ys ls xn yn ln + 2) := by
  have h24 := ring_24 (ps := ps) (xs := xs) (ys := ys) (ls := ls) hn xn yn ln
  unfold spFar
  rcases fst_spec (fun far => 0 ≤ ringS n ps xs ys ls xn yn ln far) 1 25 with ⟨a, b⟩ | ⟨a, b, c, e⟩
  · exact absurd h24 (b 24 (by omega) (by omega))
  · refine ⟨⟨a, by omega⟩, c, ?_⟩
    generalize fst (fun far => 0 ≤ ringS n ps xs ys ls xn yn ln far) 1 25 = far at *
    unfold ringS at *
    rcases fst_spec (fun j => atS n ps xs ys ls (rgX xn far j) (rgY yn far j) ln < 0) 0 (4 * far + 2) with ⟨a', b'⟩ | ⟨a', b', c', e'⟩
    · omega
    · exact b'
noncomputable def spX (n k : Int) (fr to ps xs ys ls : Int → Int) (r : Int) : Int := rgX (xs (nbS k fr to ps r)) (spFar n ps xs ys ls (xs (nbS k fr to ps r)) (ys (nbS k fr to ps r)) (ls (nbS k fr to ps r))) (ringS n ps xs ys ls (xs (nbS k fr to ps r)) (ys (nbS k fr to ps r)) (ls (nbS k fr to ps r)) (spFar n ps xs ys ls (xs (nbS k fr to ps r)) (ys (nbS k fr to ps r)) (ls (nbS k fr to ps r))))
noncomputable def spY (n k : Int) (fr to ps xs ys ls : Int → Int) (r : Int) : Int := rgY (ys (nbS k fr to ps r)) (spFar n ps xs ys ls (xs (nbS k fr to ps r)) (ys (nbS k fr to ps r)) (ls (nbS k fr to ps r))) (ringS n ps xs ys ls (xs (nbS k fr to ps r)) (ys (nbS k fr to ps r)) (ls (nbS k fr to ps r)) (spFar n ps xs ys ls (xs (nbS k fr to ps r)) (ys (nbS k fr to ps r)) (ls (nbS k fr to ps r))))
noncomputable def spL (k : Int) (fr to ps ls : Int → Int) (r : Int) : Int := ls (nbS k fr to ps r)
noncomputable def fcX (n k : Int) (fr di to ps xs ys ls : Int → Int) (r : Int) : Int := if 0 ≤ firstM n k fr di to ps xs ys ls r then chX fr di to xs r (firstM n k fr di to ps xs ys ls r) else spX n k fr to ps xs ys ls r
noncomputable def fcY (n k : Int) (fr di to ps xs ys ls : Int → Int) (r : Int) : Int := if 0 ≤ firstM n k fr di to ps xs ys ls r then chY fr di to ys r (firstM n k fr di to ps xs ys ls r) else spY n k fr to ps xs ys ls r
noncomputable def fcL (n k : Int) (fr di to ps xs ys ls : Int → Int) (r : Int) : Int := if 0 ≤ firstM n k fr di to ps xs ys ls r then chL fr di to ls r (firstM n k fr di to ps xs ys ls r) else spL k fr to ps ls r
theorem nbS_r {n k : Int} {fr di to bo ps : Int → Int} (hS : SOK n k fr di to bo) (r : Int) : nbS k fr to ps r = -2 ∨ ((0 ≤ nbS k fr to ps r ∧ nbS k fr to ps r < n) ∧ ps (nbS k fr to ps r) ≠ 0) := by
  unfold nbS
  rcases fst_spec (nbP fr to ps r) 0 k with ⟨a, b⟩ | ⟨a, b, c, e⟩
  · left; rw [if_pos (by omega)]
  · right
    rw [if_neg (by omega)]
    have := hS.2 _ a b
    refine ⟨?_, c.2⟩
    unfold othE
    split
    · exact this.2.1
    · exact this.1
theorem c_X0_firstPlacedNeighbour_3 (t : Sto) (r : Int) (hS : SC t) (hT : TIC t) (hr : 0 ≤ r ∧ r < t 267 0) : CT yX0_firstPlacedNeighbour cX0_firstPlacedNeighbour 5 (some .int) 1 [mP 7, mP 3, mI r] t (fun a t' => a = some (mI (nbS (t 272 0) (t 13) (t 15) (t 21) r)) ∧ t' = t) := by
  refine CT_of rfl rfl (Nat.le_of_ble_eq_true rfl) (fun E ht has => ?_)
  have hb := hS.1
  obtain ⟨hF, hs1, hs2, hs3⟩ := hT r hr.1 hr.2
  have loop : ∀ i, i ≤ t 28 (r + 1) - t 28 r → ∀ o4 : Option MV, 0 ≤ i → (∀ j, 0 ≤ j → j < i → ¬ nbP (t 13) (t 15) (t 21) r (t 29 (t 28 r + j))) → G E cX0_firstPlacedNeighbour RX0 (some .int) 1 2 [some (mP 7), some (mP 3), some (mI r), some (mI i), o4] [] t (fun a t' => a = some (mI (nbS (t 272 0) (t 13) (t 15) (t 21) r)) ∧ t' = t) := by
    refine up_ind (fun i hi ih o4 h0 hN => ?_)
    refine G_iload_n (pc := 2) dX0_firstPlacedNeighbour_2 rfl ?_
    refine G_aload_n (pc := 3) dX0_firstPlacedNeighbour_3 rfl ?_
    refine G_getP (pc := 4) dX0_firstPlacedNeighbour_4 fk_X0_15 rfl rfl rfl ?_
    refine G_iload_n (pc := 7) dX0_firstPlacedNeighbour_7 rfl ?_
    refine G_cV1 (pc := 8) (c_X6_count _ _ (by omega)) dX0_firstPlacedNeighbour_8 ml_X0_19 rfl rfl rfl (by decide) (Nat.le_of_ble_eq_true rfl) ?_
    refine G_icmp_ge (pc := 11) (tgt := 52) dX0_firstPlacedNeighbour_11 rfl (fun h_11 => ?_) (fun h_11 => ?_)
    · refine G_bipush (pc := 52) (x := (-2)) dX0_firstPlacedNeighbour_52 rfl (by decide) ?_
      exact G_ireturn (pc := 54) dX0_firstPlacedNeighbour_54 (qeq (by
        have hfst : fst (nbP (t 13) (t 15) (t 21) r) 0 (t 272 0) = -2 := by
          refine fst_none (fun l l0 l1 hP => ?_)
          obtain ⟨j, j1, j2, j3⟩ := hs3 l l0 l1 hP.1
          have := hN (j - t 28 r) (by omega) (by omega)
          rw [show t 28 r + (j - t 28 r) = j by omega, j3] at this
          exact this hP
        unfold nbS
        rw [hfst, if_pos (by omega)]))
    · have hl9 := hs1 (t 28 r + i) (by omega) (by omega)
      obtain ⟨hfr, hto, -, -⟩ := hS.2 _ hl9.1.1 hl9.1.2
      refine G_aload_n (pc := 14) dX0_firstPlacedNeighbour_14 rfl ?_
      refine G_getP (pc := 15) dX0_firstPlacedNeighbour_15 fk_X0_9 rfl rfl rfl ?_
      refine G_aload_n (pc := 18) dX0_firstPlacedNeighbour_18 rfl ?_
      refine G_getP (pc := 19) dX0_firstPlacedNeighbour_19 fk_X0_15 rfl rfl rfl ?_
      refine G_iload_n (pc := 22) dX0_firstPlacedNeighbour_22 rfl ?_
      refine G_iload_n (pc := 23) dX0_firstPlacedNeighbour_23 rfl ?_
      refine G_cV1 (pc := 24) (c_X6_get _ _ _ (by omega)) dX0_firstPlacedNeighbour_24 ml_X0_35 rfl rfl rfl (by decide) (Nat.le_of_ble_eq_true rfl) ?_
      refine G_iload_n (pc := 27) dX0_firstPlacedNeighbour_27 rfl ?_
      refine G_cV1 (pc := 28) (c_X5_otherEnd _ _ _ (by omega)) dX0_firstPlacedNeighbour_28 ml_X0_45 rfl rfl rfl (by decide) (Nat.le_of_ble_eq_true rfl) ?_
      change G E cX0_firstPlacedNeighbour RX0 (some .int) 1 (28 + 3) _ [mI (othE (t 13) (t 15) r (t 29 (t 28 r + i)))] t _
      have ho : 0 ≤ othE (t 13) (t 15) r (t 29 (t 28 r + i)) ∧ othE (t 13) (t 15) r (t 29 (t 28 r + i)) < t 267 0 := by unfold othE; split <;> assumption
      refine G_istore (pc := 31) dX0_firstPlacedNeighbour_31 (Nat.le_of_ble_eq_true rfl) rfl ?_
      refine G_aload_n (pc := 33) dX0_firstPlacedNeighbour_33 rfl ?_
      refine G_getP (pc := 34) dX0_firstPlacedNeighbour_34 fk_X0_48 rfl rfl rfl ?_
      refine G_iload (pc := 37) dX0_firstPlacedNeighbour_37 rfl ?_
      refine G_baload (pc := 39) dX0_firstPlacedNeighbour_39 rfl rfl (by omega) ?_
      refine G_if_eq (pc := 40) (tgt := 46) dX0_firstPlacedNeighbour_40 rfl (fun h_40 => ?_) (fun h_40 => ?_)
      · try simp only [bq0, ne_eq, Classical.not_not] at h_40
        refine G_iinc (pc := 46) dX0_firstPlacedNeighbour_46 rfl rfl (by omega) ?_
        refine G_goto (pc := 49) (tgt := 2) dX0_firstPlacedNeighbour_49 rfl ?_
        refine ih (by omega) _ (by omega) (fun j j0 j1 => ?_)
        by_cases e : j = i
        · rw [e]; exact fun z => z.2 h_40
        · exact hN j j0 (by omega)
      · try simp only [bq0, ne_eq, Classical.not_not] at h_40
        refine G_iload (pc := 43) dX0_firstPlacedNeighbour_43 rfl ?_
        exact G_ireturn (pc := 45) dX0_firstPlacedNeighbour_45 (qeq (by
          have hfst : fst (nbP (t 13) (t 15) (t 21) r) 0 (t 272 0) = t 29 (t 28 r + i) := by
            rcases fst_spec (nbP (t 13) (t 15) (t 21) r) 0 (t 272 0) with ⟨a, b⟩ | ⟨a, b, c, e⟩
            · exact absurd ⟨hl9.2, h_40⟩ (b _ hl9.1.1 hl9.1.2)
            · obtain ⟨j, j1, j2, j3⟩ := hs3 _ a b c.1
              rcases Int.lt_trichotomy j (t 28 r + i) with q | q | q
              · have := hN (j - t 28 r) (by omega) (by omega)
                rw [show t 28 r + (j - t 28 r) = j by omega, j3] at this
                exact absurd c this
              · rw [← j3, q]
              · have := hs2 _ j (by omega) q j2
                rw [j3] at this
                exact absurd ⟨hl9.2, h_40⟩ (e _ hl9.1.1 this)
          unfold nbS
          rw [hfst, if_neg (by omega)]))
  refine G_iconst (pc := 0) dX0_firstPlacedNeighbour_0 (by decide) ?_
  refine G_istore_n (pc := 1) dX0_firstPlacedNeighbour_1 (Nat.le_of_ble_eq_true rfl) rfl ?_
  exact loop 0 (by omega) _ (by omega) (fun j j0 j1 => by omega)
theorem c_X0_lookAround_3 (t : Sto) (mx my far : Int) (hn : 0 ≤ t 267 0 ∧ t 267 0 ≤ 24) (hmx : -1000000 ≤ mx ∧ mx ≤ 1000000) (hmy : -1000000 ≤ my ∧ my ≤ 1000000) (hf : 1 ≤ far ∧ far ≤ 24) : CT yX0_lookAround cX0_lookAround 7 (some .boolean) 1 [mP 7, mP 3, mI mx, mI my, mI far] t (fun a t' => ∃ x, a = some (mI x) ∧ ((x = 0 ∨ x = 1) ∧ (x = 1 ↔ 0 ≤ ringS (t 267 0) (t 21) (t 18) (t 19) (t 20) mx my (t 652 0) far) ∧ ∃ px py, t' = pos3 t px py (t 652 0) ∧ (x = 1 → px = rgX mx far (ringS (t 267 0) (t 21) (t 18) (t 19) (t 20) mx my (t 652 0) far) ∧ py = rgY my far (ringS (t 267 0) (t 21) (t 18) (t 19) (t 20) mx my (t 652 0) far)))) := by
  refine CT_of rfl rfl (Nat.le_of_ble_eq_true rfl) (fun E ht has => ?_)
  generalize hZ : ringS (t 267 0) (t 21) (t 18) (t 19) (t 20) mx my (t 652 0) far = Z
  have loop : ∀ dy, dy ≤ far + 1 → ∀ (a b : Int) (o6 : Option MV), -far ≤ dy → fst (fun j => atS (t 267 0) (t 21) (t 18) (t 19) (t 20) (rgX mx far j) (rgY my far j) (t 652 0) < 0) (2 * (dy + far)) (4 * far + 2) = Z → G E cX0_lookAround RX0 (some .boolean) 1 5 [some (mP 7), some (mP 3), some (mI mx), some (mI my), some (mI far), some (mI dy), o6] [] (pos3 t a b (t 652 0)) (fun r t' => ∃ x, r = some (mI x) ∧ ((x = 0 ∨ x = 1) ∧ (x = 1 ↔ 0 ≤ Z) ∧ ∃ px py, t' = pos3 t px py (t 652 0) ∧ (x = 1 → px = rgX mx far Z ∧ py = rgY my far Z))) := by
    refine up_ind (fun dy hdy ih a b o6 h0 hX => ?_)
    have e1 : rgX mx far (2 * (dy + far)) = mx - (far - absI dy) := by unfold rgX; rw [if_pos (by omega), show -far + 2 * (dy + far) / 2 = dy by omega]
    have e2 : rgX mx far (2 * (dy + far) + 1) = mx + (far - absI dy) := by unfold rgX; rw [if_neg (by omega), show -far + (2 * (dy + far) + 1) / 2 = dy by omega]
    have e3 : rgY my far (2 * (dy + far)) = my + dy := by unfold rgY; rw [show -far + 2 * (dy + far) / 2 = dy by omega]
    have e4 : rgY my far (2 * (dy + far) + 1) = my + dy := by unfold rgY; rw [show -far + (2 * (dy + far) + 1) / 2 = dy by omega]
    have ha : 0 ≤ absI dy ∧ absI dy ≤ 25 := by unfold absI; split <;> omega
    have q1 : ∀ z, su (pos3 t a b (t 652 0)) 651 0 z = pos3 t a z (t 652 0) := fun z => by
      unfold pos3
      funext w j
      unfold su
      by_cases h2 : w = 651
      · subst h2; by_cases hj : j = 0 <;> simp [hj]
      · simp [h2]
    have q2 : ∀ y z, su (pos3 t a y (t 652 0)) 650 0 z = pos3 t z y (t 652 0) := fun y z => by
      unfold pos3
      funext w j
      unfold su
      by_cases h2 : w = 650
      · subst h2; by_cases hj : j = 0 <;> simp [hj]
      · simp [h2]
    have q3 : ∀ x y z, su (pos3 t x y (t 652 0)) 650 0 z = pos3 t z y (t 652 0) := fun x y z => by
      unfold pos3
      funext w j
      unfold su
      by_cases h2 : w = 650
      · subst h2; by_cases hj : j = 0 <;> simp [hj]
      · simp [h2]
    have pn : ∀ x y, pos3 t x y (t 652 0) 267 = t 267 ∧ pos3 t x y (t 652 0) 18 = t 18 ∧ pos3 t x y (t 652 0) 19 = t 19 ∧ pos3 t x y (t 652 0) 20 = t 20 ∧ pos3 t x y (t 652 0) 21 = t 21 := fun x y => ⟨pos3_ne t _ _ _ (by decide), pos3_ne t _ _ _ (by decide), pos3_ne t _ _ _ (by decide), pos3_ne t _ _ _ (by decide), pos3_ne t _ _ _ (by decide)⟩
    have p9 : ∀ x y, pos3 t x y (t 652 0) 650 0 = x ∧ pos3 t x y (t 652 0) 651 0 = y ∧ pos3 t x y (t 652 0) 652 0 = t 652 0 := fun x y => pos3_at t x y (t 652 0)
    refine G_iload (pc := 5) dX0_lookAround_5 rfl ?_
    refine G_iload (pc := 7) dX0_lookAround_7 rfl ?_
    refine G_icmp_gt (pc := 9) (tgt := 94) dX0_lookAround_9 rfl (fun h_9 => ?_) (fun h_9 => ?_)
    · refine G_iconst (pc := 94) dX0_lookAround_94 (by decide) ?_
      exact G_zreturn (pc := 95) dX0_lookAround_95 (by first | exact Or.inl rfl | exact Or.inr rfl | omega | (split <;> first | exact Or.inl rfl | exact Or.inr rfl)) ⟨0, rfl, Or.inl rfl, ⟨fun z => by omega, fun z => by rw [fst_ge (by omega)] at hX; omega⟩, _, _, rfl, fun z => by omega⟩
    · refine G_iload (pc := 12) dX0_lookAround_12 rfl ?_
      refine G_iload (pc := 14) dX0_lookAround_14 rfl ?_
      refine G_abs (pc := 16) dX0_lookAround_16 ml_X0_95 (by decide) (Nat.le_of_ble_eq_true rfl) (by omega) ?_
      change G E cX0_lookAround RX0 (some .boolean) 1 (16 + 3) _ [mI (absI dy), mI far] _ _
      refine G_isub (pc := 19) dX0_lookAround_19 (by omega) ?_
      refine G_istore (pc := 20) dX0_lookAround_20 (Nat.le_of_ble_eq_true rfl) rfl ?_
      refine G_aload_n (pc := 22) dX0_lookAround_22 rfl ?_
      refine G_iload_n (pc := 23) dX0_lookAround_23 rfl ?_
      refine G_iload (pc := 24) dX0_lookAround_24 rfl ?_
      refine G_iadd (pc := 26) dX0_lookAround_26 (by omega) ?_
      refine G_put (pc := 27) dX0_lookAround_27 fk_X0_29 fw_X0_3 rfl rfl rfl (fun h => absurd h (by decide)) ?_
      rw [q1]
      refine G_aload_n (pc := 30) dX0_lookAround_30 rfl ?_
      refine G_iload_n (pc := 31) dX0_lookAround_31 rfl ?_
      refine G_iload (pc := 32) dX0_lookAround_32 rfl ?_
      refine G_isub (pc := 34) dX0_lookAround_34 (by omega) ?_
      refine G_put (pc := 35) dX0_lookAround_35 fk_X0_25 fw_X0_2 rfl rfl rfl (fun h => absurd h (by decide)) ?_
      rw [q2]
      refine G_aload_n (pc := 38) dX0_lookAround_38 rfl ?_
      refine G_aload_n (pc := 39) dX0_lookAround_39 rfl ?_
      refine G_getI (pc := 40) dX0_lookAround_40 fk_X0_25 rfl rfl rfl ?_
      try simp (disch := decide) only [su_ne, su_at, su_same, sv_ne, sv_at]
      refine G_aload_n (pc := 43) dX0_lookAround_43 rfl ?_
      refine G_getI (pc := 44) dX0_lookAround_44 fk_X0_29 rfl rfl rfl ?_
      try simp (disch := decide) only [su_ne, su_at, su_same, sv_ne, sv_at]
      refine G_aload_n (pc := 47) dX0_lookAround_47 rfl ?_
      refine G_getI (pc := 48) dX0_lookAround_48 fk_X0_32 rfl rfl rfl ?_
      try simp (disch := decide) only [su_ne, su_at, su_same, sv_ne, sv_at]
      rw [(p9 _ _).1, (p9 _ _).2.1, (p9 _ _).2.2]
      refine G_cV1 (pc := 51) (c_X2_isFree_3 _ _ _ _ (by rw [(pn _ _).1]; omega)) dX0_lookAround_51 ml_X0_72 rfl rfl rfl (by decide) (Nat.le_of_ble_eq_true rfl) ?_
      rw [(pn _ _).1, (pn _ _).2.1, (pn _ _).2.2.1, (pn _ _).2.2.2.1, (pn _ _).2.2.2.2, ← e1, ← e3]
      refine G_if_eq (pc := 54) (tgt := 59) dX0_lookAround_54 rfl (fun h_54 => ?_) (fun h_54 => ?_)
      · try simp only [bq0, ne_eq, Classical.not_not] at h_54
        rw [fst_neg (by omega) (by exact h_54)] at hX
        refine G_aload_n (pc := 59) dX0_lookAround_59 rfl ?_
        refine G_iload_n (pc := 60) dX0_lookAround_60 rfl ?_
        refine G_iload (pc := 61) dX0_lookAround_61 rfl ?_
        refine G_iadd (pc := 63) dX0_lookAround_63 (by omega) ?_
        refine G_put (pc := 64) dX0_lookAround_64 fk_X0_25 fw_X0_2 rfl rfl rfl (fun h => absurd h (by decide)) ?_
        rw [q3]
        refine G_aload_n (pc := 67) dX0_lookAround_67 rfl ?_
        refine G_aload_n (pc := 68) dX0_lookAround_68 rfl ?_
        refine G_getI (pc := 69) dX0_lookAround_69 fk_X0_25 rfl rfl rfl ?_
        try simp (disch := decide) only [su_ne, su_at, su_same, sv_ne, sv_at]
        refine G_aload_n (pc := 72) dX0_lookAround_72 rfl ?_
        refine G_getI (pc := 73) dX0_lookAround_73 fk_X0_29 rfl rfl rfl ?_
        try simp (disch := decide) only [su_ne, su_at, su_same, sv_ne, sv_at]
        refine G_aload_n (pc := 76) dX0_lookAround_76 rfl ?_
        refine G_getI (pc := 77) dX0_lookAround_77 fk_X0_32 rfl rfl rfl ?_
        try simp (disch := decide) only [su_ne, su_at, su_same, sv_ne, sv_at]
        rw [(p9 _ _).1, (p9 _ _).2.1, (p9 _ _).2.2]
        refine G_cV1 (pc := 80) (c_X2_isFree_3 _ _ _ _ (by rw [(pn _ _).1]; omega)) dX0_lookAround_80 ml_X0_72 rfl rfl rfl (by decide) (Nat.le_of_ble_eq_true rfl) ?_
        rw [(pn _ _).1, (pn _ _).2.1, (pn _ _).2.2.1, (pn _ _).2.2.2.1, (pn _ _).2.2.2.2, ← e2, e3, ← e4]
        refine G_if_eq (pc := 83) (tgt := 88) dX0_lookAround_83 rfl (fun h_83 => ?_) (fun h_83 => ?_)
        · try simp only [bq0, ne_eq, Classical.not_not] at h_83
          rw [fst_neg (by omega) (by exact h_83)] at hX
          refine G_iinc (pc := 88) dX0_lookAround_88 rfl rfl (by omega) ?_
          refine G_goto (pc := 91) (tgt := 5) dX0_lookAround_91 rfl ?_
          refine ih (by omega) _ _ _ (by omega) ?_
          rw [← hX]
          congr 1
          omega
        · try simp only [bq0, ne_eq, Classical.not_not] at h_83
          rw [fst_pos (by omega) (by exact h_83)] at hX
          refine G_iconst (pc := 86) dX0_lookAround_86 (by decide) ?_
          exact G_zreturn (pc := 87) dX0_lookAround_87 (by first | exact Or.inl rfl | exact Or.inr rfl | omega | (split <;> first | exact Or.inl rfl | exact Or.inr rfl)) ⟨1, rfl, Or.inr rfl, ⟨fun _ => by omega, fun _ => rfl⟩, _, _, by rw [e2, e4], fun _ => by rw [← hX]; exact ⟨e2.symm, e4.symm⟩⟩
      · try simp only [bq0, ne_eq, Classical.not_not] at h_54
        rw [fst_pos (by omega) (by exact h_54)] at hX
        refine G_iconst (pc := 57) dX0_lookAround_57 (by decide) ?_
        exact G_zreturn (pc := 58) dX0_lookAround_58 (by first | exact Or.inl rfl | exact Or.inr rfl | omega | (split <;> first | exact Or.inl rfl | exact Or.inr rfl)) ⟨1, rfl, Or.inr rfl, ⟨fun _ => by omega, fun _ => rfl⟩, _, _, by rw [e1, e3], fun _ => by rw [← hX]; exact ⟨e1.symm, e3.symm⟩⟩
  refine G_iload (pc := 0) dX0_lookAround_0 rfl ?_
  refine G_ineg (pc := 2) dX0_lookAround_2 (by omega) ?_
  refine G_istore (pc := 3) dX0_lookAround_3 (Nat.le_of_ble_eq_true rfl) rfl ?_
  have h := loop (-far) (by omega) (t 650 0) (t 651 0) none (by omega) (by rw [show 2 * (-far + far) = 0 by omega]; exact hZ)
  rw [pos3_id] at h
  exact h
theorem c_X0_lookAtSpare_3 (t : Sto) (r : Int) (hS : SC t) (hT : TIC t) (hr : 0 ≤ r ∧ r < t 267 0) (hnb : 0 ≤ nbS (t 272 0) (t 13) (t 15) (t 21) r) (hX : BD (t 18)) (hY : BD (t 19)) (hL : BD (t 20)) : CT yX0_lookAtSpare cX0_lookAtSpare 5 none 2 [mP 7, mP 3, mI r] t (fun a t' => a = none ∧ t' = pos3 t (spX (t 267 0) (t 272 0) (t 13) (t 15) (t 21) (t 18) (t 19) (t 20) r) (spY (t 267 0) (t 272 0) (t 13) (t 15) (t 21) (t 18) (t 19) (t 20) r) (spL (t 272 0) (t 13) (t 15) (t 21) (t 20) r)) := by
  refine CT_of rfl rfl (Nat.le_of_ble_eq_true rfl) (fun E ht has => ?_)
  have hb := hS.1
  have hnr := nbS_r (ps := t 21) hS r
  unfold spX spY spL
  generalize hoo : nbS (t 272 0) (t 13) (t 15) (t 21) r = o at *
  have hsf := spFar_ok (n := t 267 0) (ps := t 21) (xs := t 18) (ys := t 19) (ls := t 20) (by omega) (t 18 o) (t 19 o) (t 20 o)
  have hxo := hX o
  have hyo := hY o
  generalize hZ : spFar (t 267 0) (t 21) (t 18) (t 19) (t 20) (t 18 o) (t 19 o) (t 20 o) = Z at *
  have loop : ∀ far, far ≤ 25 → ∀ (a b : Int), 1 ≤ far → fst (fun far => 0 ≤ ringS (t 267 0) (t 21) (t 18) (t 19) (t 20) (t 18 o) (t 19 o) (t 20 o) far) far 25 = Z → G E cX0_lookAtSpare RX0 none 2 25 [some (mP 7), some (mP 3), some (mI r), some (mI o), some (mI far)] [] (pos3 t a b (t 20 o)) (fun a t' => a = none ∧ t' = pos3 t (rgX (t 18 o) Z (ringS (t 267 0) (t 21) (t 18) (t 19) (t 20) (t 18 o) (t 19 o) (t 20 o) Z)) (rgY (t 19 o) Z (ringS (t 267 0) (t 21) (t 18) (t 19) (t 20) (t 18 o) (t 19 o) (t 20 o) Z)) (t 20 o)) := by
    refine up_ind (fun far hfar ih a b h0 hX0 => ?_)
    have p1 := pos3_ne t a b (t 20 o) (w := 267) (by decide)
    have p2 := pos3_ne t a b (t 20 o) (w := 18) (by decide)
    have p3 := pos3_ne t a b (t 20 o) (w := 19) (by decide)
    have p4 := pos3_ne t a b (t 20 o) (w := 20) (by decide)
    have p5 := pos3_ne t a b (t 20 o) (w := 21) (by decide)
    have p6 := (pos3_at t a b (t 20 o)).2.2
    refine G_iload (pc := 25) dX0_lookAtSpare_25 rfl ?_
    refine G_bipush (pc := 27) (x := 24) dX0_lookAtSpare_27 rfl (by decide) ?_
    refine G_icmp_gt (pc := 29) (tgt := 61) dX0_lookAtSpare_29 rfl (fun h_29 => ?_) (fun h_29 => ?_)
    · rw [fst_ge (by omega)] at hX0; omega
    · refine G_aload_n (pc := 32) dX0_lookAtSpare_32 rfl ?_
      refine G_aload_n (pc := 33) dX0_lookAtSpare_33 rfl ?_
      refine G_aload_n (pc := 34) dX0_lookAtSpare_34 rfl ?_
      refine G_getP (pc := 35) dX0_lookAtSpare_35 fk_X0_57 rfl rfl rfl ?_
      refine G_iload_n (pc := 38) dX0_lookAtSpare_38 rfl ?_
      refine G_iaload (pc := 39) dX0_lookAtSpare_39 rfl rfl (by omega) ?_
      rw [p2]
      refine G_aload_n (pc := 40) dX0_lookAtSpare_40 rfl ?_
      refine G_getP (pc := 41) dX0_lookAtSpare_41 fk_X0_62 rfl rfl rfl ?_
      refine G_iload_n (pc := 44) dX0_lookAtSpare_44 rfl ?_
      refine G_iaload (pc := 45) dX0_lookAtSpare_45 rfl rfl (by omega) ?_
      rw [p3]
      refine G_iload (pc := 46) dX0_lookAtSpare_46 rfl ?_
      refine G_cVg1 (pc := 48) (c_X0_lookAround_3 _ _ _ _ (by rw [p1]; omega) (by omega) (by omega) (by omega)) dX0_lookAtSpare_48 ml_X0_91 rfl rfl rfl (by decide) (Nat.le_of_ble_eq_true rfl) (fun r_48 t_48 hq_48 => ?_)
      rw [p1, p2, p3, p4, p5, p6] at hq_48
      obtain ⟨hx01, hxi, px, py, rfl, hpp⟩ := hq_48
      rw [pos3_pos3]
      refine G_if_eq (pc := 51) (tgt := 55) dX0_lookAtSpare_51 rfl (fun h_51 => ?_) (fun h_51 => ?_)
      · try simp only [bq0, ne_eq, Classical.not_not] at h_51
        have hno : ¬ 0 ≤ ringS (t 267 0) (t 21) (t 18) (t 19) (t 20) (t 18 o) (t 19 o) (t 20 o) far := fun z => by have := hxi.mpr z; omega
        rw [fst_neg (by omega) (by exact hno)] at hX0
        refine G_iinc (pc := 55) dX0_lookAtSpare_55 rfl rfl (by omega) ?_
        refine G_goto (pc := 58) (tgt := 25) dX0_lookAtSpare_58 rfl ?_
        exact ih (by omega) _ _ (by omega) hX0
      · try simp only [bq0, ne_eq, Classical.not_not] at h_51
        have hx1 : r_48 = 1 := by omega
        rw [fst_pos (by omega) (by exact hxi.mp hx1)] at hX0
        exact G_return (pc := 54) dX0_lookAtSpare_54 ⟨rfl, by rw [← hX0, (hpp hx1).1, (hpp hx1).2]⟩
  refine G_aload_n (pc := 0) dX0_lookAtSpare_0 rfl ?_
  refine G_aload_n (pc := 1) dX0_lookAtSpare_1 rfl ?_
  refine G_iload_n (pc := 2) dX0_lookAtSpare_2 rfl ?_
  refine G_cV1 (pc := 3) (c_X0_firstPlacedNeighbour_3 _ _ (by exact hS) (by exact hT) (by omega)) dX0_lookAtSpare_3 ml_X0_87 rfl rfl rfl (by decide) (Nat.le_of_ble_eq_true rfl) ?_
  rw [hoo]
  refine G_istore_n (pc := 6) dX0_lookAtSpare_6 (Nat.le_of_ble_eq_true rfl) rfl ?_
  refine G_iload_n (pc := 7) dX0_lookAtSpare_7 rfl ?_
  refine G_if_ge (pc := 8) (tgt := 12) dX0_lookAtSpare_8 rfl (fun h_8 => ?_) (fun h_8 => ?_)
  · refine G_aload_n (pc := 12) dX0_lookAtSpare_12 rfl ?_
    refine G_aload_n (pc := 13) dX0_lookAtSpare_13 rfl ?_
    refine G_getP (pc := 14) dX0_lookAtSpare_14 fk_X0_67 rfl rfl rfl ?_
    refine G_iload_n (pc := 17) dX0_lookAtSpare_17 rfl ?_
    refine G_iaload (pc := 18) dX0_lookAtSpare_18 rfl rfl (by omega) ?_
    refine G_put (pc := 19) dX0_lookAtSpare_19 fk_X0_32 fw_X0_4 rfl rfl rfl (fun h => absurd h (by decide)) ?_
    refine G_iconst (pc := 22) dX0_lookAtSpare_22 (by decide) ?_
    refine G_istore (pc := 23) dX0_lookAtSpare_23 (Nat.le_of_ble_eq_true rfl) rfl ?_
    have e : su t 652 0 (t 20 o) = pos3 t (t 650 0) (t 651 0) (t 20 o) := by
      have e9 : ∀ u : Sto, u = t → su t 652 0 (t 20 o) = su (su u 651 0 (t 651 0)) 652 0 (t 20 o) := fun u hu => by rw [hu, su_id]
      unfold pos3
      exact e9 _ (su_id t 650 0)
    rw [e]
    exact loop 1 (by omega) _ _ (by omega) hZ
  · exact absurd hnb h_8
theorem c_X0_lookAtFirst_3 (t : Sto) (r : Int) (hS : SC t) (hT : TIC t) (hr : 0 ≤ r ∧ r < t 267 0) (hnb : 0 ≤ nbS (t 272 0) (t 13) (t 15) (t 21) r) (hX : BD (t 18)) (hY : BD (t 19)) (hL : BD (t 20)) : CT yX0_lookAtFirst cX0_lookAtFirst 4 none 3 [mP 7, mP 3, mI r] t (fun a t' => a = none ∧ t' = pos3 t (fcX (t 267 0) (t 272 0) (t 13) (t 14) (t 15) (t 21) (t 18) (t 19) (t 20) r) (fcY (t 267 0) (t 272 0) (t 13) (t 14) (t 15) (t 21) (t 18) (t 19) (t 20) r) (fcL (t 267 0) (t 272 0) (t 13) (t 14) (t 15) (t 21) (t 18) (t 19) (t 20) r)) := by
  refine CT_of rfl rfl (Nat.le_of_ble_eq_true rfl) (fun E ht has => ?_)
  have hb := hS.1
  have hF := (hT r hr.1 hr.2).1
  obtain ⟨u1, u2, u3⟩ := mu_ok hT hr.1 hr.2
  have hfm := fst_mu (P := candM (t 267 0) (t 13) (t 14) (t 15) (t 21) (t 18) (t 19) (t 20) r) (μ := muT (t 28) (t 29) r) (B := 3 * (t 28 (r + 1) - t 28 r)) (K := 3 * t 272 0) (fun c c0 c1 => (u1 c c0 c1).1) u2 (fun m m0 m1 hP => u3 m m0 m1 hP.1.1)
  have hfe : firstM (t 267 0) (t 272 0) (t 13) (t 14) (t 15) (t 21) (t 18) (t 19) (t 20) r = fst (candM (t 267 0) (t 13) (t 14) (t 15) (t 21) (t 18) (t 19) (t 20) r) 0 (3 * t 272 0) := rfl
  rw [← hfe] at hfm
  unfold fcX fcY fcL
  generalize firstM (t 267 0) (t 272 0) (t 13) (t 14) (t 15) (t 21) (t 18) (t 19) (t 20) r = Z at *
  generalize hZ2 : fst (fun c => candM (t 267 0) (t 13) (t 14) (t 15) (t 21) (t 18) (t 19) (t 20) r (muT (t 28) (t 29) r c)) 0 (3 * (t 28 (r + 1) - t 28 r)) = Z2 at *
  have loop : ∀ c, c ≤ 3 * (t 28 (r + 1) - t 28 r) → ∀ (a b d : Int), 0 ≤ c → fst (fun c => candM (t 267 0) (t 13) (t 14) (t 15) (t 21) (t 18) (t 19) (t 20) r (muT (t 28) (t 29) r c)) c (3 * (t 28 (r + 1) - t 28 r)) = Z2 → G E cX0_lookAtFirst RX0 none 3 2 [some (mP 7), some (mP 3), some (mI r), some (mI c)] [] (pos3 t a b d) (fun a t' => a = none ∧ t' = pos3 t (if 0 ≤ Z then chX (t 13) (t 14) (t 15) (t 18) r Z else spX (t 267 0) (t 272 0) (t 13) (t 15) (t 21) (t 18) (t 19) (t 20) r) (if 0 ≤ Z then chY (t 13) (t 14) (t 15) (t 19) r Z else spY (t 267 0) (t 272 0) (t 13) (t 15) (t 21) (t 18) (t 19) (t 20) r) (if 0 ≤ Z then chL (t 13) (t 14) (t 15) (t 20) r Z else spL (t 272 0) (t 13) (t 15) (t 21) (t 20) r)) := by
    refine up_ind (fun c hc ih a b d h0 hX0 => ?_)
    have pw : ∀ w : Nat, (w ≠ 650 ∧ w ≠ 651 ∧ w ≠ 652) → pos3 t a b d w = t w := fun w h => pos3_ne t a b d h
    have p1 := pw 267 (by decide)
    have p2 := pw 272 (by decide)
    have p3 := pw 13 (by decide)
    have p4 := pw 14 (by decide)
    have p5 := pw 15 (by decide)
    have p6 := pw 16 (by decide)
    have p7 := pw 28 (by decide)
    have p8 := pw 29 (by decide)
    have p9 := pw 18 (by decide)
    have p10 := pw 19 (by decide)
    have p11 := pw 20 (by decide)
    have p12 := pw 21 (by decide)
    have hS1 : SC (pos3 t a b d) := by unfold SC; rw [p1, p2, p3, p4, p5, p6]; exact hS
    have hT1 : TIC (pos3 t a b d) := by unfold TIC; rw [p1, p2, p3, p5, p7, p8]; exact hT
    refine G_iload_n (pc := 2) dX0_lookAtFirst_2 rfl ?_
    refine G_aload_n (pc := 3) dX0_lookAtFirst_3 rfl ?_
    refine G_iload_n (pc := 4) dX0_lookAtFirst_4 rfl ?_
    refine G_cV1 (pc := 5) (c_X0_bound _ _ (by rw [p7]; omega)) dX0_lookAtFirst_5 ml_X0_76 rfl rfl rfl (by decide) (Nat.le_of_ble_eq_true rfl) ?_
    rw [p7]
    refine G_icmp_ge (pc := 8) (tgt := 28) dX0_lookAtFirst_8 rfl (fun h_8 => ?_) (fun h_8 => ?_)
    · refine G_aload_n (pc := 28) dX0_lookAtFirst_28 rfl ?_
      refine G_aload_n (pc := 29) dX0_lookAtFirst_29 rfl ?_
      refine G_iload_n (pc := 30) dX0_lookAtFirst_30 rfl ?_
      refine G_cV0 (pc := 31) (c_X0_lookAtSpare_3 _ _ (by exact hS1) (by exact hT1) (by rw [p1]; exact hr) (by rw [p2, p3, p5, p12]; exact hnb) (by rw [p9]; exact hX) (by rw [p10]; exact hY) (by rw [p11]; exact hL)) dX0_lookAtFirst_31 ml_X0_83 rfl rfl rfl (by decide) (Nat.le_of_ble_eq_true rfl) ?_
      exact G_return (pc := 34) dX0_lookAtFirst_34 ⟨rfl, by
        rw [fst_ge (by omega)] at hX0
        have hz := hfm.2 (by omega)
        rw [hz, if_neg (by omega), if_neg (by omega), if_neg (by omega), pos3_pos3, p1, p2, p3, p5, p9, p10, p11, p12]⟩
    · refine G_aload_n (pc := 11) dX0_lookAtFirst_11 rfl ?_
      refine G_aload_n (pc := 12) dX0_lookAtFirst_12 rfl ?_
      refine G_iload_n (pc := 13) dX0_lookAtFirst_13 rfl ?_
      refine G_iload_n (pc := 14) dX0_lookAtFirst_14 rfl ?_
      refine G_cVg1 (pc := 15) (c_X0_lookAtChance_3 _ _ _ (by exact hS1) (by exact hT1) (by rw [p1]; exact hr) (by rw [p7]; omega) (by rw [p9]; exact hX) (by rw [p10]; exact hY) (by rw [p11]; exact hL)) dX0_lookAtFirst_15 ml_X0_79 rfl rfl rfl (by decide) (Nat.le_of_ble_eq_true rfl) (fun r_15 t_15 hq_15 => ?_)
      rw [p1, p3, p4, p5, p7, p8, p9, p10, p11, p12] at hq_15
      obtain ⟨hx01, hxi, px, py, pl, rfl, hpp⟩ := hq_15
      rw [pos3_pos3]
      refine G_if_eq (pc := 18) (tgt := 22) dX0_lookAtFirst_18 rfl (fun h_18 => ?_) (fun h_18 => ?_)
      · try simp only [bq0, ne_eq, Classical.not_not] at h_18
        rw [fst_neg (by omega) (by exact fun z => by have := hxi.mpr z; omega)] at hX0
        refine G_iinc (pc := 22) dX0_lookAtFirst_22 rfl rfl (by omega) ?_
        refine G_goto (pc := 25) (tgt := 2) dX0_lookAtFirst_25 rfl ?_
        exact ih (by omega) _ _ _ (by omega) hX0
      · try simp only [bq0, ne_eq, Classical.not_not] at h_18
        have hx1 : r_15 = 1 := by omega
        rw [fst_pos (by omega) (by exact hxi.mp hx1)] at hX0
        exact G_return (pc := 21) dX0_lookAtFirst_21 ⟨rfl, by
          subst hX0
          have hz := hfm.1 h0
          have hz0 := (u1 c h0 (by omega)).1.1
          rw [hz, if_pos hz0, if_pos hz0, if_pos hz0, (hpp hx1).1, (hpp hx1).2.1, (hpp hx1).2.2]⟩
  refine G_iconst (pc := 0) dX0_lookAtFirst_0 (by decide) ?_
  refine G_istore_n (pc := 1) dX0_lookAtFirst_1 (Nat.le_of_ble_eq_true rfl) rfl ?_
  have h := loop 0 (by omega) (t 650 0) (t 651 0) (t 652 0) (by omega) hZ2
  rw [pos3_id] at h
  exact h
theorem c_X0_firstPlacedNeighbour_4 (t : Sto) (r : Int) (hS : SC t) (hT : TIC t) (hr : 0 ≤ r ∧ r < t 267 0) : CT yX0_firstPlacedNeighbour cX0_firstPlacedNeighbour 5 (some .int) 1 [mP 7, mP 4, mI r] t (fun a t' => a = some (mI (nbS (t 272 0) (t 13) (t 15) (t 25) r)) ∧ t' = t) := by
  refine CT_of rfl rfl (Nat.le_of_ble_eq_true rfl) (fun E ht has => ?_)
  have hb := hS.1
  obtain ⟨hF, hs1, hs2, hs3⟩ := hT r hr.1 hr.2
  have loop : ∀ i, i ≤ t 28 (r + 1) - t 28 r → ∀ o4 : Option MV, 0 ≤ i → (∀ j, 0 ≤ j → j < i → ¬ nbP (t 13) (t 15) (t 25) r (t 29 (t 28 r + j))) → G E cX0_firstPlacedNeighbour RX0 (some .int) 1 2 [some (mP 7), some (mP 4), some (mI r), some (mI i), o4] [] t (fun a t' => a = some (mI (nbS (t 272 0) (t 13) (t 15) (t 25) r)) ∧ t' = t) := by
    refine up_ind (fun i hi ih o4 h0 hN => ?_)
    refine G_iload_n (pc := 2) dX0_firstPlacedNeighbour_2 rfl ?_
    refine G_aload_n (pc := 3) dX0_firstPlacedNeighbour_3 rfl ?_
    refine G_getP (pc := 4) dX0_firstPlacedNeighbour_4 fk_X0_15 rfl rfl rfl ?_
    refine G_iload_n (pc := 7) dX0_firstPlacedNeighbour_7 rfl ?_
    refine G_cV1 (pc := 8) (c_X6_count _ _ (by omega)) dX0_firstPlacedNeighbour_8 ml_X0_19 rfl rfl rfl (by decide) (Nat.le_of_ble_eq_true rfl) ?_
    refine G_icmp_ge (pc := 11) (tgt := 52) dX0_firstPlacedNeighbour_11 rfl (fun h_11 => ?_) (fun h_11 => ?_)
    · refine G_bipush (pc := 52) (x := (-2)) dX0_firstPlacedNeighbour_52 rfl (by decide) ?_
      exact G_ireturn (pc := 54) dX0_firstPlacedNeighbour_54 (qeq (by
        have hfst : fst (nbP (t 13) (t 15) (t 25) r) 0 (t 272 0) = -2 := by
          refine fst_none (fun l l0 l1 hP => ?_)
          obtain ⟨j, j1, j2, j3⟩ := hs3 l l0 l1 hP.1
          have := hN (j - t 28 r) (by omega) (by omega)
          rw [show t 28 r + (j - t 28 r) = j by omega, j3] at this
          exact this hP
        unfold nbS
        rw [hfst, if_pos (by omega)]))
    · have hl9 := hs1 (t 28 r + i) (by omega) (by omega)
      obtain ⟨hfr, hto, -, -⟩ := hS.2 _ hl9.1.1 hl9.1.2
      refine G_aload_n (pc := 14) dX0_firstPlacedNeighbour_14 rfl ?_
      refine G_getP (pc := 15) dX0_firstPlacedNeighbour_15 fk_X0_9 rfl rfl rfl ?_
      refine G_aload_n (pc := 18) dX0_firstPlacedNeighbour_18 rfl ?_
      refine G_getP (pc := 19) dX0_firstPlacedNeighbour_19 fk_X0_15 rfl rfl rfl ?_
      refine G_iload_n (pc := 22) dX0_firstPlacedNeighbour_22 rfl ?_
      refine G_iload_n (pc := 23) dX0_firstPlacedNeighbour_23 rfl ?_
      refine G_cV1 (pc := 24) (c_X6_get _ _ _ (by omega)) dX0_firstPlacedNeighbour_24 ml_X0_35 rfl rfl rfl (by decide) (Nat.le_of_ble_eq_true rfl) ?_
      refine G_iload_n (pc := 27) dX0_firstPlacedNeighbour_27 rfl ?_
      refine G_cV1 (pc := 28) (c_X5_otherEnd _ _ _ (by omega)) dX0_firstPlacedNeighbour_28 ml_X0_45 rfl rfl rfl (by decide) (Nat.le_of_ble_eq_true rfl) ?_
      change G E cX0_firstPlacedNeighbour RX0 (some .int) 1 (28 + 3) _ [mI (othE (t 13) (t 15) r (t 29 (t 28 r + i)))] t _
      have ho : 0 ≤ othE (t 13) (t 15) r (t 29 (t 28 r + i)) ∧ othE (t 13) (t 15) r (t 29 (t 28 r + i)) < t 267 0 := by unfold othE; split <;> assumption
      refine G_istore (pc := 31) dX0_firstPlacedNeighbour_31 (Nat.le_of_ble_eq_true rfl) rfl ?_
      refine G_aload_n (pc := 33) dX0_firstPlacedNeighbour_33 rfl ?_
      refine G_getP (pc := 34) dX0_firstPlacedNeighbour_34 fk_X0_48 rfl rfl rfl ?_
      refine G_iload (pc := 37) dX0_firstPlacedNeighbour_37 rfl ?_
      refine G_baload (pc := 39) dX0_firstPlacedNeighbour_39 rfl rfl (by omega) ?_
      refine G_if_eq (pc := 40) (tgt := 46) dX0_firstPlacedNeighbour_40 rfl (fun h_40 => ?_) (fun h_40 => ?_)
      · try simp only [bq0, ne_eq, Classical.not_not] at h_40
        refine G_iinc (pc := 46) dX0_firstPlacedNeighbour_46 rfl rfl (by omega) ?_
        refine G_goto (pc := 49) (tgt := 2) dX0_firstPlacedNeighbour_49 rfl ?_
        refine ih (by omega) _ (by omega) (fun j j0 j1 => ?_)
        by_cases e : j = i
        · rw [e]; exact fun z => z.2 h_40
        · exact hN j j0 (by omega)
      · try simp only [bq0, ne_eq, Classical.not_not] at h_40
        refine G_iload (pc := 43) dX0_firstPlacedNeighbour_43 rfl ?_
        exact G_ireturn (pc := 45) dX0_firstPlacedNeighbour_45 (qeq (by
          have hfst : fst (nbP (t 13) (t 15) (t 25) r) 0 (t 272 0) = t 29 (t 28 r + i) := by
            rcases fst_spec (nbP (t 13) (t 15) (t 25) r) 0 (t 272 0) with ⟨a, b⟩ | ⟨a, b, c, e⟩
            · exact absurd ⟨hl9.2, h_40⟩ (b _ hl9.1.1 hl9.1.2)
            · obtain ⟨j, j1, j2, j3⟩ := hs3 _ a b c.1
              rcases Int.lt_trichotomy j (t 28 r + i) with q | q | q
              · have := hN (j - t 28 r) (by omega) (by omega)
                rw [show t 28 r + (j - t 28 r) = j by omega, j3] at this
                exact absurd c this
              · rw [← j3, q]
              · have := hs2 _ j (by omega) q j2
                rw [j3] at this
                exact absurd ⟨hl9.2, h_40⟩ (e _ hl9.1.1 this)
          unfold nbS
          rw [hfst, if_neg (by omega)]))
  refine G_iconst (pc := 0) dX0_firstPlacedNeighbour_0 (by decide) ?_
  refine G_istore_n (pc := 1) dX0_firstPlacedNeighbour_1 (Nat.le_of_ble_eq_true rfl) rfl ?_
  exact loop 0 (by omega) _ (by omega) (fun j j0 j1 => by omega)
theorem c_X0_lookAround_4 (t : Sto) (mx my far : Int) (hn : 0 ≤ t 267 0 ∧ t 267 0 ≤ 24) (hmx : -1000000 ≤ mx ∧ mx ≤ 1000000) (hmy : -1000000 ≤ my ∧ my ≤ 1000000) (hf : 1 ≤ far ∧ far ≤ 24) : CT yX0_lookAround cX0_lookAround 7 (some .boolean) 1 [mP 7, mP 4, mI mx, mI my, mI far] t (fun a t' => ∃ x, a = some (mI x) ∧ ((x = 0 ∨ x = 1) ∧ (x = 1 ↔ 0 ≤ ringS (t 267 0) (t 25) (t 22) (t 23) (t 24) mx my (t 652 0) far) ∧ ∃ px py, t' = pos3 t px py (t 652 0) ∧ (x = 1 → px = rgX mx far (ringS (t 267 0) (t 25) (t 22) (t 23) (t 24) mx my (t 652 0) far) ∧ py = rgY my far (ringS (t 267 0) (t 25) (t 22) (t 23) (t 24) mx my (t 652 0) far)))) := by
  refine CT_of rfl rfl (Nat.le_of_ble_eq_true rfl) (fun E ht has => ?_)
  generalize hZ : ringS (t 267 0) (t 25) (t 22) (t 23) (t 24) mx my (t 652 0) far = Z
  have loop : ∀ dy, dy ≤ far + 1 → ∀ (a b : Int) (o6 : Option MV), -far ≤ dy → fst (fun j => atS (t 267 0) (t 25) (t 22) (t 23) (t 24) (rgX mx far j) (rgY my far j) (t 652 0) < 0) (2 * (dy + far)) (4 * far + 2) = Z → G E cX0_lookAround RX0 (some .boolean) 1 5 [some (mP 7), some (mP 4), some (mI mx), some (mI my), some (mI far), some (mI dy), o6] [] (pos3 t a b (t 652 0)) (fun r t' => ∃ x, r = some (mI x) ∧ ((x = 0 ∨ x = 1) ∧ (x = 1 ↔ 0 ≤ Z) ∧ ∃ px py, t' = pos3 t px py (t 652 0) ∧ (x = 1 → px = rgX mx far Z ∧ py = rgY my far Z))) := by
    refine up_ind (fun dy hdy ih a b o6 h0 hX => ?_)
    have e1 : rgX mx far (2 * (dy + far)) = mx - (far - absI dy) := by unfold rgX; rw [if_pos (by omega), show -far + 2 * (dy + far) / 2 = dy by omega]
    have e2 : rgX mx far (2 * (dy + far) + 1) = mx + (far - absI dy) := by unfold rgX; rw [if_neg (by omega), show -far + (2 * (dy + far) + 1) / 2 = dy by omega]
    have e3 : rgY my far (2 * (dy + far)) = my + dy := by unfold rgY; rw [show -far + 2 * (dy + far) / 2 = dy by omega]
    have e4 : rgY my far (2 * (dy + far) + 1) = my + dy := by unfold rgY; rw [show -far + (2 * (dy + far) + 1) / 2 = dy by omega]
    have ha : 0 ≤ absI dy ∧ absI dy ≤ 25 := by unfold absI; split <;> omega
    have q1 : ∀ z, su (pos3 t a b (t 652 0)) 651 0 z = pos3 t a z (t 652 0) := fun z => by
      unfold pos3
      funext w j
      unfold su
      by_cases h2 : w = 651
      · subst h2; by_cases hj : j = 0 <;> simp [hj]
      · simp [h2]
    have q2 : ∀ y z, su (pos3 t a y (t 652 0)) 650 0 z = pos3 t z y (t 652 0) := fun y z => by
      unfold pos3
      funext w j
      unfold su
      by_cases h2 : w = 650
      · subst h2; by_cases hj : j = 0 <;> simp [hj]
      · simp [h2]
    have q3 : ∀ x y z, su (pos3 t x y (t 652 0)) 650 0 z = pos3 t z y (t 652 0) := fun x y z => by
      unfold pos3
      funext w j
      unfold su
      by_cases h2 : w = 650
      · subst h2; by_cases hj : j = 0 <;> simp [hj]
      · simp [h2]
    have pn : ∀ x y, pos3 t x y (t 652 0) 267 = t 267 ∧ pos3 t x y (t 652 0) 22 = t 22 ∧ pos3 t x y (t 652 0) 23 = t 23 ∧ pos3 t x y (t 652 0) 24 = t 24 ∧ pos3 t x y (t 652 0) 25 = t 25 := fun x y => ⟨pos3_ne t _ _ _ (by decide), pos3_ne t _ _ _ (by decide), pos3_ne t _ _ _ (by decide), pos3_ne t _ _ _ (by decide), pos3_ne t _ _ _ (by decide)⟩
    have p9 : ∀ x y, pos3 t x y (t 652 0) 650 0 = x ∧ pos3 t x y (t 652 0) 651 0 = y ∧ pos3 t x y (t 652 0) 652 0 = t 652 0 := fun x y => pos3_at t x y (t 652 0)
    refine G_iload (pc := 5) dX0_lookAround_5 rfl ?_
    refine G_iload (pc := 7) dX0_lookAround_7 rfl ?_
    refine G_icmp_gt (pc := 9) (tgt := 94) dX0_lookAround_9 rfl (fun h_9 => ?_) (fun h_9 => ?_)
    · refine G_iconst (pc := 94) dX0_lookAround_94 (by decide) ?_
      exact G_zreturn (pc := 95) dX0_lookAround_95 (by first | exact Or.inl rfl | exact Or.inr rfl | omega | (split <;> first | exact Or.inl rfl | exact Or.inr rfl)) ⟨0, rfl, Or.inl rfl, ⟨fun z => by omega, fun z => by rw [fst_ge (by omega)] at hX; omega⟩, _, _, rfl, fun z => by omega⟩
    · refine G_iload (pc := 12) dX0_lookAround_12 rfl ?_
      refine G_iload (pc := 14) dX0_lookAround_14 rfl ?_
      refine G_abs (pc := 16) dX0_lookAround_16 ml_X0_95 (by decide) (Nat.le_of_ble_eq_true rfl) (by omega) ?_
      change G E cX0_lookAround RX0 (some .boolean) 1 (16 + 3) _ [mI (absI dy), mI far] _ _
      refine G_isub (pc := 19) dX0_lookAround_19 (by omega) ?_
      refine G_istore (pc := 20) dX0_lookAround_20 (Nat.le_of_ble_eq_true rfl) rfl ?_
      refine G_aload_n (pc := 22) dX0_lookAround_22 rfl ?_
      refine G_iload_n (pc := 23) dX0_lookAround_23 rfl ?_
      refine G_iload (pc := 24) dX0_lookAround_24 rfl ?_
      refine G_iadd (pc := 26) dX0_lookAround_26 (by omega) ?_
      refine G_put (pc := 27) dX0_lookAround_27 fk_X0_29 fw_X0_3 rfl rfl rfl (fun h => absurd h (by decide)) ?_
      rw [q1]
      refine G_aload_n (pc := 30) dX0_lookAround_30 rfl ?_
      refine G_iload_n (pc := 31) dX0_lookAround_31 rfl ?_
      refine G_iload (pc := 32) dX0_lookAround_32 rfl ?_
      refine G_isub (pc := 34) dX0_lookAround_34 (by omega) ?_
      refine G_put (pc := 35) dX0_lookAround_35 fk_X0_25 fw_X0_2 rfl rfl rfl (fun h => absurd h (by decide)) ?_
      rw [q2]
      refine G_aload_n (pc := 38) dX0_lookAround_38 rfl ?_
      refine G_aload_n (pc := 39) dX0_lookAround_39 rfl ?_
      refine G_getI (pc := 40) dX0_lookAround_40 fk_X0_25 rfl rfl rfl ?_
      try simp (disch := decide) only [su_ne, su_at, su_same, sv_ne, sv_at]
      refine G_aload_n (pc := 43) dX0_lookAround_43 rfl ?_
      refine G_getI (pc := 44) dX0_lookAround_44 fk_X0_29 rfl rfl rfl ?_
      try simp (disch := decide) only [su_ne, su_at, su_same, sv_ne, sv_at]
      refine G_aload_n (pc := 47) dX0_lookAround_47 rfl ?_
      refine G_getI (pc := 48) dX0_lookAround_48 fk_X0_32 rfl rfl rfl ?_
      try simp (disch := decide) only [su_ne, su_at, su_same, sv_ne, sv_at]
      rw [(p9 _ _).1, (p9 _ _).2.1, (p9 _ _).2.2]
      refine G_cV1 (pc := 51) (c_X2_isFree_4 _ _ _ _ (by rw [(pn _ _).1]; omega)) dX0_lookAround_51 ml_X0_72 rfl rfl rfl (by decide) (Nat.le_of_ble_eq_true rfl) ?_
      rw [(pn _ _).1, (pn _ _).2.1, (pn _ _).2.2.1, (pn _ _).2.2.2.1, (pn _ _).2.2.2.2, ← e1, ← e3]
      refine G_if_eq (pc := 54) (tgt := 59) dX0_lookAround_54 rfl (fun h_54 => ?_) (fun h_54 => ?_)
      · try simp only [bq0, ne_eq, Classical.not_not] at h_54
        rw [fst_neg (by omega) (by exact h_54)] at hX
        refine G_aload_n (pc := 59) dX0_lookAround_59 rfl ?_
        refine G_iload_n (pc := 60) dX0_lookAround_60 rfl ?_
        refine G_iload (pc := 61) dX0_lookAround_61 rfl ?_
        refine G_iadd (pc := 63) dX0_lookAround_63 (by omega) ?_
        refine G_put (pc := 64) dX0_lookAround_64 fk_X0_25 fw_X0_2 rfl rfl rfl (fun h => absurd h (by decide)) ?_
        rw [q3]
        refine G_aload_n (pc := 67) dX0_lookAround_67 rfl ?_
        refine G_aload_n (pc := 68) dX0_lookAround_68 rfl ?_
        refine G_getI (pc := 69) dX0_lookAround_69 fk_X0_25 rfl rfl rfl ?_
        try simp (disch := decide) only [su_ne, su_at, su_same, sv_ne, sv_at]
        refine G_aload_n (pc := 72) dX0_lookAround_72 rfl ?_
        refine G_getI (pc := 73) dX0_lookAround_73 fk_X0_29 rfl rfl rfl ?_
        try simp (disch := decide) only [su_ne, su_at, su_same, sv_ne, sv_at]
        refine G_aload_n (pc := 76) dX0_lookAround_76 rfl ?_
        refine G_getI (pc := 77) dX0_lookAround_77 fk_X0_32 rfl rfl rfl ?_
        try simp (disch := decide) only [su_ne, su_at, su_same, sv_ne, sv_at]
        rw [(p9 _ _).1, (p9 _ _).2.1, (p9 _ _).2.2]
        refine G_cV1 (pc := 80) (c_X2_isFree_4 _ _ _ _ (by rw [(pn _ _).1]; omega)) dX0_lookAround_80 ml_X0_72 rfl rfl rfl (by decide) (Nat.le_of_ble_eq_true rfl) ?_
        rw [(pn _ _).1, (pn _ _).2.1, (pn _ _).2.2.1, (pn _ _).2.2.2.1, (pn _ _).2.2.2.2, ← e2, e3, ← e4]
        refine G_if_eq (pc := 83) (tgt := 88) dX0_lookAround_83 rfl (fun h_83 => ?_) (fun h_83 => ?_)
        · try simp only [bq0, ne_eq, Classical.not_not] at h_83
          rw [fst_neg (by omega) (by exact h_83)] at hX
          refine G_iinc (pc := 88) dX0_lookAround_88 rfl rfl (by omega) ?_
          refine G_goto (pc := 91) (tgt := 5) dX0_lookAround_91 rfl ?_
          refine ih (by omega) _ _ _ (by omega) ?_
          rw [← hX]
          congr 1
          omega
        · try simp only [bq0, ne_eq, Classical.not_not] at h_83
          rw [fst_pos (by omega) (by exact h_83)] at hX
          refine G_iconst (pc := 86) dX0_lookAround_86 (by decide) ?_
          exact G_zreturn (pc := 87) dX0_lookAround_87 (by first | exact Or.inl rfl | exact Or.inr rfl | omega | (split <;> first | exact Or.inl rfl | exact Or.inr rfl)) ⟨1, rfl, Or.inr rfl, ⟨fun _ => by omega, fun _ => rfl⟩, _, _, by rw [e2, e4], fun _ => by rw [← hX]; exact ⟨e2.symm, e4.symm⟩⟩
      · try simp only [bq0, ne_eq, Classical.not_not] at h_54
        rw [fst_pos (by omega) (by exact h_54)] at hX
        refine G_iconst (pc := 57) dX0_lookAround_57 (by decide) ?_
        exact G_zreturn (pc := 58) dX0_lookAround_58 (by first | exact Or.inl rfl | exact Or.inr rfl | omega | (split <;> first | exact Or.inl rfl | exact Or.inr rfl)) ⟨1, rfl, Or.inr rfl, ⟨fun _ => by omega, fun _ => rfl⟩, _, _, by rw [e1, e3], fun _ => by rw [← hX]; exact ⟨e1.symm, e3.symm⟩⟩
  refine G_iload (pc := 0) dX0_lookAround_0 rfl ?_
  refine G_ineg (pc := 2) dX0_lookAround_2 (by omega) ?_
  refine G_istore (pc := 3) dX0_lookAround_3 (Nat.le_of_ble_eq_true rfl) rfl ?_
  have h := loop (-far) (by omega) (t 650 0) (t 651 0) none (by omega) (by rw [show 2 * (-far + far) = 0 by omega]; exact hZ)
  rw [pos3_id] at h
  exact h
theorem c_X0_lookAtSpare_4 (t : Sto) (r : Int) (hS : SC t) (hT : TIC t) (hr : 0 ≤ r ∧ r < t 267 0) (hnb : 0 ≤ nbS (t 272 0) (t 13) (t 15) (t 25) r) (hX : BD (t 22)) (hY : BD (t 23)) (hL : BD (t 24)) : CT yX0_lookAtSpare cX0_lookAtSpare 5 none 2 [mP 7, mP 4, mI r] t (fun a t' => a = none ∧ t' = pos3 t (spX (t 267 0) (t 272 0) (t 13) (t 15) (t 25) (t 22) (t 23) (t 24) r) (spY (t 267 0) (t 272 0) (t 13) (t 15) (t 25) (t 22) (t 23) (t 24) r) (spL (t 272 0) (t 13) (t 15) (t 25) (t 24) r)) := by
  refine CT_of rfl rfl (Nat.le_of_ble_eq_true rfl) (fun E ht has => ?_)
  have hb := hS.1
  have hnr := nbS_r (ps := t 25) hS r
  unfold spX spY spL
  generalize hoo : nbS (t 272 0) (t 13) (t 15) (t 25) r = o at *
  have hsf := spFar_ok (n := t 267 0) (ps := t 25) (xs := t 22) (ys := t 23) (ls := t 24) (by omega) (t 22 o) (t 23 o) (t 24 o)
  have hxo := hX o
  have hyo := hY o
  generalize hZ : spFar (t 267 0) (t 25) (t 22) (t 23) (t 24) (t 22 o) (t 23 o) (t 24 o) = Z at *
  have loop : ∀ far, far ≤ 25 → ∀ (a b : Int), 1 ≤ far → fst (fun far => 0 ≤ ringS (t 267 0) (t 25) (t 22) (t 23) (t 24) (t 22 o) (t 23 o) (t 24 o) far) far 25 = Z → G E cX0_lookAtSpare RX0 none 2 25 [some (mP 7), some (mP 4), some (mI r), some (mI o), some (mI far)] [] (pos3 t a b (t 24 o)) (fun a t' => a = none ∧ t' = pos3 t (rgX (t 22 o) Z (ringS (t 267 0) (t 25) (t 22) (t 23) (t 24) (t 22 o) (t 23 o) (t 24 o) Z)) (rgY (t 23 o) Z (ringS (t 267 0) (t 25) (t 22) (t 23) (t 24) (t 22 o) (t 23 o) (t 24 o) Z)) (t 24 o)) := by
    refine up_ind (fun far hfar ih a b h0 hX0 => ?_)
    have p1 := pos3_ne t a b (t 24 o) (w := 267) (by decide)
    have p2 := pos3_ne t a b (t 24 o) (w := 22) (by decide)
    have p3 := pos3_ne t a b (t 24 o) (w := 23) (by decide)
    have p4 := pos3_ne t a b (t 24 o) (w := 24) (by decide)
    have p5 := pos3_ne t a b (t 24 o) (w := 25) (by decide)
    have p6 := (pos3_at t a b (t 24 o)).2.2
    refine G_iload (pc := 25) dX0_lookAtSpare_25 rfl ?_
    refine G_bipush (pc := 27) (x := 24) dX0_lookAtSpare_27 rfl (by decide) ?_
    refine G_icmp_gt (pc := 29) (tgt := 61) dX0_lookAtSpare_29 rfl (fun h_29 => ?_) (fun h_29 => ?_)
    · rw [fst_ge (by omega)] at hX0; omega
    · refine G_aload_n (pc := 32) dX0_lookAtSpare_32 rfl ?_
      refine G_aload_n (pc := 33) dX0_lookAtSpare_33 rfl ?_
      refine G_aload_n (pc := 34) dX0_lookAtSpare_34 rfl ?_
      refine G_getP (pc := 35) dX0_lookAtSpare_35 fk_X0_57 rfl rfl rfl ?_
      refine G_iload_n (pc := 38) dX0_lookAtSpare_38 rfl ?_
      refine G_iaload (pc := 39) dX0_lookAtSpare_39 rfl rfl (by omega) ?_
      rw [p2]
      refine G_aload_n (pc := 40) dX0_lookAtSpare_40 rfl ?_
      refine G_getP (pc := 41) dX0_lookAtSpare_41 fk_X0_62 rfl rfl rfl ?_
      refine G_iload_n (pc := 44) dX0_lookAtSpare_44 rfl ?_
      refine G_iaload (pc := 45) dX0_lookAtSpare_45 rfl rfl (by omega) ?_
      rw [p3]
      refine G_iload (pc := 46) dX0_lookAtSpare_46 rfl ?_
      refine G_cVg1 (pc := 48) (c_X0_lookAround_4 _ _ _ _ (by rw [p1]; omega) (by omega) (by omega) (by omega)) dX0_lookAtSpare_48 ml_X0_91 rfl rfl rfl (by decide) (Nat.le_of_ble_eq_true rfl) (fun r_48 t_48 hq_48 => ?_)
      rw [p1, p2, p3, p4, p5, p6] at hq_48
      obtain ⟨hx01, hxi, px, py, rfl, hpp⟩ := hq_48
      rw [pos3_pos3]
      refine G_if_eq (pc := 51) (tgt := 55) dX0_lookAtSpare_51 rfl (fun h_51 => ?_) (fun h_51 => ?_)
      · try simp only [bq0, ne_eq, Classical.not_not] at h_51
        have hno : ¬ 0 ≤ ringS (t 267 0) (t 25) (t 22) (t 23) (t 24) (t 22 o) (t 23 o) (t 24 o) far := fun z => by have := hxi.mpr z; omega
        rw [fst_neg (by omega) (by exact hno)] at hX0
        refine G_iinc (pc := 55) dX0_lookAtSpare_55 rfl rfl (by omega) ?_
        refine G_goto (pc := 58) (tgt := 25) dX0_lookAtSpare_58 rfl ?_
        exact ih (by omega) _ _ (by omega) hX0
      · try simp only [bq0, ne_eq, Classical.not_not] at h_51
        have hx1 : r_48 = 1 := by omega
        rw [fst_pos (by omega) (by exact hxi.mp hx1)] at hX0
        exact G_return (pc := 54) dX0_lookAtSpare_54 ⟨rfl, by rw [← hX0, (hpp hx1).1, (hpp hx1).2]⟩
  refine G_aload_n (pc := 0) dX0_lookAtSpare_0 rfl ?_
  refine G_aload_n (pc := 1) dX0_lookAtSpare_1 rfl ?_
  refine G_iload_n (pc := 2) dX0_lookAtSpare_2 rfl ?_
  refine G_cV1 (pc := 3) (c_X0_firstPlacedNeighbour_4 _ _ (by exact hS) (by exact hT) (by omega)) dX0_lookAtSpare_3 ml_X0_87 rfl rfl rfl (by decide) (Nat.le_of_ble_eq_true rfl) ?_
  rw [hoo]
  refine G_istore_n (pc := 6) dX0_lookAtSpare_6 (Nat.le_of_ble_eq_true rfl) rfl ?_
  refine G_iload_n (pc := 7) dX0_lookAtSpare_7 rfl ?_
  refine G_if_ge (pc := 8) (tgt := 12) dX0_lookAtSpare_8 rfl (fun h_8 => ?_) (fun h_8 => ?_)
  · refine G_aload_n (pc := 12) dX0_lookAtSpare_12 rfl ?_
    refine G_aload_n (pc := 13) dX0_lookAtSpare_13 rfl ?_
    refine G_getP (pc := 14) dX0_lookAtSpare_14 fk_X0_67 rfl rfl rfl ?_
    refine G_iload_n (pc := 17) dX0_lookAtSpare_17 rfl ?_
    refine G_iaload (pc := 18) dX0_lookAtSpare_18 rfl rfl (by omega) ?_
    refine G_put (pc := 19) dX0_lookAtSpare_19 fk_X0_32 fw_X0_4 rfl rfl rfl (fun h => absurd h (by decide)) ?_
    refine G_iconst (pc := 22) dX0_lookAtSpare_22 (by decide) ?_
    refine G_istore (pc := 23) dX0_lookAtSpare_23 (Nat.le_of_ble_eq_true rfl) rfl ?_
    have e : su t 652 0 (t 24 o) = pos3 t (t 650 0) (t 651 0) (t 24 o) := by
      have e9 : ∀ u : Sto, u = t → su t 652 0 (t 24 o) = su (su u 651 0 (t 651 0)) 652 0 (t 24 o) := fun u hu => by rw [hu, su_id]
      unfold pos3
      exact e9 _ (su_id t 650 0)
    rw [e]
    exact loop 1 (by omega) _ _ (by omega) hZ
  · exact absurd hnb h_8
theorem c_X0_lookAtFirst_4 (t : Sto) (r : Int) (hS : SC t) (hT : TIC t) (hr : 0 ≤ r ∧ r < t 267 0) (hnb : 0 ≤ nbS (t 272 0) (t 13) (t 15) (t 25) r) (hX : BD (t 22)) (hY : BD (t 23)) (hL : BD (t 24)) : CT yX0_lookAtFirst cX0_lookAtFirst 4 none 3 [mP 7, mP 4, mI r] t (fun a t' => a = none ∧ t' = pos3 t (fcX (t 267 0) (t 272 0) (t 13) (t 14) (t 15) (t 25) (t 22) (t 23) (t 24) r) (fcY (t 267 0) (t 272 0) (t 13) (t 14) (t 15) (t 25) (t 22) (t 23) (t 24) r) (fcL (t 267 0) (t 272 0) (t 13) (t 14) (t 15) (t 25) (t 22) (t 23) (t 24) r)) := by
  refine CT_of rfl rfl (Nat.le_of_ble_eq_true rfl) (fun E ht has => ?_)
  have hb := hS.1
  have hF := (hT r hr.1 hr.2).1
  obtain ⟨u1, u2, u3⟩ := mu_ok hT hr.1 hr.2
  have hfm := fst_mu (P := candM (t 267 0) (t 13) (t 14) (t 15) (t 25) (t 22) (t 23) (t 24) r) (μ := muT (t 28) (t 29) r) (B := 3 * (t 28 (r + 1) - t 28 r)) (K := 3 * t 272 0) (fun c c0 c1 => (u1 c c0 c1).1) u2 (fun m m0 m1 hP => u3 m m0 m1 hP.1.1)
  have hfe : firstM (t 267 0) (t 272 0) (t 13) (t 14) (t 15) (t 25) (t 22) (t 23) (t 24) r = fst (candM (t 267 0) (t 13) (t 14) (t 15) (t 25) (t 22) (t 23) (t 24) r) 0 (3 * t 272 0) := rfl
  rw [← hfe] at hfm
  unfold fcX fcY fcL
  generalize firstM (t 267 0) (t 272 0) (t 13) (t 14) (t 15) (t 25) (t 22) (t 23) (t 24) r = Z at *
  generalize hZ2 : fst (fun c => candM (t 267 0) (t 13) (t 14) (t 15) (t 25) (t 22) (t 23) (t 24) r (muT (t 28) (t 29) r c)) 0 (3 * (t 28 (r + 1) - t 28 r)) = Z2 at *
  have loop : ∀ c, c ≤ 3 * (t 28 (r + 1) - t 28 r) → ∀ (a b d : Int), 0 ≤ c → fst (fun c => candM (t 267 0) (t 13) (t 14) (t 15) (t 25) (t 22) (t 23) (t 24) r (muT (t 28) (t 29) r c)) c (3 * (t 28 (r + 1) - t 28 r)) = Z2 → G E cX0_lookAtFirst RX0 none 3 2 [some (mP 7), some (mP 4), some (mI r), some (mI c)] [] (pos3 t a b d) (fun a t' => a = none ∧ t' = pos3 t (if 0 ≤ Z then chX (t 13) (t 14) (t 15) (t 22) r Z else spX (t 267 0) (t 272 0) (t 13) (t 15) (t 25) (t 22) (t 23) (t 24) r) (if 0 ≤ Z then chY (t 13) (t 14) (t 15) (t 23) r Z else spY (t 267 0) (t 272 0) (t 13) (t 15) (t 25) (t 22) (t 23) (t 24) r) (if 0 ≤ Z then chL (t 13) (t 14) (t 15) (t 24) r Z else spL (t 272 0) (t 13) (t 15) (t 25) (t 24) r)) := by
    refine up_ind (fun c hc ih a b d h0 hX0 => ?_)
    have pw : ∀ w : Nat, (w ≠ 650 ∧ w ≠ 651 ∧ w ≠ 652) → pos3 t a b d w = t w := fun w h => pos3_ne t a b d h
    have p1 := pw 267 (by decide)
    have p2 := pw 272 (by decide)
    have p3 := pw 13 (by decide)
    have p4 := pw 14 (by decide)
    have p5 := pw 15 (by decide)
    have p6 := pw 16 (by decide)
    have p7 := pw 28 (by decide)
    have p8 := pw 29 (by decide)
    have p9 := pw 22 (by decide)
    have p10 := pw 23 (by decide)
    have p11 := pw 24 (by decide)
    have p12 := pw 25 (by decide)
    have hS1 : SC (pos3 t a b d) := by unfold SC; rw [p1, p2, p3, p4, p5, p6]; exact hS
    have hT1 : TIC (pos3 t a b d) := by unfold TIC; rw [p1, p2, p3, p5, p7, p8]; exact hT
    refine G_iload_n (pc := 2) dX0_lookAtFirst_2 rfl ?_
    refine G_aload_n (pc := 3) dX0_lookAtFirst_3 rfl ?_
    refine G_iload_n (pc := 4) dX0_lookAtFirst_4 rfl ?_
    refine G_cV1 (pc := 5) (c_X0_bound _ _ (by rw [p7]; omega)) dX0_lookAtFirst_5 ml_X0_76 rfl rfl rfl (by decide) (Nat.le_of_ble_eq_true rfl) ?_
    rw [p7]
    refine G_icmp_ge (pc := 8) (tgt := 28) dX0_lookAtFirst_8 rfl (fun h_8 => ?_) (fun h_8 => ?_)
    · refine G_aload_n (pc := 28) dX0_lookAtFirst_28 rfl ?_
      refine G_aload_n (pc := 29) dX0_lookAtFirst_29 rfl ?_
      refine G_iload_n (pc := 30) dX0_lookAtFirst_30 rfl ?_
      refine G_cV0 (pc := 31) (c_X0_lookAtSpare_4 _ _ (by exact hS1) (by exact hT1) (by rw [p1]; exact hr) (by rw [p2, p3, p5, p12]; exact hnb) (by rw [p9]; exact hX) (by rw [p10]; exact hY) (by rw [p11]; exact hL)) dX0_lookAtFirst_31 ml_X0_83 rfl rfl rfl (by decide) (Nat.le_of_ble_eq_true rfl) ?_
      exact G_return (pc := 34) dX0_lookAtFirst_34 ⟨rfl, by
        rw [fst_ge (by omega)] at hX0
        have hz := hfm.2 (by omega)
        rw [hz, if_neg (by omega), if_neg (by omega), if_neg (by omega), pos3_pos3, p1, p2, p3, p5, p9, p10, p11, p12]⟩
    · refine G_aload_n (pc := 11) dX0_lookAtFirst_11 rfl ?_
      refine G_aload_n (pc := 12) dX0_lookAtFirst_12 rfl ?_
      refine G_iload_n (pc := 13) dX0_lookAtFirst_13 rfl ?_
      refine G_iload_n (pc := 14) dX0_lookAtFirst_14 rfl ?_
      refine G_cVg1 (pc := 15) (c_X0_lookAtChance_4 _ _ _ (by exact hS1) (by exact hT1) (by rw [p1]; exact hr) (by rw [p7]; omega) (by rw [p9]; exact hX) (by rw [p10]; exact hY) (by rw [p11]; exact hL)) dX0_lookAtFirst_15 ml_X0_79 rfl rfl rfl (by decide) (Nat.le_of_ble_eq_true rfl) (fun r_15 t_15 hq_15 => ?_)
      rw [p1, p3, p4, p5, p7, p8, p9, p10, p11, p12] at hq_15
      obtain ⟨hx01, hxi, px, py, pl, rfl, hpp⟩ := hq_15
      rw [pos3_pos3]
      refine G_if_eq (pc := 18) (tgt := 22) dX0_lookAtFirst_18 rfl (fun h_18 => ?_) (fun h_18 => ?_)
      · try simp only [bq0, ne_eq, Classical.not_not] at h_18
        rw [fst_neg (by omega) (by exact fun z => by have := hxi.mpr z; omega)] at hX0
        refine G_iinc (pc := 22) dX0_lookAtFirst_22 rfl rfl (by omega) ?_
        refine G_goto (pc := 25) (tgt := 2) dX0_lookAtFirst_25 rfl ?_
        exact ih (by omega) _ _ _ (by omega) hX0
      · try simp only [bq0, ne_eq, Classical.not_not] at h_18
        have hx1 : r_15 = 1 := by omega
        rw [fst_pos (by omega) (by exact hxi.mp hx1)] at hX0
        exact G_return (pc := 21) dX0_lookAtFirst_21 ⟨rfl, by
          subst hX0
          have hz := hfm.1 h0
          have hz0 := (u1 c h0 (by omega)).1.1
          rw [hz, if_pos hz0, if_pos hz0, if_pos hz0, (hpp hx1).1, (hpp hx1).2.1, (hpp hx1).2.2]⟩
  refine G_iconst (pc := 0) dX0_lookAtFirst_0 (by decide) ?_
  refine G_istore_n (pc := 1) dX0_lookAtFirst_1 (Nat.le_of_ble_eq_true rfl) rfl ?_
  have h := loop 0 (by omega) (t 650 0) (t 651 0) (t 652 0) (by omega) hZ2
  rw [pos3_id] at h
  exact h
