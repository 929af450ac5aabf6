/-! SPREADING: the class, walked -/
theorem sprF_end {e : SE} {f : Nat} {z : SPZ} (h : nxE e z.1 < 0) : sprF e f z = z := by
  cases f with
  | zero => rfl
  | succ f => unfold sprF; rw [if_pos h]
theorem sprF_go {e : SE} {f : Nat} {z : SPZ} (h : ¬ nxE e z.1 < 0) : sprF e (f + 1) z = sprF e f (sp1 e z) := by
  rw [sprF]
  rw [if_neg h]
def sq_3 (t : Sto) (r x y l : Int) : Sto := if t 527 0 < 24 then su (su (putC_3 (pos3 t x y l) r x y l) 527 0 (t 527 0 + 1)) 26 (t 527 0) r else putC_3 (pos3 t x y l) r x y l
theorem sq_ok_3 {e : SE} {b M : Int} {t : Sto} (hI : SPI_3 e b M t) (hn : ¬ nxE e (pF_3 t) < 0) : ∀ s, s = sq_3 t (nxE e (pF_3 t)) (fXE e (pF_3 t) (nxE e (pF_3 t))) (fYE e (pF_3 t) (nxE e (pF_3 t))) (fLE e (pF_3 t) (nxE e (pF_3 t))) → SPI_3 e b M s ∧ zS_3 s = sp1 e (zS_3 t) ∧ (∀ w, keptS_3 w → s w = t w) := by
  intro s hs
  obtain ⟨hr, hp0, hnb⟩ := nx_spec hn
  obtain ⟨⟨h1, h2, h3, h4, h5, h6⟩, hT, hS, hN, hB, hc, hm⟩ := hI
  have hfb := fc_b hS hB hnb
  have hcp : cntP e.n (fu (t 21) (nxE e (pF_3 t)) 1) = cntP e.n (t 21) + 1 := cntP_put hr.1 hr.2 hp0
  have hcr := cntP_r hS.1.1 (fu (t 21) (nxE e (pF_3 t)) 1)
  have hcr0 := cntP_r hS.1.1 (t 21)
  have hn24 := hS.1.2.1
  have e1 : sp1 e (zS_3 t) = (putF (pF_3 t) (nxE e (pF_3 t)) (fXE e (pF_3 t) (nxE e (pF_3 t))) (fYE e (pF_3 t) (nxE e (pF_3 t))) (fLE e (pF_3 t) (nxE e (pF_3 t))), if t 527 0 < 24 then fu (t 26) (t 527 0) (nxE e (pF_3 t)) else t 26, if t 527 0 < 24 then t 527 0 + 1 else t 527 0) := rfl
  rw [e1]
  generalize nxE e (pF_3 t) = r at *
  generalize fXE e (pF_3 t) r = x at *
  generalize fYE e (pF_3 t) r = y at *
  generalize fLE e (pF_3 t) r = l at *
  have base : ∀ w, keptS_3 w → s w = t w := by
    intro w hw
    rw [hs]
    unfold sq_3 putC_3
    split
    · rw [su_ne hw.2.2.2.2.1, su_ne hw.2.2.2.2.2.1, su_ne hw.2.2.2.1, su_ne hw.2.2.1, su_ne hw.2.1, su_ne hw.1, pos3_ne t _ _ _ ⟨hw.2.2.2.2.2.2.1, hw.2.2.2.2.2.2.2.1, hw.2.2.2.2.2.2.2.2⟩]
    · rw [su_ne hw.2.2.2.1, su_ne hw.2.2.1, su_ne hw.2.1, su_ne hw.1, pos3_ne t _ _ _ ⟨hw.2.2.2.2.2.2.1, hw.2.2.2.2.2.2.2.1, hw.2.2.2.2.2.2.2.2⟩]
  have qP : s 21 = fu (t 21) r 1 := by
    rw [hs]
    unfold sq_3 putC_3
    split
    · rw [su_ne (by decide), su_ne (by decide), su_row, sv_at, su_ne (by decide), su_ne (by decide), su_ne (by decide), pos3_ne t _ _ _ (by decide)]
    · rw [su_row, sv_at, su_ne (by decide), su_ne (by decide), su_ne (by decide), pos3_ne t _ _ _ (by decide)]
  have qL : s 20 = fu (t 20) r l := by
    rw [hs]
    unfold sq_3 putC_3
    split
    · rw [su_ne (by decide), su_ne (by decide), su_ne (by decide), su_row, sv_at, su_ne (by decide), su_ne (by decide), pos3_ne t _ _ _ (by decide)]
    · rw [su_ne (by decide), su_row, sv_at, su_ne (by decide), su_ne (by decide), pos3_ne t _ _ _ (by decide)]
  have qY : s 19 = fu (t 19) r y := by
    rw [hs]
    unfold sq_3 putC_3
    split
    · rw [su_ne (by decide), su_ne (by decide), su_ne (by decide), su_ne (by decide), su_row, sv_at, su_ne (by decide), pos3_ne t _ _ _ (by decide)]
    · rw [su_ne (by decide), su_ne (by decide), su_row, sv_at, su_ne (by decide), pos3_ne t _ _ _ (by decide)]
  have qX : s 18 = fu (t 18) r x := by
    rw [hs]
    unfold sq_3 putC_3
    split
    · rw [su_ne (by decide), su_ne (by decide), su_ne (by decide), su_ne (by decide), su_ne (by decide), su_row, sv_at, pos3_ne t _ _ _ (by decide)]
    · rw [su_ne (by decide), su_ne (by decide), su_ne (by decide), su_row, sv_at, pos3_ne t _ _ _ (by decide)]
  have q26 : s 26 = if t 527 0 < 24 then fu (t 26) (t 527 0) r else t 26 := by
    rw [hs]
    unfold sq_3 putC_3
    split
    · rw [su_row, sv_at, su_ne (by decide), su_ne (by decide), su_ne (by decide), su_ne (by decide), su_ne (by decide), pos3_ne t _ _ _ (by decide)]
    · rw [su_ne (by decide), su_ne (by decide), su_ne (by decide), su_ne (by decide), pos3_ne t _ _ _ (by decide)]
  have q527 : s 527 0 = if t 527 0 < 24 then t 527 0 + 1 else t 527 0 := by
    rw [hs]
    unfold sq_3 putC_3
    split
    · rw [su_ne (by decide), su_at]
    · rw [su_ne (by decide), su_ne (by decide), su_ne (by decide), su_ne (by decide), pos3_ne t _ _ _ (by decide)]
  have hpp : pF_3 s = putF (pF_3 t) r x y l := by
    unfold pF_3
    rw [qP, qX, qY, qL]
    rfl
  refine ⟨⟨?_, ?_, hS, ⟨?_, ?_, ?_⟩, ?_, ?_, hm⟩, ?_, base⟩
  · rw [base 267 (by unfold keptS_3; decide), base 272 (by unfold keptS_3; decide), base 13 (by unfold keptS_3; decide), base 14 (by unfold keptS_3; decide), base 15 (by unfold keptS_3; decide), base 16 (by unfold keptS_3; decide)]
    exact ⟨h1, h2, h3, h4, h5, h6⟩
  · unfold TIC
    rw [base 267 (by unfold keptS_3; decide), base 272 (by unfold keptS_3; decide), base 13 (by unfold keptS_3; decide), base 15 (by unfold keptS_3; decide), base 28 (by unfold keptS_3; decide), base 29 (by unfold keptS_3; decide)]
    exact hT
  · rw [qX]; exact BN_fu hN.1 (by omega)
  · rw [qY]; exact BN_fu hN.2.1 (by omega)
  · rw [qL]; exact BN_fu hN.2.2 (by omega)
  · rw [qP, hcp, hpp]
    intro i i0 i1 i2
    by_cases z : i = r
    · subst z
      obtain ⟨a1, a2, a3, a4⟩ := putF_at (pF_3 t) i x y l
      rw [a2, a3, a4]
      omega
    · obtain ⟨a1, a2, a3, a4⟩ := putF_ne (pF_3 t) z x y l
      rw [a1] at i2
      rw [a2, a3, a4]
      have := hB i i0 i1 i2
      omega
  · rw [q527]; split <;> omega
  · unfold zS_3
    rw [hpp, q26, q527]
theorem c_X3_spread_3 (t : Sto) (e : SE) (b M : Int) (hI : SPI_3 e b M t) : CT yX3_spread cX3_spread 4 none 4 [mP 5, mP 3] t (fun a t' => a = none ∧ (SPI_3 e b M t' ∧ zS_3 t' = sprF e 24 (zS_3 t) ∧ (∀ w, keptS_3 w → t' w = t w))) := by
  refine CT_of rfl rfl (Nat.le_of_ble_eq_true rfl) (fun E ht has => ?_)
  have loop : ∀ (f : Nat) (c : Int) (s : Sto) (o3 : Option MV), 0 ≤ c → c + f = 24 → SPI_3 e b M s → sprF e f (zS_3 s) = sprF e 24 (zS_3 t) → (∀ w, keptS_3 w → s w = t w) → G E cX3_spread RX3 none 4 2 [some (mP 5), some (mP 3), some (mI c), o3] [] s (fun a t' => a = none ∧ (SPI_3 e b M t' ∧ zS_3 t' = sprF e 24 (zS_3 t) ∧ (∀ w, keptS_3 w → t' w = t w))) := by
    intro f
    induction f with
    | zero =>
      intro c s o3 h0 hcf hs hz hw
      refine G_iload_n (pc := 2) dX3_spread_2 rfl ?_
      refine G_bipush (pc := 3) (x := 24) dX3_spread_3 rfl (by decide) ?_
      refine G_icmp_ge (pc := 5) (tgt := 86) dX3_spread_5 rfl (fun h_5 => ?_) (fun h_5 => ?_)
      · exact G_return (pc := 86) dX3_spread_86 ⟨rfl, hs, hz, hw⟩
      · exfalso; omega
    | succ f ih =>
      intro c s o3 h0 hcf hs hz hw
      have hSC := SPI_SC_3 hs
      obtain ⟨⟨h1, h2, h3, h4, h5, h6⟩, hT, hS, hN, hB, hc, hm⟩ := id hs
      have ex : ∀ r, fcX (s 267 0) (s 272 0) (s 13) (s 14) (s 15) (s 21) (s 18) (s 19) (s 20) r = fXE e (pF_3 s) r := fun r => by rw [h1, h2, h3, h4, h5]; rfl
      have ey : ∀ r, fcY (s 267 0) (s 272 0) (s 13) (s 14) (s 15) (s 21) (s 18) (s 19) (s 20) r = fYE e (pF_3 s) r := fun r => by rw [h1, h2, h3, h4, h5]; rfl
      have el : ∀ r, fcL (s 267 0) (s 272 0) (s 13) (s 14) (s 15) (s 21) (s 18) (s 19) (s 20) r = fLE e (pF_3 s) r := fun r => by rw [h1, h2, h3, h4, h5]; rfl
      have go : ∀ u, nxE e (pF_3 s) ≥ 0 → u = sq_3 s (nxE e (pF_3 s)) (fXE e (pF_3 s) (nxE e (pF_3 s))) (fYE e (pF_3 s) (nxE e (pF_3 s))) (fLE e (pF_3 s) (nxE e (pF_3 s))) → ∀ o3 : Option MV, G E cX3_spread RX3 none 4 2 [some (mP 5), some (mP 3), some (mI (c + 1)), o3] [] u (fun a t' => a = none ∧ (SPI_3 e b M t' ∧ zS_3 t' = sprF e 24 (zS_3 t) ∧ (∀ w, keptS_3 w → t' w = t w))) := by
        intro u hn hu o3
        have hn' : ¬ nxE e (pF_3 s) < 0 := by omega
        obtain ⟨y1, y2, y3⟩ := sq_ok_3 hs hn' u hu
        refine ih (c + 1) u o3 (by omega) (by omega) y1 ?_ (fun w hw' => (y3 w hw').trans (hw w hw'))
        rw [y2, ← hz, sprF_go (z := zS_3 s) hn']
      have hn24 := hS.1
      generalize hZ : nxE e (pF_3 s) = r at *
      have hsp : 0 ≤ r → (0 ≤ r ∧ r < e.n) ∧ 0 ≤ nbE e (pF_3 s) r := fun z => by
        have := nx_spec (e := e) (p := pF_3 s) (by omega)
        rw [hZ] at this
        exact ⟨this.1, this.2.2⟩
      have p1 := pos3_at s (fXE e (pF_3 s) r) (fYE e (pF_3 s) r) (fLE e (pF_3 s) r)
      have p527 : putC_3 (pos3 s (fXE e (pF_3 s) r) (fYE e (pF_3 s) r) (fLE e (pF_3 s) r)) r (fXE e (pF_3 s) r) (fYE e (pF_3 s) r) (fLE e (pF_3 s) r) 527 = s 527 := by
        unfold putC_3
        rw [su_ne (by decide), su_ne (by decide), su_ne (by decide), su_ne (by decide), pos3_ne s _ _ _ (by decide)]
      refine G_iload_n (pc := 2) dX3_spread_2 rfl ?_
      refine G_bipush (pc := 3) (x := 24) dX3_spread_3 rfl (by decide) ?_
      refine G_icmp_ge (pc := 5) (tgt := 86) dX3_spread_5 rfl (fun h_5 => ?_) (fun h_5 => ?_)
      · exfalso; omega
      · refine G_aload_n (pc := 8) dX3_spread_8 rfl ?_
        refine G_aload_n (pc := 9) dX3_spread_9 rfl ?_
        refine G_cV1 (pc := 10) (c_X3_nextRoom_3 _ (e) (b) (M) (by exact hs)) dX3_spread_10 ml_X3_137 rfl rfl rfl (by decide) (Nat.le_of_ble_eq_true rfl) ?_
        rw [hZ]
        refine G_istore_n (pc := 13) dX3_spread_13 (Nat.le_of_ble_eq_true rfl) rfl ?_
        refine G_iload_n (pc := 14) dX3_spread_14 rfl ?_
        refine G_if_ge (pc := 15) (tgt := 19) dX3_spread_15 rfl (fun h_15 => ?_) (fun h_15 => ?_)
        · obtain ⟨hr1, hr2⟩ := hsp h_15
          refine G_aload_n (pc := 19) dX3_spread_19 rfl ?_
          refine G_getP (pc := 20) dX3_spread_20 fk_X3_51 rfl rfl rfl ?_
          refine G_aload_n (pc := 23) dX3_spread_23 rfl ?_
          refine G_iload_n (pc := 24) dX3_spread_24 rfl ?_
          refine G_cV0 (pc := 25) (c_X0_lookAtFirst_3 _ _ (by exact hSC) (by exact hT) (by rw [h1]; exact hr1) (by rw [h2, h3, h5]; exact hr2) (by exact BN_BD hN.1 (by omega)) (by exact BN_BD hN.2.1 (by omega)) (by exact BN_BD hN.2.2 (by omega))) dX3_spread_25 ml_X3_141 rfl rfl rfl (by decide) (Nat.le_of_ble_eq_true rfl) ?_
          rw [ex, ey, el]
          refine G_aload_n (pc := 28) dX3_spread_28 rfl ?_
          refine G_iload_n (pc := 29) dX3_spread_29 rfl ?_
          refine G_aload_n (pc := 30) dX3_spread_30 rfl ?_
          refine G_getP (pc := 31) dX3_spread_31 fk_X3_51 rfl rfl rfl ?_
          refine G_getI (pc := 34) dX3_spread_34 fk_X3_145 rfl rfl rfl ?_
          try simp (disch := decide) only [su_ne, su_at, su_same, sv_ne, sv_at]
          refine G_aload_n (pc := 37) dX3_spread_37 rfl ?_
          refine G_getP (pc := 38) dX3_spread_38 fk_X3_51 rfl rfl rfl ?_
          refine G_getI (pc := 41) dX3_spread_41 fk_X3_147 rfl rfl rfl ?_
          try simp (disch := decide) only [su_ne, su_at, su_same, sv_ne, sv_at]
          refine G_aload_n (pc := 44) dX3_spread_44 rfl ?_
          refine G_getP (pc := 45) dX3_spread_45 fk_X3_51 rfl rfl rfl ?_
          refine G_getI (pc := 48) dX3_spread_48 fk_X3_150 rfl rfl rfl ?_
          try simp (disch := decide) only [su_ne, su_at, su_same, sv_ne, sv_at]
          rw [p1.1, p1.2.1, p1.2.2]
          refine G_cV0 (pc := 51) (c_X2_put_3 _ _ _ _ _ (by omega)) dX3_spread_51 ml_X3_121 rfl rfl rfl (by decide) (Nat.le_of_ble_eq_true rfl) ?_
          refine G_aload_n (pc := 54) dX3_spread_54 rfl ?_
          refine G_getI (pc := 55) dX3_spread_55 fk_X3_103 rfl rfl rfl ?_
          try simp (disch := decide) only [su_ne, su_at, su_same, sv_ne, sv_at]
          refine G_bipush (pc := 58) (x := 24) dX3_spread_58 rfl (by decide) ?_
          rw [p527]
          refine G_icmp_ge (pc := 60) (tgt := 80) dX3_spread_60 rfl (fun h_60 => ?_) (fun h_60 => ?_)
          · refine G_iinc (pc := 80) dX3_spread_80 rfl rfl (by omega) ?_
            refine G_goto (pc := 83) (tgt := 2) dX3_spread_83 rfl ?_
            refine go _ h_15 ?_ _
            unfold sq_3
            first | rw [if_neg (by omega)] | rw [if_pos (by omega)]
          · refine G_aload_n (pc := 63) dX3_spread_63 rfl ?_
            refine G_getP (pc := 64) dX3_spread_64 fk_X3_18 rfl rfl rfl ?_
            refine G_aload_n (pc := 67) dX3_spread_67 rfl ?_
            refine G_dup (pc := 68) dX3_spread_68 rfl ?_
            refine G_getI (pc := 69) dX3_spread_69 fk_X3_103 rfl rfl rfl ?_
            try simp (disch := decide) only [su_ne, su_at, su_same, sv_ne, sv_at]
            rw [p527]
            refine G_dup_x1 (pc := 72) dX3_spread_72 rfl rfl ?_
            refine G_iconst (pc := 73) dX3_spread_73 (by decide) ?_
            refine G_iadd (pc := 74) dX3_spread_74 (by omega) ?_
            refine G_put (pc := 75) dX3_spread_75 fk_X3_103 fw_X3_7 rfl rfl rfl (fun h => absurd h (by decide)) ?_
            refine G_iload_n (pc := 78) dX3_spread_78 rfl ?_
            refine G_iastore (pc := 79) dX3_spread_79 rfl rfl (by omega) ?_
            refine G_iinc (pc := 80) dX3_spread_80 rfl rfl (by omega) ?_
            refine G_goto (pc := 83) (tgt := 2) dX3_spread_83 rfl ?_
            refine go _ h_15 ?_ _
            unfold sq_3
            first | rw [if_neg (by omega)] | rw [if_pos (by omega)]
        · exact G_return (pc := 18) dX3_spread_18 ⟨rfl, hs, by rw [← hz, sprF_end (z := zS_3 s) (by show nxE e (pF_3 s) < 0; omega)], hw⟩
  refine G_iconst (pc := 0) dX3_spread_0 (by decide) ?_
  refine G_istore_n (pc := 1) dX3_spread_1 (Nat.le_of_ble_eq_true rfl) rfl ?_
  exact loop 24 0 t _ (by omega) (by omega) hI rfl (fun _ _ => rfl)
def sq_4 (t : Sto) (r x y l : Int) : Sto := if t 527 0 < 24 then su (su (putC_4 (pos3 t x y l) r x y l) 527 0 (t 527 0 + 1)) 26 (t 527 0) r else putC_4 (pos3 t x y l) r x y l
theorem sq_ok_4 {e : SE} {b M : Int} {t : Sto} (hI : SPI_4 e b M t) (hn : ¬ nxE e (pF_4 t) < 0) : ∀ s, s = sq_4 t (nxE e (pF_4 t)) (fXE e (pF_4 t) (nxE e (pF_4 t))) (fYE e (pF_4 t) (nxE e (pF_4 t))) (fLE e (pF_4 t) (nxE e (pF_4 t))) → SPI_4 e b M s ∧ zS_4 s = sp1 e (zS_4 t) ∧ (∀ w, keptS_4 w → s w = t w) := by
  intro s hs
  obtain ⟨hr, hp0, hnb⟩ := nx_spec hn
  obtain ⟨⟨h1, h2, h3, h4, h5, h6⟩, hT, hS, hN, hB, hc, hm⟩ := hI
  have hfb := fc_b hS hB hnb
  have hcp : cntP e.n (fu (t 25) (nxE e (pF_4 t)) 1) = cntP e.n (t 25) + 1 := cntP_put hr.1 hr.2 hp0
  have hcr := cntP_r hS.1.1 (fu (t 25) (nxE e (pF_4 t)) 1)
  have hcr0 := cntP_r hS.1.1 (t 25)
  have hn24 := hS.1.2.1
  have e1 : sp1 e (zS_4 t) = (putF (pF_4 t) (nxE e (pF_4 t)) (fXE e (pF_4 t) (nxE e (pF_4 t))) (fYE e (pF_4 t) (nxE e (pF_4 t))) (fLE e (pF_4 t) (nxE e (pF_4 t))), if t 527 0 < 24 then fu (t 26) (t 527 0) (nxE e (pF_4 t)) else t 26, if t 527 0 < 24 then t 527 0 + 1 else t 527 0) := rfl
  rw [e1]
  generalize nxE e (pF_4 t) = r at *
  generalize fXE e (pF_4 t) r = x at *
  generalize fYE e (pF_4 t) r = y at *
  generalize fLE e (pF_4 t) r = l at *
  have base : ∀ w, keptS_4 w → s w = t w := by
    intro w hw
    rw [hs]
    unfold sq_4 putC_4
    split
    · rw [su_ne hw.2.2.2.2.1, su_ne hw.2.2.2.2.2.1, su_ne hw.2.2.2.1, su_ne hw.2.2.1, su_ne hw.2.1, su_ne hw.1, pos3_ne t _ _ _ ⟨hw.2.2.2.2.2.2.1, hw.2.2.2.2.2.2.2.1, hw.2.2.2.2.2.2.2.2⟩]
    · rw [su_ne hw.2.2.2.1, su_ne hw.2.2.1, su_ne hw.2.1, su_ne hw.1, pos3_ne t _ _ _ ⟨hw.2.2.2.2.2.2.1, hw.2.2.2.2.2.2.2.1, hw.2.2.2.2.2.2.2.2⟩]
  have qP : s 25 = fu (t 25) r 1 := by
    rw [hs]
    unfold sq_4 putC_4
    split
    · rw [su_ne (by decide), su_ne (by decide), su_row, sv_at, su_ne (by decide), su_ne (by decide), su_ne (by decide), pos3_ne t _ _ _ (by decide)]
    · rw [su_row, sv_at, su_ne (by decide), su_ne (by decide), su_ne (by decide), pos3_ne t _ _ _ (by decide)]
  have qL : s 24 = fu (t 24) r l := by
    rw [hs]
    unfold sq_4 putC_4
    split
    · rw [su_ne (by decide), su_ne (by decide), su_ne (by decide), su_row, sv_at, su_ne (by decide), su_ne (by decide), pos3_ne t _ _ _ (by decide)]
    · rw [su_ne (by decide), su_row, sv_at, su_ne (by decide), su_ne (by decide), pos3_ne t _ _ _ (by decide)]
  have qY : s 23 = fu (t 23) r y := by
    rw [hs]
    unfold sq_4 putC_4
    split
    · rw [su_ne (by decide), su_ne (by decide), su_ne (by decide), su_ne (by decide), su_row, sv_at, su_ne (by decide), pos3_ne t _ _ _ (by decide)]
    · rw [su_ne (by decide), su_ne (by decide), su_row, sv_at, su_ne (by decide), pos3_ne t _ _ _ (by decide)]
  have qX : s 22 = fu (t 22) r x := by
    rw [hs]
    unfold sq_4 putC_4
    split
    · rw [su_ne (by decide), su_ne (by decide), su_ne (by decide), su_ne (by decide), su_ne (by decide), su_row, sv_at, pos3_ne t _ _ _ (by decide)]
    · rw [su_ne (by decide), su_ne (by decide), su_ne (by decide), su_row, sv_at, pos3_ne t _ _ _ (by decide)]
  have q26 : s 26 = if t 527 0 < 24 then fu (t 26) (t 527 0) r else t 26 := by
    rw [hs]
    unfold sq_4 putC_4
    split
    · rw [su_row, sv_at, su_ne (by decide), su_ne (by decide), su_ne (by decide), su_ne (by decide), su_ne (by decide), pos3_ne t _ _ _ (by decide)]
    · rw [su_ne (by decide), su_ne (by decide), su_ne (by decide), su_ne (by decide), pos3_ne t _ _ _ (by decide)]
  have q527 : s 527 0 = if t 527 0 < 24 then t 527 0 + 1 else t 527 0 := by
    rw [hs]
    unfold sq_4 putC_4
    split
    · rw [su_ne (by decide), su_at]
    · rw [su_ne (by decide), su_ne (by decide), su_ne (by decide), su_ne (by decide), pos3_ne t _ _ _ (by decide)]
  have hpp : pF_4 s = putF (pF_4 t) r x y l := by
    unfold pF_4
    rw [qP, qX, qY, qL]
    rfl
  refine ⟨⟨?_, ?_, hS, ⟨?_, ?_, ?_⟩, ?_, ?_, hm⟩, ?_, base⟩
  · rw [base 267 (by unfold keptS_4; decide), base 272 (by unfold keptS_4; decide), base 13 (by unfold keptS_4; decide), base 14 (by unfold keptS_4; decide), base 15 (by unfold keptS_4; decide), base 16 (by unfold keptS_4; decide)]
    exact ⟨h1, h2, h3, h4, h5, h6⟩
  · unfold TIC
    rw [base 267 (by unfold keptS_4; decide), base 272 (by unfold keptS_4; decide), base 13 (by unfold keptS_4; decide), base 15 (by unfold keptS_4; decide), base 28 (by unfold keptS_4; decide), base 29 (by unfold keptS_4; decide)]
    exact hT
  · rw [qX]; exact BN_fu hN.1 (by omega)
  · rw [qY]; exact BN_fu hN.2.1 (by omega)
  · rw [qL]; exact BN_fu hN.2.2 (by omega)
  · rw [qP, hcp, hpp]
    intro i i0 i1 i2
    by_cases z : i = r
    · subst z
      obtain ⟨a1, a2, a3, a4⟩ := putF_at (pF_4 t) i x y l
      rw [a2, a3, a4]
      omega
    · obtain ⟨a1, a2, a3, a4⟩ := putF_ne (pF_4 t) z x y l
      rw [a1] at i2
      rw [a2, a3, a4]
      have := hB i i0 i1 i2
      omega
  · rw [q527]; split <;> omega
  · unfold zS_4
    rw [hpp, q26, q527]
theorem c_X3_spread_4 (t : Sto) (e : SE) (b M : Int) (hI : SPI_4 e b M t) : CT yX3_spread cX3_spread 4 none 4 [mP 5, mP 4] t (fun a t' => a = none ∧ (SPI_4 e b M t' ∧ zS_4 t' = sprF e 24 (zS_4 t) ∧ (∀ w, keptS_4 w → t' w = t w))) := by
  refine CT_of rfl rfl (Nat.le_of_ble_eq_true rfl) (fun E ht has => ?_)
  have loop : ∀ (f : Nat) (c : Int) (s : Sto) (o3 : Option MV), 0 ≤ c → c + f = 24 → SPI_4 e b M s → sprF e f (zS_4 s) = sprF e 24 (zS_4 t) → (∀ w, keptS_4 w → s w = t w) → G E cX3_spread RX3 none 4 2 [some (mP 5), some (mP 4), some (mI c), o3] [] s (fun a t' => a = none ∧ (SPI_4 e b M t' ∧ zS_4 t' = sprF e 24 (zS_4 t) ∧ (∀ w, keptS_4 w → t' w = t w))) := by
    intro f
    induction f with
    | zero =>
      intro c s o3 h0 hcf hs hz hw
      refine G_iload_n (pc := 2) dX3_spread_2 rfl ?_
      refine G_bipush (pc := 3) (x := 24) dX3_spread_3 rfl (by decide) ?_
      refine G_icmp_ge (pc := 5) (tgt := 86) dX3_spread_5 rfl (fun h_5 => ?_) (fun h_5 => ?_)
      · exact G_return (pc := 86) dX3_spread_86 ⟨rfl, hs, hz, hw⟩
      · exfalso; omega
    | succ f ih =>
      intro c s o3 h0 hcf hs hz hw
      have hSC := SPI_SC_4 hs
      obtain ⟨⟨h1, h2, h3, h4, h5, h6⟩, hT, hS, hN, hB, hc, hm⟩ := id hs
      have ex : ∀ r, fcX (s 267 0) (s 272 0) (s 13) (s 14) (s 15) (s 25) (s 22) (s 23) (s 24) r = fXE e (pF_4 s) r := fun r => by rw [h1, h2, h3, h4, h5]; rfl
      have ey : ∀ r, fcY (s 267 0) (s 272 0) (s 13) (s 14) (s 15) (s 25) (s 22) (s 23) (s 24) r = fYE e (pF_4 s) r := fun r => by rw [h1, h2, h3, h4, h5]; rfl
      have el : ∀ r, fcL (s 267 0) (s 272 0) (s 13) (s 14) (s 15) (s 25) (s 22) (s 23) (s 24) r = fLE e (pF_4 s) r := fun r => by rw [h1, h2, h3, h4, h5]; rfl
      have go : ∀ u, nxE e (pF_4 s) ≥ 0 → u = sq_4 s (nxE e (pF_4 s)) (fXE e (pF_4 s) (nxE e (pF_4 s))) (fYE e (pF_4 s) (nxE e (pF_4 s))) (fLE e (pF_4 s) (nxE e (pF_4 s))) → ∀ o3 : Option MV, G E cX3_spread RX3 none 4 2 [some (mP 5), some (mP 4), some (mI (c + 1)), o3] [] u (fun a t' => a = none ∧ (SPI_4 e b M t' ∧ zS_4 t' = sprF e 24 (zS_4 t) ∧ (∀ w, keptS_4 w → t' w = t w))) := by
        intro u hn hu o3
        have hn' : ¬ nxE e (pF_4 s) < 0 := by omega
        obtain ⟨y1, y2, y3⟩ := sq_ok_4 hs hn' u hu
        refine ih (c + 1) u o3 (by omega) (by omega) y1 ?_ (fun w hw' => (y3 w hw').trans (hw w hw'))
        rw [y2, ← hz, sprF_go (z := zS_4 s) hn']
      have hn24 := hS.1
      generalize hZ : nxE e (pF_4 s) = r at *
      have hsp : 0 ≤ r → (0 ≤ r ∧ r < e.n) ∧ 0 ≤ nbE e (pF_4 s) r := fun z => by
        have := nx_spec (e := e) (p := pF_4 s) (by omega)
        rw [hZ] at this
        exact ⟨this.1, this.2.2⟩
      have p1 := pos3_at s (fXE e (pF_4 s) r) (fYE e (pF_4 s) r) (fLE e (pF_4 s) r)
      have p527 : putC_4 (pos3 s (fXE e (pF_4 s) r) (fYE e (pF_4 s) r) (fLE e (pF_4 s) r)) r (fXE e (pF_4 s) r) (fYE e (pF_4 s) r) (fLE e (pF_4 s) r) 527 = s 527 := by
        unfold putC_4
        rw [su_ne (by decide), su_ne (by decide), su_ne (by decide), su_ne (by decide), pos3_ne s _ _ _ (by decide)]
      refine G_iload_n (pc := 2) dX3_spread_2 rfl ?_
      refine G_bipush (pc := 3) (x := 24) dX3_spread_3 rfl (by decide) ?_
      refine G_icmp_ge (pc := 5) (tgt := 86) dX3_spread_5 rfl (fun h_5 => ?_) (fun h_5 => ?_)
      · exfalso; omega
      · refine G_aload_n (pc := 8) dX3_spread_8 rfl ?_
        refine G_aload_n (pc := 9) dX3_spread_9 rfl ?_
        refine G_cV1 (pc := 10) (c_X3_nextRoom_4 _ (e) (b) (M) (by exact hs)) dX3_spread_10 ml_X3_137 rfl rfl rfl (by decide) (Nat.le_of_ble_eq_true rfl) ?_
        rw [hZ]
        refine G_istore_n (pc := 13) dX3_spread_13 (Nat.le_of_ble_eq_true rfl) rfl ?_
        refine G_iload_n (pc := 14) dX3_spread_14 rfl ?_
        refine G_if_ge (pc := 15) (tgt := 19) dX3_spread_15 rfl (fun h_15 => ?_) (fun h_15 => ?_)
        · obtain ⟨hr1, hr2⟩ := hsp h_15
          refine G_aload_n (pc := 19) dX3_spread_19 rfl ?_
          refine G_getP (pc := 20) dX3_spread_20 fk_X3_51 rfl rfl rfl ?_
          refine G_aload_n (pc := 23) dX3_spread_23 rfl ?_
          refine G_iload_n (pc := 24) dX3_spread_24 rfl ?_
          refine G_cV0 (pc := 25) (c_X0_lookAtFirst_4 _ _ (by exact hSC) (by exact hT) (by rw [h1]; exact hr1) (by rw [h2, h3, h5]; exact hr2) (by exact BN_BD hN.1 (by omega)) (by exact BN_BD hN.2.1 (by omega)) (by exact BN_BD hN.2.2 (by omega))) dX3_spread_25 ml_X3_141 rfl rfl rfl (by decide) (Nat.le_of_ble_eq_true rfl) ?_
          rw [ex, ey, el]
          refine G_aload_n (pc := 28) dX3_spread_28 rfl ?_
          refine G_iload_n (pc := 29) dX3_spread_29 rfl ?_
          refine G_aload_n (pc := 30) dX3_spread_30 rfl ?_
          refine G_getP (pc := 31) dX3_spread_31 fk_X3_51 rfl rfl rfl ?_
          refine G_getI (pc := 34) dX3_spread_34 fk_X3_145 rfl rfl rfl ?_
          try simp (disch := decide) only [su_ne, su_at, su_same, sv_ne, sv_at]
          refine G_aload_n (pc := 37) dX3_spread_37 rfl ?_
          refine G_getP (pc := 38) dX3_spread_38 fk_X3_51 rfl rfl rfl ?_
          refine G_getI (pc := 41) dX3_spread_41 fk_X3_147 rfl rfl rfl ?_
          try simp (disch := decide) only [su_ne, su_at, su_same, sv_ne, sv_at]
          refine G_aload_n (pc := 44) dX3_spread_44 rfl ?_
          refine G_getP (pc := 45) dX3_spread_45 fk_X3_51 rfl rfl rfl ?_
          refine G_getI (pc := 48) dX3_spread_48 fk_X3_150 rfl rfl rfl ?_
          try simp (disch := decide) only [su_ne, su_at, su_same, sv_ne, sv_at]
          rw [p1.1, p1.2.1, p1.2.2]
          refine G_cV0 (pc := 51) (c_X2_put_4 _ _ _ _ _ (by omega)) dX3_spread_51 ml_X3_121 rfl rfl rfl (by decide) (Nat.le_of_ble_eq_true rfl) ?_
          refine G_aload_n (pc := 54) dX3_spread_54 rfl ?_
          refine G_getI (pc := 55) dX3_spread_55 fk_X3_103 rfl rfl rfl ?_
          try simp (disch := decide) only [su_ne, su_at, su_same, sv_ne, sv_at]
          refine G_bipush (pc := 58) (x := 24) dX3_spread_58 rfl (by decide) ?_
          rw [p527]
          refine G_icmp_ge (pc := 60) (tgt := 80) dX3_spread_60 rfl (fun h_60 => ?_) (fun h_60 => ?_)
          · refine G_iinc (pc := 80) dX3_spread_80 rfl rfl (by omega) ?_
            refine G_goto (pc := 83) (tgt := 2) dX3_spread_83 rfl ?_
            refine go _ h_15 ?_ _
            unfold sq_4
            first | rw [if_neg (by omega)] | rw [if_pos (by omega)]
          · refine G_aload_n (pc := 63) dX3_spread_63 rfl ?_
            refine G_getP (pc := 64) dX3_spread_64 fk_X3_18 rfl rfl rfl ?_
            refine G_aload_n (pc := 67) dX3_spread_67 rfl ?_
            refine G_dup (pc := 68) dX3_spread_68 rfl ?_
            refine G_getI (pc := 69) dX3_spread_69 fk_X3_103 rfl rfl rfl ?_
            try simp (disch := decide) only [su_ne, su_at, su_same, sv_ne, sv_at]
            rw [p527]
            refine G_dup_x1 (pc := 72) dX3_spread_72 rfl rfl ?_
            refine G_iconst (pc := 73) dX3_spread_73 (by decide) ?_
            refine G_iadd (pc := 74) dX3_spread_74 (by omega) ?_
            refine G_put (pc := 75) dX3_spread_75 fk_X3_103 fw_X3_7 rfl rfl rfl (fun h => absurd h (by decide)) ?_
            refine G_iload_n (pc := 78) dX3_spread_78 rfl ?_
            refine G_iastore (pc := 79) dX3_spread_79 rfl rfl (by omega) ?_
            refine G_iinc (pc := 80) dX3_spread_80 rfl rfl (by omega) ?_
            refine G_goto (pc := 83) (tgt := 2) dX3_spread_83 rfl ?_
            refine go _ h_15 ?_ _
            unfold sq_4
            first | rw [if_neg (by omega)] | rw [if_pos (by omega)]
        · exact G_return (pc := 18) dX3_spread_18 ⟨rfl, hs, by rw [← hz, sprF_end (z := zS_4 s) (by show nxE e (pF_4 s) < 0; omega)], hw⟩
  refine G_iconst (pc := 0) dX3_spread_0 (by decide) ?_
  refine G_istore_n (pc := 1) dX3_spread_1 (Nat.le_of_ble_eq_true rfl) rfl ?_
  exact loop 24 0 t _ (by omega) (by omega) hI rfl (fun _ _ => rfl)
