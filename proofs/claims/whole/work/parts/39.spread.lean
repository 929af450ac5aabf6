/-! SPREADING: the words, and the class -/
noncomputable def nxE (e : SE) (p : PF) : Int := fst (fun r => p.ps r = 0 ∧ 0 ≤ nbE e p r) 0 e.n
noncomputable def fXE (e : SE) (p : PF) (r : Int) : Int := fcX e.n e.k e.fr e.di e.to p.ps p.xs p.ys p.ls r
noncomputable def fYE (e : SE) (p : PF) (r : Int) : Int := fcY e.n e.k e.fr e.di e.to p.ps p.xs p.ys p.ls r
noncomputable def fLE (e : SE) (p : PF) (r : Int) : Int := fcL e.n e.k e.fr e.di e.to p.ps p.xs p.ys p.ls r
theorem fc_b {e : SE} {p : PF} {r B : Int} (hS : SOE e) (hB : BP e.n B p) (hnb : 0 ≤ nbE e p r) : (-(B + 24) ≤ fXE e p r ∧ fXE e p r ≤ B + 24) ∧ (-(B + 24) ≤ fYE e p r ∧ fYE e p r ≤ B + 24) ∧ (-(B + 24) ≤ fLE e p r ∧ fLE e p r ≤ B + 24) := by
  have h1 := sp_b hS hB hnb
  have e0 : firstM e.n e.k e.fr e.di e.to p.ps p.xs p.ys p.ls r = fmE e p r := rfl
  unfold fXE fYE fLE fcX fcY fcL
  rw [e0]
  by_cases hf : 0 ≤ fmE e p r
  · rw [if_pos hf, if_pos hf, if_pos hf]
    rcases fst_spec (cdE e p r) 0 (3 * e.k) with ⟨a1, a2⟩ | ⟨a1, a2, a3, -⟩
    · unfold fmE at hf; omega
    · have := cd_b (r := r) hS a1 a2 hB a3
      unfold cXE cYE cLE at this
      unfold fmE
      omega
  · rw [if_neg hf, if_neg hf, if_neg hf]
    exact h1
abbrev SPZ : Type := PF × (Int → Int) × Int
noncomputable def sp1 (e : SE) (z : SPZ) : SPZ := (putF z.1 (nxE e z.1) (fXE e z.1 (nxE e z.1)) (fYE e z.1 (nxE e z.1)) (fLE e z.1 (nxE e z.1)), if z.2.2 < 24 then fu z.2.1 z.2.2 (nxE e z.1) else z.2.1, if z.2.2 < 24 then z.2.2 + 1 else z.2.2)
noncomputable def sprF (e : SE) : Nat → SPZ → SPZ
  | 0, z => z
  | f + 1, z => if nxE e z.1 < 0 then z else sprF e f (sp1 e z)
theorem nx_spec {e : SE} {p : PF} (h : ¬ nxE e p < 0) : (0 ≤ nxE e p ∧ nxE e p < e.n) ∧ p.ps (nxE e p) = 0 ∧ 0 ≤ nbE e p (nxE e p) := by
  unfold nxE at *
  rcases fst_spec (fun r => p.ps r = 0 ∧ 0 ≤ nbE e p r) 0 e.n with ⟨a1, a2⟩ | ⟨a1, a2, a3, -⟩
  · omega
  · exact ⟨⟨a1, a2⟩, a3⟩
theorem cntP_put {n r : Int} {ps : Int → Int} (h0 : 0 ≤ r) (h1 : r < n) (h2 : ps r = 0) : cntP n (fu ps r 1) = cntP n ps + 1 := by
  unfold cntP
  rw [sumI_upd (c := cpl (fu ps r 1)) (c' := cpl ps) (j := r) (fun i hi => by unfold cpl; rw [fu_ne hi]) 0 (by omega) h0 h1]
  unfold cpl
  rw [fu_at, h2]
  simp
theorem cntP_r {n : Int} (hn : 0 ≤ n) (ps : Int → Int) : 0 ≤ cntP n ps ∧ cntP n ps ≤ n := by
  have := sumI_r (c := cpl ps) (k := n) (B := 1) (fun j _ _ => cpl_r ps j) 0 hn (Int.le_refl _)
  unfold cntP
  omega
def pF_3 (t : Sto) : PF := (t 21, t 18, t 19, t 20)
def zS_3 (t : Sto) : SPZ := (pF_3 t, t 26, t 527 0)
def keptS_3 (w : Nat) : Prop := w ≠ 18 ∧ w ≠ 19 ∧ w ≠ 20 ∧ w ≠ 21 ∧ w ≠ 26 ∧ w ≠ 527 ∧ w ≠ 650 ∧ w ≠ 651 ∧ w ≠ 652
def SPI_3 (e : SE) (b M : Int) (t : Sto) : Prop := (t 267 0 = e.n ∧ t 272 0 = e.k ∧ t 13 = e.fr ∧ t 14 = e.di ∧ t 15 = e.to ∧ t 16 = e.bo) ∧ TIC t ∧ SOE e ∧ (BN M (t 18) ∧ BN M (t 19) ∧ BN M (t 20)) ∧ BP e.n (b + 30 * cntP e.n (t 21)) (pF_3 t) ∧ (0 ≤ t 527 0 ∧ t 527 0 ≤ 24) ∧ (0 ≤ b ∧ b + 720 ≤ M ∧ M ≤ 900000)
theorem SPI_SC_3 {e : SE} {b M : Int} {t : Sto} (h : SPI_3 e b M t) : SC t := by
  obtain ⟨⟨h1, h2, h3, h4, h5, h6⟩, -, hS, -⟩ := h
  unfold SC
  rw [h1, h2, h3, h4, h5, h6]
  exact hS
theorem c_X3_nextRoom_3 (t : Sto) (e : SE) (b M : Int) (hI : SPI_3 e b M t) : CT yX3_nextRoom cX3_nextRoom 3 (some .int) 2 [mP 5, mP 3] t (fun a t' => a = some (mI (nxE e (pF_3 t))) ∧ t' = t) := by
  refine CT_of rfl rfl (Nat.le_of_ble_eq_true rfl) (fun E ht has => ?_)
  have hSC := SPI_SC_3 hI
  obtain ⟨⟨h1, h2, h3, h4, h5, h6⟩, hT, hS, -⟩ := hI
  have hb := hSC.1
  generalize hZ : nxE e (pF_3 t) = Z
  have enb : ∀ r, nbS (t 272 0) (t 13) (t 15) (t 21) r = nbE e (pF_3 t) r := fun r => by rw [h2, h3, h5]; rfl
  have loop : ∀ r, r ≤ t 267 0 → 0 ≤ r → fst (fun r => (pF_3 t).ps r = 0 ∧ 0 ≤ nbE e (pF_3 t) r) r e.n = Z → G E cX3_nextRoom RX3 (some .int) 2 2 [some (mP 5), some (mP 3), some (mI r)] [] t (fun a t' => a = some (mI Z) ∧ t' = t) := by
    refine up_ind (fun r hr ih h0 hX => ?_)
    refine G_iload_n (pc := 2) dX3_nextRoom_2 rfl ?_
    refine G_aload_n (pc := 3) dX3_nextRoom_3 rfl ?_
    refine G_getP (pc := 4) dX3_nextRoom_4 fk_X3_26 rfl rfl rfl ?_
    refine G_getI (pc := 7) dX3_nextRoom_7 fk_X3_77 rfl rfl rfl ?_
    refine G_icmp_ge (pc := 10) (tgt := 42) dX3_nextRoom_10 rfl (fun h_10 => ?_) (fun h_10 => ?_)
    · refine G_bipush (pc := 42) (x := (-2)) dX3_nextRoom_42 rfl (by decide) ?_
      exact G_ireturn (pc := 44) dX3_nextRoom_44 (qeq (by rw [fst_ge (by omega)] at hX; exact hX))
    · refine G_aload_n (pc := 13) dX3_nextRoom_13 rfl ?_
      refine G_getP (pc := 14) dX3_nextRoom_14 fk_X3_82 rfl rfl rfl ?_
      refine G_iload_n (pc := 17) dX3_nextRoom_17 rfl ?_
      refine G_baload (pc := 18) dX3_nextRoom_18 rfl rfl (by omega) ?_
      refine G_if_ne (pc := 19) (tgt := 36) dX3_nextRoom_19 rfl (fun h_19 => ?_) (fun h_19 => ?_)
      · try simp only [bq0, ne_eq, Classical.not_not] at h_19
        rw [fst_neg (by omega) (by rintro ⟨z, -⟩; exact h_19 z)] at hX
        refine G_iinc (pc := 36) dX3_nextRoom_36 rfl rfl (by omega) ?_
        refine G_goto (pc := 39) (tgt := 2) dX3_nextRoom_39 rfl ?_
        exact ih (by omega) (by omega) hX
      · try simp only [bq0, ne_eq, Classical.not_not] at h_19
        refine G_aload_n (pc := 22) dX3_nextRoom_22 rfl ?_
        refine G_getP (pc := 23) dX3_nextRoom_23 fk_X3_51 rfl rfl rfl ?_
        refine G_aload_n (pc := 26) dX3_nextRoom_26 rfl ?_
        refine G_iload_n (pc := 27) dX3_nextRoom_27 rfl ?_
        refine G_cV1 (pc := 28) (c_X0_firstPlacedNeighbour_3 _ _ (by exact hSC) (by exact hT) (by omega)) dX3_nextRoom_28 ml_X3_153 rfl rfl rfl (by decide) (Nat.le_of_ble_eq_true rfl) ?_
        rw [enb]
        refine G_if_lt (pc := 31) (tgt := 36) dX3_nextRoom_31 rfl (fun h_31 => ?_) (fun h_31 => ?_)
        · rw [fst_neg (by omega) (by rintro ⟨-, z⟩; omega)] at hX
          refine G_iinc (pc := 36) dX3_nextRoom_36 rfl rfl (by omega) ?_
          refine G_goto (pc := 39) (tgt := 2) dX3_nextRoom_39 rfl ?_
          exact ih (by omega) (by omega) hX
        · rw [fst_pos (by omega) (by exact ⟨h_19, Int.not_lt.mp h_31⟩)] at hX
          refine G_iload_n (pc := 34) dX3_nextRoom_34 rfl ?_
          exact G_ireturn (pc := 35) dX3_nextRoom_35 (qeq hX)
  refine G_iconst (pc := 0) dX3_nextRoom_0 (by decide) ?_
  refine G_istore_n (pc := 1) dX3_nextRoom_1 (Nat.le_of_ble_eq_true rfl) rfl ?_
  exact loop 0 (by omega) (by omega) hZ
def pF_4 (t : Sto) : PF := (t 25, t 22, t 23, t 24)
def zS_4 (t : Sto) : SPZ := (pF_4 t, t 26, t 527 0)
def keptS_4 (w : Nat) : Prop := w ≠ 22 ∧ w ≠ 23 ∧ w ≠ 24 ∧ w ≠ 25 ∧ w ≠ 26 ∧ w ≠ 527 ∧ w ≠ 650 ∧ w ≠ 651 ∧ w ≠ 652
def SPI_4 (e : SE) (b M : Int) (t : Sto) : Prop := (t 267 0 = e.n ∧ t 272 0 = e.k ∧ t 13 = e.fr ∧ t 14 = e.di ∧ t 15 = e.to ∧ t 16 = e.bo) ∧ TIC t ∧ SOE e ∧ (BN M (t 22) ∧ BN M (t 23) ∧ BN M (t 24)) ∧ BP e.n (b + 30 * cntP e.n (t 25)) (pF_4 t) ∧ (0 ≤ t 527 0 ∧ t 527 0 ≤ 24) ∧ (0 ≤ b ∧ b + 720 ≤ M ∧ M ≤ 900000)
theorem SPI_SC_4 {e : SE} {b M : Int} {t : Sto} (h : SPI_4 e b M t) : SC t := by
  obtain ⟨⟨h1, h2, h3, h4, h5, h6⟩, -, hS, -⟩ := h
  unfold SC
  rw [h1, h2, h3, h4, h5, h6]
  exact hS
theorem c_X3_nextRoom_4 (t : Sto) (e : SE) (b M : Int) (hI : SPI_4 e b M t) : CT yX3_nextRoom cX3_nextRoom 3 (some .int) 2 [mP 5, mP 4] t (fun a t' => a = some (mI (nxE e (pF_4 t))) ∧ t' = t) := by
  refine CT_of rfl rfl (Nat.le_of_ble_eq_true rfl) (fun E ht has => ?_)
  have hSC := SPI_SC_4 hI
  obtain ⟨⟨h1, h2, h3, h4, h5, h6⟩, hT, hS, -⟩ := hI
  have hb := hSC.1
  generalize hZ : nxE e (pF_4 t) = Z
  have enb : ∀ r, nbS (t 272 0) (t 13) (t 15) (t 25) r = nbE e (pF_4 t) r := fun r => by rw [h2, h3, h5]; rfl
  have loop : ∀ r, r ≤ t 267 0 → 0 ≤ r → fst (fun r => (pF_4 t).ps r = 0 ∧ 0 ≤ nbE e (pF_4 t) r) r e.n = Z → G E cX3_nextRoom RX3 (some .int) 2 2 [some (mP 5), some (mP 4), some (mI r)] [] t (fun a t' => a = some (mI Z) ∧ t' = t) := by
    refine up_ind (fun r hr ih h0 hX => ?_)
    refine G_iload_n (pc := 2) dX3_nextRoom_2 rfl ?_
    refine G_aload_n (pc := 3) dX3_nextRoom_3 rfl ?_
    refine G_getP (pc := 4) dX3_nextRoom_4 fk_X3_26 rfl rfl rfl ?_
    refine G_getI (pc := 7) dX3_nextRoom_7 fk_X3_77 rfl rfl rfl ?_
    refine G_icmp_ge (pc := 10) (tgt := 42) dX3_nextRoom_10 rfl (fun h_10 => ?_) (fun h_10 => ?_)
    · refine G_bipush (pc := 42) (x := (-2)) dX3_nextRoom_42 rfl (by decide) ?_
      exact G_ireturn (pc := 44) dX3_nextRoom_44 (qeq (by rw [fst_ge (by omega)] at hX; exact hX))
    · refine G_aload_n (pc := 13) dX3_nextRoom_13 rfl ?_
      refine G_getP (pc := 14) dX3_nextRoom_14 fk_X3_82 rfl rfl rfl ?_
      refine G_iload_n (pc := 17) dX3_nextRoom_17 rfl ?_
      refine G_baload (pc := 18) dX3_nextRoom_18 rfl rfl (by omega) ?_
      refine G_if_ne (pc := 19) (tgt := 36) dX3_nextRoom_19 rfl (fun h_19 => ?_) (fun h_19 => ?_)
      · try simp only [bq0, ne_eq, Classical.not_not] at h_19
        rw [fst_neg (by omega) (by rintro ⟨z, -⟩; exact h_19 z)] at hX
        refine G_iinc (pc := 36) dX3_nextRoom_36 rfl rfl (by omega) ?_
        refine G_goto (pc := 39) (tgt := 2) dX3_nextRoom_39 rfl ?_
        exact ih (by omega) (by omega) hX
      · try simp only [bq0, ne_eq, Classical.not_not] at h_19
        refine G_aload_n (pc := 22) dX3_nextRoom_22 rfl ?_
        refine G_getP (pc := 23) dX3_nextRoom_23 fk_X3_51 rfl rfl rfl ?_
        refine G_aload_n (pc := 26) dX3_nextRoom_26 rfl ?_
        refine G_iload_n (pc := 27) dX3_nextRoom_27 rfl ?_
        refine G_cV1 (pc := 28) (c_X0_firstPlacedNeighbour_4 _ _ (by exact hSC) (by exact hT) (by omega)) dX3_nextRoom_28 ml_X3_153 rfl rfl rfl (by decide) (Nat.le_of_ble_eq_true rfl) ?_
        rw [enb]
        refine G_if_lt (pc := 31) (tgt := 36) dX3_nextRoom_31 rfl (fun h_31 => ?_) (fun h_31 => ?_)
        · rw [fst_neg (by omega) (by rintro ⟨-, z⟩; omega)] at hX
          refine G_iinc (pc := 36) dX3_nextRoom_36 rfl rfl (by omega) ?_
          refine G_goto (pc := 39) (tgt := 2) dX3_nextRoom_39 rfl ?_
          exact ih (by omega) (by omega) hX
        · rw [fst_pos (by omega) (by exact ⟨h_19, Int.not_lt.mp h_31⟩)] at hX
          refine G_iload_n (pc := 34) dX3_nextRoom_34 rfl ?_
          exact G_ireturn (pc := 35) dX3_nextRoom_35 (qeq hX)
  refine G_iconst (pc := 0) dX3_nextRoom_0 (by decide) ?_
  refine G_istore_n (pc := 1) dX3_nextRoom_1 (Nat.le_of_ble_eq_true rfl) rfl ?_
  exact loop 0 (by omega) (by omega) hZ
