/-! BY FIRST CHANCES: the reference -/
def keptF (w : Nat) : Prop := keptM w ∧ w ≠ 53 ∧ w ≠ 54 ∧ w ≠ 55 ∧ w ≠ 2217
theorem EM_kept {e : SE} {t s : Sto} (h : EM e t) (hw : ∀ w, keptM w → s w = t w) : EM e s := by
  unfold EM
  rw [hw 2184 (by unfold keptM; decide), hw 2188 (by unfold keptM; decide), hw 35 (by unfold keptM; decide), hw 36 (by unfold keptM; decide), hw 37 (by unfold keptM; decide), hw 38 (by unfold keptM; decide)]
  exact h
def BNM (t : Sto) : Prop := BN 60000 (t 47) ∧ BN 60000 (t 48) ∧ BN 60000 (t 49)
theorem BNM_put {t s : Sto} {r x y l : Int} (h : BNM t) (hp : pM s = putF (pM t) r x y l) (hx : -60000 ≤ x ∧ x ≤ 60000) (hy : -60000 ≤ y ∧ y ≤ 60000) (hl : -60000 ≤ l ∧ l ≤ 60000) : BNM s := by
  have q47 : s 47 = fu (t 47) r x := congrArg (fun q : PF => q.2.1) hp
  have q48 : s 48 = fu (t 48) r y := congrArg (fun q : PF => q.2.2.1) hp
  have q49 : s 49 = fu (t 49) r l := congrArg (fun q : PF => q.2.2.2) hp
  unfold BNM
  rw [q47, q48, q49]
  exact ⟨BN_fu h.1 hx, BN_fu h.2.1 hy, BN_fu h.2.2 hl⟩
theorem BP_put {n B : Int} {p : PF} {r x y l : Int} (h : BP n B p) (hx : -B ≤ x ∧ x ≤ B) (hy : -B ≤ y ∧ y ≤ B) (hl : -B ≤ l ∧ l ≤ B) : BP n B (putF p r x y l) := by
  intro q q0 q1 q2
  by_cases z : q = r
  · subst z
    obtain ⟨a1, a2, a3, a4⟩ := putF_at p q x y l
    rw [a2, a3, a4]
    exact ⟨hx, hy, hl⟩
  · obtain ⟨a1, a2, a3, a4⟩ := putF_ne p z x y l
    rw [a1] at q2
    rw [a2, a3, a4]
    exact h q q0 q1 q2
theorem BP_up {n B C : Int} {p : PF} (h : BP n B p) (hBC : B ≤ C) : BP n C p := fun r r0 r1 r2 => by have := h r r0 r1 r2; omega
def BFq (e : SE) (t u : Sto) : Prop := (u 2217 0 = coE e (itr (bf1 e e.ord) 1 e.cnt (putF p00 (e.ord 0) 0 0 0))) ∧ (∀ q, inO e q → u 53 q = (itr (bf1 e e.ord) 1 e.cnt (putF p00 (e.ord 0) 0 0 0)).xs q ∧ u 54 q = (itr (bf1 e e.ord) 1 e.cnt (putF p00 (e.ord 0) 0 0 0)).ys q ∧ u 55 q = (itr (bf1 e e.ord) 1 e.cnt (putF p00 (e.ord 0) 0 0 0)).ls q) ∧ BNM u ∧ (∀ w, keptF w → u w = t w)
theorem c_X9_byFirst (t : Sto) (e : SE) (hM : EM e t) (hE : EOK e) (ho : t 50 = e.ord ∧ t 2210 0 = e.cnt) (hN : BNM t) (hb : t 2217 0 < 0) : CT yX9_byFirst cX9_byFirst 3 none 6 [mP 31] t (fun a t' => a = none ∧ BFq e t t') := by
  refine CT_of rfl rfl (Nat.le_of_ble_eq_true rfl) (fun E ht has => ?_)
  have hn24 := hE.sok.1
  have hcn := hE.cnt
  have loop : ∀ i, i ≤ e.cnt → ∀ (s : Sto) (o2 : Option MV), 1 ≤ i → AG e.n (pM s) (itr (bf1 e e.ord) 1 i (putF p00 (e.ord 0) 0 0 0)) → PLC e i (pM s) → BP e.n (30 * i) (pM s) → BNM s → (∀ w, keptM w → s w = t w) → G E cX9_byFirst RX9 none 6 19 [some (mP 31), some (mI i), o2] [] s (fun a t' => a = none ∧ BFq e t t') := by
    refine up_ind (fun i hi ih s o2 i1 hA hP hB hNs hw => ?_)
    have hMs := EM_kept hM hw
    have hSM := EM_SM hE.sok hMs
    have s50 : s 50 = e.ord := by rw [hw 50 (by unfold keptM; decide)]; exact ho.1
    have s2210 : s 2210 0 = e.cnt := by rw [hw 2210 (by unfold keptM; decide)]; exact ho.2
    have s2217 : s 2217 0 = t 2217 0 := by rw [hw 2217 (by unfold keptM; decide)]
    have go : i < e.cnt → ∀ o2 : Option MV, G E cX9_byFirst RX9 none 6 19 [some (mP 31), some (mI (i + 1)), o2] [] (sbT s (e.ord i) 0) (fun a t' => a = none ∧ BFq e t t') := by
      intro hlt o2
      obtain ⟨b1, b2⟩ := sb_ok hMs (e.ord i) 0 (fun z => by omega)
      obtain ⟨c1, c2, c3⟩ := sJ_0 hE.sok (pM s) (e.ord i)
      rw [c1, c2, c3] at b1
      obtain ⟨f1, f2, f3⟩ := fc_b hE.sok hB (PLC_nb hE i1 hlt hP)
      obtain ⟨d1, d2⟩ := bf_congr hE i1 hlt hA hP
      refine ih hlt _ o2 (by omega) ?_ ?_ ?_ ?_ (fun w h9 => (b2 w h9).trans (hw w h9))
      · rw [itr_right 1 i1, b1]; exact d1
      · rw [b1]; exact d2
      · rw [b1]; exact BP_put (BP_up hB (by omega)) (by omega) (by omega) (by omega)
      · exact BNM_put hNs b1 (by omega) (by omega) (by omega)
    have fin : i = e.cnt → ∀ u, u = (if s 2217 0 < 0 ∨ coM s < s 2217 0 then ktM (su s 2217 0 (coM s)) (s 2210 0) else s) → BFq e t u := by
      intro hie u hu
      rw [if_pos (Or.inl (by omega))] at hu
      subst hie
      have hco : coM s = coE e (pM s) := by
        unfold coM
        obtain ⟨h1, h2, h3, h4, h5, h6⟩ := hMs
        rw [h1, h2, h3, h4, h5]
        rfl
      obtain ⟨k1, k2, k3⟩ := ktM_at (su s 2217 0 (coM s)) (s 2210 0)
      rw [← hu] at k1 k2 k3
      refine ⟨?_, fun q hq => ?_, ?_, fun w h9 => ?_⟩
      · rw [hu, ktM_ne _ _ (by decide), su_at, hco]
        exact AG_co hE.sok hA
      · obtain ⟨j, j0, j1, j2⟩ := hq
        have hor := hE.ord j j0 j1
        rw [j2] at hor
        have hx := (hA q hor.1 hor.2).2 ((hP q hor.1 hor.2).mpr ⟨j, j0, j1, j2⟩)
        rw [k1, k2, k3, s2210]
        rw [su_ne (by decide), su_ne (by decide), su_ne (by decide), su_ne (by decide), su_ne (by decide), su_ne (by decide), su_ne (by decide), s50, ← j2, onR_in j0 j1, onR_in j0 j1, onR_in j0 j1, j2]
        exact hx
      · unfold BNM
        rw [hu, ktM_ne _ _ (by decide), ktM_ne _ _ (by decide), ktM_ne _ _ (by decide), su_ne (by decide), su_ne (by decide), su_ne (by decide)]
        exact hNs
      · rw [hu, ktM_ne _ _ ⟨h9.2.1, h9.2.2.1, h9.2.2.2.1⟩, su_ne h9.2.2.2.2]
        exact hw w h9.1
    refine G_iload_n (pc := 19) dX9_byFirst_19 rfl ?_
    refine G_aload_n (pc := 20) dX9_byFirst_20 rfl ?_
    refine G_getI (pc := 21) dX9_byFirst_21 fk_X9_175 rfl rfl rfl ?_
    rw [s2210]
    refine G_icmp_ge (pc := 24) (tgt := 45) dX9_byFirst_24 rfl (fun h_24 => ?_) (fun h_24 => ?_)
    · refine G_aload_n (pc := 45) dX9_byFirst_45 rfl ?_
      refine G_cV0 (pc := 46) (c_X9_noteBest _ (by exact hSM) (by omega) (by intro j j0 j1; rw [s50]; have := hE.ord j j0 (by omega); omega) (by exact BN_BD hNs.1 (by decide)) (by exact BN_BD hNs.2.1 (by decide)) (by exact BN_BD hNs.2.2 (by decide))) dX9_byFirst_46 ml_X9_191 rfl rfl rfl (by decide) (Nat.le_of_ble_eq_true rfl) ?_
      exact G_return (pc := 49) dX9_byFirst_49 ⟨rfl, fin (by omega) _ rfl⟩
    · have hri := hE.ord i (by omega) (by omega)
      refine G_aload_n (pc := 27) dX9_byFirst_27 rfl ?_
      refine G_aload_n (pc := 28) dX9_byFirst_28 rfl ?_
      refine G_getP (pc := 29) dX9_byFirst_29 fk_X9_65 rfl rfl rfl ?_
      refine G_iload_n (pc := 32) dX9_byFirst_32 rfl ?_
      refine G_iaload (pc := 33) dX9_byFirst_33 rfl rfl (by omega) ?_
      rw [s50]
      refine G_iconst (pc := 34) dX9_byFirst_34 (by decide) ?_
      refine G_cV1 (pc := 35) (c_X9_standBy _ _ _ (by exact hSM) (by rw [hMs.1]; exact hri) (by omega) (by intro _; rw [hMs.2.1, hMs.2.2.1, hMs.2.2.2.2.1]; exact PLC_nb hE i1 (by omega) hP) (by exact BN_BD hNs.1 (by decide)) (by exact BN_BD hNs.2.1 (by decide)) (by exact BN_BD hNs.2.2 (by decide))) dX9_byFirst_35 ml_X9_194 rfl rfl rfl (by decide) (Nat.le_of_ble_eq_true rfl) ?_
      refine G_istore_n (pc := 38) dX9_byFirst_38 (Nat.le_of_ble_eq_true rfl) rfl ?_
      refine G_iinc (pc := 39) dX9_byFirst_39 rfl rfl (by omega) ?_
      refine G_goto (pc := 42) (tgt := 19) dX9_byFirst_42 rfl ?_
      exact go (by omega) _
  have h00 := hE.ord 0 (by omega) (by omega)
  have hn : t 2184 0 = e.n := hM.1
  have g46 : ∀ q, 0 ≤ q → q < e.n → (pM (sv t 46 (glue (t 2184 0) (fun _ => 0) (t 46)))).ps q = 0 := fun q q0 q1 => by
    show sv t 46 (glue (t 2184 0) (fun _ => 0) (t 46)) 46 q = 0
    rw [sv_at, glue0 q0 (by omega)]
  refine G_aload_n (pc := 0) dX9_byFirst_0 rfl ?_
  refine G_cV0 (pc := 1) (c_X9_noneThere _ (by omega)) dX9_byFirst_1 ml_X9_188 rfl rfl rfl (by decide) (Nat.le_of_ble_eq_true rfl) ?_
  refine G_aload_n (pc := 4) dX9_byFirst_4 rfl ?_
  refine G_aload_n (pc := 5) dX9_byFirst_5 rfl ?_
  refine G_getP (pc := 6) dX9_byFirst_6 fk_X9_65 rfl rfl rfl ?_
  refine G_iconst (pc := 9) dX9_byFirst_9 (by decide) ?_
  refine G_iaload (pc := 10) dX9_byFirst_10 rfl rfl (by omega) ?_
  try simp (disch := decide) only [su_ne, su_at, su_same, sv_ne, sv_at]
  rw [ho.1]
  refine G_iconst (pc := 11) dX9_byFirst_11 (by decide) ?_
  refine G_iconst (pc := 12) dX9_byFirst_12 (by decide) ?_
  refine G_iconst (pc := 13) dX9_byFirst_13 (by decide) ?_
  refine G_cV0 (pc := 14) (c_X9_stand _ _ _ _ _ (by omega)) dX9_byFirst_14 ml_X9_171 rfl rfl rfl (by decide) (Nat.le_of_ble_eq_true rfl) ?_
  refine G_iconst (pc := 17) dX9_byFirst_17 (by decide) ?_
  refine G_istore_n (pc := 18) dX9_byFirst_18 (Nat.le_of_ble_eq_true rfl) rfl ?_
  refine loop 1 (by omega) _ _ (by omega) ?_ ?_ ?_ ?_ ?_
  · rw [standM_p, itr_ge (Int.le_refl _)]
    exact AG_put (AG_0 g46 (fun _ _ _ => rfl)) _ _ _ _
  · rw [standM_p]
    exact PLC_put (Int.le_refl _) (PLC_0 g46) _ _ _
  · rw [standM_p]
    exact BP_put (BP_0 g46 _) (by omega) (by omega) (by omega)
  · refine BNM_put (t := sv t 46 (glue (t 2184 0) (fun _ => 0) (t 46))) ?_ (standM_p _ _ _ _ _) (by omega) (by omega) (by omega)
    unfold BNM
    rw [sv_ne (by decide), sv_ne (by decide), sv_ne (by decide)]
    exact hN
  · intro w h9
    rw [standM_ne _ _ _ _ _ ⟨h9.1, h9.2.1, h9.2.2.1, h9.2.2.2.1⟩, sv_ne h9.1]
