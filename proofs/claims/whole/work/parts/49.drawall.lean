/-! DRAWING ALL PARTS: the words, and one part of the class -/
noncomputable def lsE (e : SE) : Int → Int := leastS e.n e.k e.fr e.to
def eB (t : Sto) (lim : Int) : SE := (t 267 0, t 272 0, t 13, t 14, t 15, t 16, fun _ => 0, 0, lim)
abbrev DS : Type := (Int → Int) × (Int → Int) × (Int → Int) × (Int → Int) × Int × Int
noncomputable def dS (e : SE) (r : Int) (z : DS) : DS := (onO (eR e r) (fun q => (aR e r).bx q + (z.2.2.2.2.2 - mnO (oz e r).2.2 (oz e r).2.1 (aR e r).bx)) z.1, onO (eR e r) (fun q => (aR e r).bY q - mnO (oz e r).2.2 (oz e r).2.1 (aR e r).bY) z.2.1, onO (eR e r) (aR e r).bl z.2.2.1, fu z.2.2.2.1 (pcS (lsE e) r).1 (if (aR e r).stp = 0 then 1 else 0), z.2.2.2.2.1 + (aR e r).made, mxO (oz e r).2.2 (oz e r).2.1 (aR e r).bx + z.2.2.2.2.2 - mnO (oz e r).2.2 (oz e r).2.1 (aR e r).bx + 2)
noncomputable def dS1 (e : SE) (r : Int) (z : DS) : DS := if lsE e r = r then dS e r z else z
theorem mnO_congr {c : Int} {o o' f f' : Int → Int} (hc : 1 ≤ c) (h : ∀ i, 0 ≤ i → i < c → f (o i) = f' (o' i)) : mnO c o f = mnO c o' f' := by
  unfold mnO
  rw [h 0 (by omega) (by omega)]
  exact itr_rel (R := fun (u v : Int) => u = v) (l0 := 1) (fun i u v i0 i1 huv => by
    show (if f (o i) < u then f (o i) else u) = (if f' (o' i) < v then f' (o' i) else v)
    rw [huv, h i (by omega) i1]) 1 hc _ _ (Int.le_refl _) rfl
theorem mxO_congr {c : Int} {o o' f f' : Int → Int} (hc : 1 ≤ c) (h : ∀ i, 0 ≤ i → i < c → f (o i) = f' (o' i)) : mxO c o f = mxO c o' f' := by
  unfold mxO
  rw [h 0 (by omega) (by omega)]
  exact itr_rel (R := fun (u v : Int) => u = v) (l0 := 1) (fun i u v i0 i1 huv => by
    show (if u < f (o i) then f (o i) else u) = (if v < f' (o' i) then f' (o' i) else v)
    rw [huv, h i (by omega) i1]) 1 hc _ _ (Int.le_refl _) rfl
def DSC (s : Sto) (east : Int) : DS := (s 18, s 19, s 20, s 27, s 530 0, east)
def keptA (w : Nat) : Prop := keptD w ∧ w ≠ 27 ∧ w ≠ 530
def DI (e : SE) (T : Sto) (r east : Int) (s : Sto) : Prop := BASE e s ∧ (0 ≤ east ∧ east ≤ 2002 * r) ∧ (0 ≤ s 530 0 ∧ s 530 0 ≤ 20000 * r) ∧ (∀ q, 0 ≤ q → q < e.n → (s 21 q ≠ 0 ↔ lsE e q < r)) ∧ (∀ q, 0 ≤ q → q < e.n → s 21 q ≠ 0 → s 21 q = 1 ∧ (-52000 ≤ s 18 q ∧ s 18 q ≤ 52000) ∧ (-52000 ≤ s 19 q ∧ s 19 q ≤ 52000) ∧ (-52000 ≤ s 20 q ∧ s 20 q ≤ 52000)) ∧ (∀ q, ¬ (0 ≤ q ∧ q < e.n) → s 21 q = T 21 q) ∧ (BN 60000 (s 18) ∧ BN 60000 (s 19) ∧ BN 60000 (s 20)) ∧ (∀ w, keptA w → s w = T w)
theorem onO_b {e : SE} {f g : Int → Int} {B : Int} (hg : BN B g) (hf : ∀ q, inO e q → -B ≤ f q ∧ f q ≤ B) : BN B (onO e f g) := fun q => by
  unfold onO
  by_cases y : inO e q
  · rw [if_pos y]; exact hf q y
  · rw [if_neg y]; exact hg q
/-- after one part -/
theorem da_step {e : SE} {T s u : Sto} {r east : Int} (hI : DI e T r east s) (r0 : 0 ≤ r) (r1 : r < e.n) (hr : lsE e r = r) (hD : DPq e r s u) (hb : ACb (eR e r) (fP e r).xs (fP e r).ys (fP e r).ls (aR e r)) {pn vl c dx ly ea : Int} (hpn : pn = (pcS (lsE e) r).1) (hvl : vl = if u 533 0 = 0 then 1 else 0) (hc : c = u 527 0) (hdx : dx = east - mnO (u 527 0) (u 26) (u 18)) (hly : ly = mnO (u 527 0) (u 26) (u 19)) (hea : ea = mxO (u 527 0) (u 26) (u 18) + east - mnO (u 527 0) (u 26) (u 18) + 2) : DI e T (r + 1) ea (mvS (su (su u 27 pn vl) 530 0 (u 530 0 + u 532 0)) c dx ly) ∧ DSC (mvS (su (su u 27 pn vl) 530 0 (u 530 0 + u 532 0)) c dx ly) ea = dS e r (DSC s east) := by
  obtain ⟨hB, he, hst, hpl, hpb, hpo, hN, hk⟩ := hI
  obtain ⟨⟨b1, b2, b3, b4, b5, b6⟩, hT, hS, hlim, hl, hN2⟩ := id hB
  obtain ⟨⟨d1, d2⟩, ⟨d3, d4⟩, ⟨d5, d6, d7, d8⟩, d9, ⟨d10, d11⟩, d12⟩ := hD
  have hE := eR_ok hS r0 r1
  have hcn : 1 ≤ (oz e r).2.2 ∧ (oz e r).2.2 ≤ e.n := hE.cnt
  have hio : ∀ i, 0 ≤ i → i < (oz e r).2.2 → inO (eR e r) ((oz e r).2.1 i) := fun i i0 i1 => ⟨i, i0, i1, rfl⟩
  have v18 : ∀ i, 0 ≤ i → i < (oz e r).2.2 → u 18 (u 26 i) = (aR e r).bx ((oz e r).2.1 i) := fun i i0 i1 => by rw [d2 i i0 i1, d5, onO_in (hio i i0 i1)]
  have v19 : ∀ i, 0 ≤ i → i < (oz e r).2.2 → u 19 (u 26 i) = (aR e r).bY ((oz e r).2.1 i) := fun i i0 i1 => by rw [d2 i i0 i1, d6, onO_in (hio i i0 i1)]
  have m1 : mnO (u 527 0) (u 26) (u 18) = mnO (oz e r).2.2 (oz e r).2.1 (aR e r).bx := by rw [d1]; exact mnO_congr hcn.1 v18
  have m2 : mxO (u 527 0) (u 26) (u 18) = mxO (oz e r).2.2 (oz e r).2.1 (aR e r).bx := by rw [d1]; exact mxO_congr hcn.1 v18
  have m3 : mnO (u 527 0) (u 26) (u 19) = mnO (oz e r).2.2 (oz e r).2.1 (aR e r).bY := by rw [d1]; exact mnO_congr hcn.1 v19
  have hbx : ∀ i, 0 ≤ i → i < (oz e r).2.2 → -1000 ≤ (aR e r).bx ((oz e r).2.1 i) ∧ (aR e r).bx ((oz e r).2.1 i) ≤ 1000 := fun i i0 i1 => (hb.2.1 _ (hio i i0 i1)).1
  have hby : ∀ i, 0 ≤ i → i < (oz e r).2.2 → -1000 ≤ (aR e r).bY ((oz e r).2.1 i) ∧ (aR e r).bY ((oz e r).2.1 i) ≤ 1000 := fun i i0 i1 => (hb.2.1 _ (hio i i0 i1)).2.1
  have n1 : -1000 ≤ mnO (oz e r).2.2 (oz e r).2.1 (aR e r).bx ∧ mnO (oz e r).2.2 (oz e r).2.1 (aR e r).bx ≤ 1000 := mnO_b hcn.1 hbx (Int.le_refl _) hcn.1 (hbx 0 (by omega) (by omega))
  have n2 : -1000 ≤ mxO (oz e r).2.2 (oz e r).2.1 (aR e r).bx ∧ mxO (oz e r).2.2 (oz e r).2.1 (aR e r).bx ≤ 1000 := mxO_b hcn.1 hbx (Int.le_refl _) hcn.1 (hbx 0 (by omega) (by omega))
  have n3 : -1000 ≤ mnO (oz e r).2.2 (oz e r).2.1 (aR e r).bY ∧ mnO (oz e r).2.2 (oz e r).2.1 (aR e r).bY ≤ 1000 := mnO_b hcn.1 hby (Int.le_refl _) hcn.1 (hby 0 (by omega) (by omega))
  have n4 : mnO (oz e r).2.2 (oz e r).2.1 (aR e r).bx ≤ mxO (oz e r).2.2 (oz e r).2.1 (aR e r).bx := by
    have a1 : mnO (oz e r).2.2 (oz e r).2.1 (aR e r).bx ≤ (aR e r).bx ((oz e r).2.1 0) := itr_inv (F := fun (i m : Int) => if (aR e r).bx ((oz e r).2.1 i) < m then (aR e r).bx ((oz e r).2.1 i) else m) (P := fun m => m ≤ (aR e r).bx ((oz e r).2.1 0)) (l0 := 1) (fun i m _ _ hm => by
      show (if (aR e r).bx ((oz e r).2.1 i) < m then (aR e r).bx ((oz e r).2.1 i) else m) ≤ _
      split <;> omega) 1 hcn.1 _ (Int.le_refl _) (Int.le_refl _)
    have a2 : (aR e r).bx ((oz e r).2.1 0) ≤ mxO (oz e r).2.2 (oz e r).2.1 (aR e r).bx := itr_inv (F := fun (i m : Int) => if m < (aR e r).bx ((oz e r).2.1 i) then (aR e r).bx ((oz e r).2.1 i) else m) (P := fun m => (aR e r).bx ((oz e r).2.1 0) ≤ m) (l0 := 1) (fun i m _ _ hm => by
      show _ ≤ (if m < (aR e r).bx ((oz e r).2.1 i) then (aR e r).bx ((oz e r).2.1 i) else m)
      split <;> omega) 1 hcn.1 _ (Int.le_refl _) (Int.le_refl _)
    omega
  rw [m1] at hdx hea
  rw [m2] at hea
  rw [m3] at hly
  have hdS : dS e r (DSC s east) = (onO (eR e r) (fun q => (aR e r).bx q + (east - mnO (oz e r).2.2 (oz e r).2.1 (aR e r).bx)) (s 18), onO (eR e r) (fun q => (aR e r).bY q - mnO (oz e r).2.2 (oz e r).2.1 (aR e r).bY) (s 19), onO (eR e r) (aR e r).bl (s 20), fu (s 27) (pcS (lsE e) r).1 (if (aR e r).stp = 0 then 1 else 0), s 530 0 + (aR e r).made, mxO (oz e r).2.2 (oz e r).2.1 (aR e r).bx + east - mnO (oz e r).2.2 (oz e r).2.1 (aR e r).bx + 2) := rfl
  rw [hdS]
  generalize mnO (oz e r).2.2 (oz e r).2.1 (aR e r).bx = LX at *
  generalize mxO (oz e r).2.2 (oz e r).2.1 (aR e r).bx = GX at *
  generalize mnO (oz e r).2.2 (oz e r).2.1 (aR e r).bY = LY at *
  have hn24 := hS.1.2.1
  generalize hv : mvS (su (su u 27 pn vl) 530 0 (u 530 0 + u 532 0)) c dx ly = v
  have hvw : ∀ w, w ≠ 18 → w ≠ 19 → w ≠ 27 → w ≠ 530 → v w = u w := fun w h1 h2 h3 h4 => by rw [← hv, mvS_ne _ _ _ _ ⟨h1, h2⟩, su_ne h4, su_ne h3]
  have ron : ∀ f g : Int → Int, onR (u 527 0) (u 26) f g = onO (eR e r) f g := by
    intro f g
    funext q
    unfold onR onO
    by_cases y : inO (eR e r) q
    · rw [if_pos y]
      obtain ⟨i, i0, i1, i2⟩ := y
      have i1' : i < (oz e r).2.2 := i1
      rw [if_pos ⟨i, i0, by omega, by rw [d2 i i0 i1']; exact i2⟩]
    · rw [if_neg y, if_neg]
      rintro ⟨i, i0, i1, i2⟩
      exact y ⟨i, i0, by show i < (oz e r).2.2; omega, by show (oz e r).2.1 i = q; rw [← d2 i i0 (by omega)]; exact i2⟩
  have on2 : ∀ f g f' : Int → Int, (∀ q, inO (eR e r) q → f q = f' q) → onO (eR e r) f (onO (eR e r) (fun _ => 0) g) = onO (eR e r) f' (onO (eR e r) (fun _ => 0) g) := fun f g f' h => onO_eq (fun _ => Iff.rfl) h (fun _ _ => rfl)
  have v18' : v 18 = onO (eR e r) (fun q => (aR e r).bx q + dx) (s 18) := by
    rw [← hv, (mvS_at _ _ _ _).1, su_ne (by decide), su_ne (by decide), su_ne (by decide), su_ne (by decide), hc, ron, d5]
    refine onO_eq (fun _ => Iff.rfl) (fun q hq => ?_) (fun q hq => ?_)
    · rw [onO_in hq]
    · unfold onO; rw [if_neg hq]
  have v19' : v 19 = onO (eR e r) (fun q => (aR e r).bY q - ly) (s 19) := by
    rw [← hv, (mvS_at _ _ _ _).2, su_ne (by decide), su_ne (by decide), su_ne (by decide), su_ne (by decide), hc, ron, d6]
    refine onO_eq (fun _ => Iff.rfl) (fun q hq => ?_) (fun q hq => ?_)
    · rw [onO_in hq]
    · unfold onO; rw [if_neg hq]
  have v20' : v 20 = onO (eR e r) (aR e r).bl (s 20) := by rw [hvw 20 (by decide) (by decide) (by decide) (by decide), d7]
  have v21' : v 21 = onO (eR e r) (fun _ => 1) (s 21) := by rw [hvw 21 (by decide) (by decide) (by decide) (by decide), d8]
  have v27' : v 27 = fu (s 27) pn vl := by
    rw [← hv, mvS_ne _ _ _ _ (by decide), su_ne (by decide), su_row, sv_at, d12 27 (by unfold keptD; decide)]
  have v530' : v 530 0 = s 530 0 + (aR e r).made := by
    rw [← hv, mvS_ne _ _ _ _ (by decide), su_at, d12 530 (by unfold keptD; decide), d3]
  have hcl : ∀ q, 0 ≤ q → q < e.n → (inO (eR e r) q ↔ lsE e q = r) := fun q q0 q1 => by
    rw [inRt hS r0 r1 q0 q1, least_conn hS r0 r1 q0 q1]
    show lsE e r = lsE e q ↔ lsE e q = r
    rw [hr]
    exact ⟨fun z => z.symm, fun z => z.symm⟩
  have hvk : ∀ w, keptD w → w ≠ 27 → w ≠ 530 → v w = s w := fun w h1 h2 h3 => by rw [hvw w h1.1 h1.2.1 h2 h3, d12 w h1]
  rw [d3] at d10
  refine ⟨⟨⟨?_, ?_, hS, ?_, hl, ?_⟩, ?_, ?_, ?_, ?_, ?_, ?_, ?_⟩, ?_⟩
  · rw [hvk 267 (by unfold keptD; decide) (by decide) (by decide), hvk 272 (by unfold keptD; decide) (by decide) (by decide), hvk 13 (by unfold keptD; decide) (by decide) (by decide), hvk 14 (by unfold keptD; decide) (by decide) (by decide), hvk 15 (by unfold keptD; decide) (by decide) (by decide), hvk 16 (by unfold keptD; decide) (by decide) (by decide)]
    exact ⟨b1, b2, b3, b4, b5, b6⟩
  · unfold TIC
    rw [hvk 267 (by unfold keptD; decide) (by decide) (by decide), hvk 272 (by unfold keptD; decide) (by decide) (by decide), hvk 13 (by unfold keptD; decide) (by decide) (by decide), hvk 15 (by unfold keptD; decide) (by decide) (by decide), hvk 28 (by unfold keptD; decide) (by decide) (by decide), hvk 29 (by unfold keptD; decide) (by decide) (by decide)]
    exact hT
  · rw [hvk 531 (by unfold keptD; decide) (by decide) (by decide)]; exact hlim
  · rw [hvw 22 (by decide) (by decide) (by decide) (by decide), hvw 23 (by decide) (by decide) (by decide) (by decide), hvw 24 (by decide) (by decide) (by decide) (by decide)]
    exact d9
  · omega
  · rw [v530']; omega
  · intro q q0 q1
    rw [v21']
    by_cases y : inO (eR e r) q
    · rw [onO_in y]
      have := (hcl q q0 q1).mp y
      exact ⟨fun _ => by omega, fun _ => by decide⟩
    · unfold onO
      rw [if_neg y, hpl q q0 q1]
      have : lsE e q ≠ r := fun z => y ((hcl q q0 q1).mpr z)
      omega
  · intro q q0 q1 hq
    rw [v21'] at hq ⊢
    rw [v18', v19', v20']
    by_cases y : inO (eR e r) q
    · rw [onO_in y, onO_in y, onO_in y, onO_in y]
      have := hb.2.1 q y
      refine ⟨rfl, ?_, ?_, ?_⟩ <;> omega
    · unfold onO at hq ⊢
      rw [if_neg y] at hq
      rw [if_neg y, if_neg y, if_neg y, if_neg y]
      exact hpb q q0 q1 hq
  · intro q hq
    rw [v21']
    unfold onO
    rw [if_neg (fun y => hq (inRt_r hS r0 r1 y))]
    exact hpo q hq
  · rw [v18', v19', v20']
    refine ⟨onO_b hN.1 (fun q y => ?_), onO_b hN.2.1 (fun q y => ?_), onO_b hN.2.2 (fun q y => ?_)⟩
    · have := hb.2.1 q y
      show -60000 ≤ (aR e r).bx q + dx ∧ (aR e r).bx q + dx ≤ 60000
      omega
    · have := hb.2.1 q y
      show -60000 ≤ (aR e r).bY q - ly ∧ (aR e r).bY q - ly ≤ 60000
      omega
    · have := hb.2.1 q y
      omega
  · intro w hw
    rw [hvk w hw.1 hw.2.1 hw.2.2]
    exact hk w hw
  · unfold DSC
    rw [v18', v19', v20', v27', v530', hpn, hvl, d4, hdx, hly, hea]
