/-! DRAWING: the reference, the words -/
theorem spr_b {e : SE} (hS : SOE e) : ∀ (f : Nat) (z : SPZ), BP e.n (30 * cntP e.n z.1.ps) z.1 → BP e.n (30 * cntP e.n (sprF e f z).1.ps) (sprF e f z).1 := by
  intro f
  induction f with
  | zero => intro z h; exact h
  | succ f ih =>
    intro z h
    by_cases y : nxE e z.1 < 0
    · rw [sprF_end y]; exact h
    · rw [sprF_go y]
      apply ih
      obtain ⟨a, b, c⟩ := nx_spec y
      have h1 := gr1_cnt (un_nx y)
      obtain ⟨d1, d2, d3⟩ := fc_b hS h c
      have e1 : gr1 e z.1 = putF z.1 (nxE e z.1) (fXE e z.1 (nxE e z.1)) (fYE e z.1 (nxE e z.1)) (fLE e z.1 (nxE e z.1)) := by unfold gr1; rw [if_neg y]
      rw [sp1_gr y, h1, e1]
      exact BP_put (BP_up h (by omega)) (by omega) (by omega) (by omega)
theorem fP_b {e : SE} (hS : SOE e) {r : Int} (r0 : 0 ≤ r) (r1 : r < e.n) : ∀ q, inO (eR e r) q → (-1000 ≤ (fP e r).xs q ∧ (fP e r).xs q ≤ 1000) ∧ (-1000 ≤ (fP e r).ys q ∧ (fP e r).ys q ≤ 1000) ∧ (-1000 ≤ (fP e r).ls q ∧ (fP e r).ls q ≤ 1000) := by
  intro q hq
  have hc0 := cntP_r hS.1.1 (putF p00 r 0 0 0).ps
  have h := spr_b hS 24 (putF p00 r 0 0 0, fu (fun _ => 0) 0 r, 1) (BP_put (BP_0 (fun _ _ _ => rfl) _) (by show -(30 * cntP e.n (putF p00 r 0 0 0).ps) ≤ 0 ∧ 0 ≤ 30 * cntP e.n (putF p00 r 0 0 0).ps; omega) (by show -(30 * cntP e.n (putF p00 r 0 0 0).ps) ≤ 0 ∧ 0 ≤ 30 * cntP e.n (putF p00 r 0 0 0).ps; omega) (by show -(30 * cntP e.n (putF p00 r 0 0 0).ps) ≤ 0 ∧ 0 ≤ 30 * cntP e.n (putF p00 r 0 0 0).ps; omega))
  have e1 := spr_ord e 24 (putF p00 r 0 0 0, fu (fun _ => 0) 0 r, 1)
  have e2 : ordF e 24 ((putF p00 r 0 0 0).ps, fu (fun _ => 0) 0 r, 1) = oz e r := rfl
  rw [e2] at e1
  have e3 : (fP e r).ps = (oz e r).1 := by rw [← e1]; rfl
  have hqr := inRt_r hS r0 r1 hq
  have hps : (fP e r).ps q ≠ 0 := by
    rw [e3, (oz_ok hS r0 r1).1.2.2.2.1 q hqr.1 hqr.2]
    exact hq
  have hb := h q hqr.1 hqr.2 hps
  have hcr := cntP_r hS.1.1 (fP e r).ps
  have hn24 := hS.1.2.1
  have e4 : (sprF e 24 (putF p00 r 0 0 0, fu (fun _ => 0) 0 r, 1)).1 = fP e r := rfl
  rw [e4] at hb
  omega
theorem aR_bb {e : SE} (hS : SOE e) {r : Int} (r0 : 0 ≤ r) (r1 : r < e.n) : ACb (eR e r) (fP e r).xs (fP e r).ys (fP e r).ls (aR e r) := aR_b hS r0 r1 (fP_b hS r0 r1)
theorem aR_none {e : SE} (hS : SOE e) {r : Int} (r0 : 0 ≤ r) (r1 : r < e.n) (h : (aR e r).best = -1) : (aR e r).bx = (fP e r).xs ∧ (aR e r).bY = (fP e r).ys ∧ (aR e r).bl = (fP e r).ls := by
  have hE := eR_ok hS r0 r1
  have h0 : 0 < (eR e r).cnt := by have := hE.cnt; omega
  refine tryF_ind hE (P := fun c : AC => c.best = -1 → c.bx = (fP e r).xs ∧ c.bY = (fP e r).ys ∧ c.bl = (fP e r).ls) (fun c m s h9 => h9) (fun c p h9 hP hB => ?_) 24 0 p00 0 0 0 (0, 0, -1, (fP e r).xs, (fP e r).ys, (fP e r).ls) (Int.le_refl _) h0 (PLC_0 (fun _ _ _ => rfl)) (BP_0 (fun _ _ _ => rfl) _) (by omega) (by omega) (by omega) (fun _ => ⟨rfl, rfl, rfl⟩) h
  unfold wghF
  split
  · intro z
    exfalso
    have hC := sumI_r (c := clS (eR e r).n (eR e r).fr (eR e r).di (eR e r).to p.ps p.xs p.ys p.ls) (k := (eR e r).k) (B := 60) (fun l l0 l1 => clS_r _ _ _ _ _ _ _ _ _) 0 hE.sok.1.2.2.1 (Int.le_refl _)
    have e1 : coE (eR e r) p = sumI (clS (eR e r).n (eR e r).fr (eR e r).di (eR e r).to p.ps p.xs p.ys p.ls) 0 (eR e r).k := rfl
    have z' : coE (eR e r) p = -1 := z
    omega
  · exact h9
/-- the order that the reference found is the part's -/
theorem fo_env {e : SE} {i : Int} {s u : Sto} (hF : FOq e i s u) : EOK (eO e (u 50) (u 2210 0)) ∧ (∀ q, inO (eR e (rho (lsE e) e.n i)) q ↔ inO (eO e (u 50) (u 2210 0)) q) ∧ tryF (eO e (u 50) (u 2210 0)) 24 0 p00 0 0 0 (0, 0, -1, (fP e (rho (lsE e) e.n i)).xs, (fP e (rho (lsE e) e.n i)).ys, (fP e (rho (lsE e) e.n i)).ls) = aR e (rho (lsE e) e.n i) := by
  obtain ⟨m1, m2, m3, m4⟩ := hF
  generalize rho (lsE e) e.n i = r at *
  have hcn : 1 ≤ u 2210 0 := m3.cnt.1
  refine ⟨m3, fun q => ⟨?_, ?_⟩, ?_⟩
  · rintro ⟨j, j0, j1, j2⟩
    exact ⟨j, j0, by show j < u 2210 0; rw [m1]; exact j1, by show u 50 j = q; rw [m2 j j0 j1]; exact j2⟩
  · rintro ⟨j, j0, j1, j2⟩
    have j1' : j < (oz e r).2.2 := by rw [← m1]; exact j1
    exact ⟨j, j0, j1', by show (oz e r).2.1 j = q; rw [← m2 j j0 j1']; exact j2⟩
  · have := tryF_env (e := eO e (u 50) (u 2210 0)) (o := (oz e r).2.1) (fun j j0 j1 => m2 j j0 (by rw [← m1]; exact j1)) 24 0 p00 0 0 0 (0, 0, -1, (fP e r).xs, (fP e r).ys, (fP e r).ls) (Int.le_refl _) (by show 0 < u 2210 0; omega)
    rw [this]
    have e9 : eO (eO e (u 50) (u 2210 0)) (oz e r).2.1 (eO e (u 50) (u 2210 0)).cnt = eR e r := by
      unfold eR
      rw [← m1]
      rfl
    rw [e9]
    rfl
/-- placing by first chances along that order is the part's first placing -/
theorem fo_bf {e : SE} (hS : SOE e) {r : Int} (r0 : 0 ≤ r) (r1 : r < e.n) {o : Int → Int} {c : Int} (m1 : c = (oz e r).2.2) (m2 : ∀ j, 0 ≤ j → j < (oz e r).2.2 → o j = (oz e r).2.1 j) : itr (bf1 (eO e o c) (eO e o c).ord) 1 (eO e o c).cnt (putF p00 ((eO e o c).ord 0) 0 0 0) = fP e r := by
  obtain ⟨⟨c1, c2⟩, h2, h3, h4, h5, h6, h7⟩ := (oz_ok hS r0 r1).1
  rw [fP_bf hS r0 r1]
  have e1 : (eO e o c).ord 0 = r := by show o 0 = r; rw [m2 0 (Int.le_refl _) (by omega)]; exact h6
  have e2 : (eO e o c).cnt = (oz e r).2.2 := m1
  rw [e1, e2]
  refine itr_rel (R := fun u v => u = v) (l0 := 1) (fun j u v j0 j1 huv => ?_) 1 c1 _ _ (Int.le_refl _) rfl
  subst huv
  have e3 : (eO e o c).ord j = (oz e r).2.1 j := m2 j (by omega) j1
  unfold bf1
  rw [e3]
  rfl
def DSM (s : Sto) (east : Int) : DS := (s 40, s 41, s 42, s 43, s 2197 0, east)
def keptY (w : Nat) : Prop := keptT w ∧ w ≠ 43 ∧ w ≠ 50 ∧ w ≠ 51 ∧ w ≠ 2210 ∧ w ≠ 2197
def keptX (w : Nat) : Prop := keptY w ∧ w ≠ 39 ∧ w ≠ 40 ∧ w ≠ 41 ∧ w ≠ 42
def DMI (e : SE) (T : Sto) (p east : Int) (s : Sto) : Prop := EM e s ∧ (∀ q, 0 ≤ q → q < e.n → s 45 q = parS e.n e.k e.fr e.to q) ∧ (0 ≤ east ∧ east ≤ 2002 * p) ∧ (0 ≤ s 2197 0 ∧ s 2197 0 ≤ 20000 * p) ∧ (∀ q, s 39 q = if (0 ≤ q ∧ q < e.n) ∧ parS e.n e.k e.fr e.to q < p then 1 else T 39 q) ∧ (BN 60000 (s 40) ∧ BN 60000 (s 41) ∧ BN 60000 (s 42)) ∧ BNM s ∧ (∀ w, keptX w → s w = T w)
def BSq (e : SE) (r : Int) (v : Sto) : Prop := ∀ q, inO (eR e r) q → v 53 q = (aR e r).bx q ∧ v 54 q = (aR e r).bY q ∧ v 55 q = (aR e r).bl q
theorem dm_move {e : SE} {T s v : Sto} {p east dx ly ea r : Int} (hS : SOE e) (hl : 1 ≤ e.lim ∧ e.lim ≤ 20000) (hI : DMI e T p east s) (p0 : 0 ≤ p) (p1 : p < cntS e.n e.k e.fr e.to) (hr : r = rho (lsE e) e.n p) (d1 : v 2210 0 = (oz e r).2.2) (d2 : ∀ j, 0 ≤ j → j < (oz e r).2.2 → v 50 j = (oz e r).2.1 j) (hbs : BSq e r v) (h43 : v 43 = fu (s 43) p (if (aR e r).stp = 0 then 1 else 0)) (h2197 : v 2197 0 = s 2197 0 + (aR e r).made) (hmd : 0 ≤ (aR e r).made ∧ (aR e r).made ≤ e.lim) (hN : BNM v) (hk : ∀ w, keptY w → v w = s w) (hdx : dx = east - mnO (v 2210 0) (v 50) (v 53)) (hly : ly = mnO (v 2210 0) (v 50) (v 54)) (hea : ea = mxO (v 2210 0) (v 50) (v 53) + east - mnO (v 2210 0) (v 50) (v 53) + 2) : DMI e T (p + 1) ea (mpS v (v 2210 0) dx ly) ∧ DSM (mpS v (v 2210 0) dx ly) ea = dS e r (DSM s east) := by
  obtain ⟨hM, hpn, he, hst, h39, hB, hNs, hw⟩ := hI
  obtain ⟨a1, a2, a3⟩ := rho_ok (A := lsE e) hS.1.1 p0 p1
  rw [← hr] at a1 a2 a3
  have hE := eR_ok hS a1.1 a1.2
  have hb := aR_bb hS a1.1 a1.2
  have hcn : 1 ≤ (oz e r).2.2 ∧ (oz e r).2.2 ≤ e.n := hE.cnt
  have hio : ∀ j, 0 ≤ j → j < (oz e r).2.2 → inO (eR e r) ((oz e r).2.1 j) := fun j j0 j1 => ⟨j, j0, j1, rfl⟩
  have v18 : ∀ j, 0 ≤ j → j < (oz e r).2.2 → v 53 (v 50 j) = (aR e r).bx ((oz e r).2.1 j) := fun j j0 j1 => by rw [d2 j j0 j1]; exact (hbs _ (hio j j0 j1)).1
  have v19 : ∀ j, 0 ≤ j → j < (oz e r).2.2 → v 54 (v 50 j) = (aR e r).bY ((oz e r).2.1 j) := fun j j0 j1 => by rw [d2 j j0 j1]; exact (hbs _ (hio j j0 j1)).2.1
  have m1 : mnO (v 2210 0) (v 50) (v 53) = mnO (oz e r).2.2 (oz e r).2.1 (aR e r).bx := by rw [d1]; exact mnO_congr hcn.1 v18
  have m2 : mxO (v 2210 0) (v 50) (v 53) = mxO (oz e r).2.2 (oz e r).2.1 (aR e r).bx := by rw [d1]; exact mxO_congr hcn.1 v18
  have m3 : mnO (v 2210 0) (v 50) (v 54) = mnO (oz e r).2.2 (oz e r).2.1 (aR e r).bY := by rw [d1]; exact mnO_congr hcn.1 v19
  have hbx : ∀ i, 0 ≤ i → i < (oz e r).2.2 → -1000 ≤ (aR e r).bx ((oz e r).2.1 i) ∧ (aR e r).bx ((oz e r).2.1 i) ≤ 1000 := fun i i0 i1 => (hb.2.1 _ (hio i i0 i1)).1
  have hby : ∀ i, 0 ≤ i → i < (oz e r).2.2 → -1000 ≤ (aR e r).bY ((oz e r).2.1 i) ∧ (aR e r).bY ((oz e r).2.1 i) ≤ 1000 := fun i i0 i1 => (hb.2.1 _ (hio i i0 i1)).2.1
  have n1 : -1000 ≤ mnO (oz e r).2.2 (oz e r).2.1 (aR e r).bx ∧ mnO (oz e r).2.2 (oz e r).2.1 (aR e r).bx ≤ 1000 := mnO_b hcn.1 hbx (Int.le_refl _) hcn.1 (hbx 0 (by omega) (by omega))
  have n2 : -1000 ≤ mxO (oz e r).2.2 (oz e r).2.1 (aR e r).bx ∧ mxO (oz e r).2.2 (oz e r).2.1 (aR e r).bx ≤ 1000 := mxO_b hcn.1 hbx (Int.le_refl _) hcn.1 (hbx 0 (by omega) (by omega))
  have n3 : -1000 ≤ mnO (oz e r).2.2 (oz e r).2.1 (aR e r).bY ∧ mnO (oz e r).2.2 (oz e r).2.1 (aR e r).bY ≤ 1000 := mnO_b hcn.1 hby (Int.le_refl _) hcn.1 (hby 0 (by omega) (by omega))
  have n4 : mnO (oz e r).2.2 (oz e r).2.1 (aR e r).bx ≤ mxO (oz e r).2.2 (oz e r).2.1 (aR e r).bx := by
    have b1 : mnO (oz e r).2.2 (oz e r).2.1 (aR e r).bx ≤ (aR e r).bx ((oz e r).2.1 0) := itr_inv (F := fun (i m : Int) => if (aR e r).bx ((oz e r).2.1 i) < m then (aR e r).bx ((oz e r).2.1 i) else m) (P := fun m => m ≤ (aR e r).bx ((oz e r).2.1 0)) (l0 := 1) (fun i m _ _ hm => by
      show (if (aR e r).bx ((oz e r).2.1 i) < m then (aR e r).bx ((oz e r).2.1 i) else m) ≤ _
      split <;> omega) 1 hcn.1 _ (Int.le_refl _) (Int.le_refl _)
    have b2 : (aR e r).bx ((oz e r).2.1 0) ≤ mxO (oz e r).2.2 (oz e r).2.1 (aR e r).bx := itr_inv (F := fun (i m : Int) => if m < (aR e r).bx ((oz e r).2.1 i) then (aR e r).bx ((oz e r).2.1 i) else m) (P := fun m => (aR e r).bx ((oz e r).2.1 0) ≤ m) (l0 := 1) (fun i m _ _ hm => by
      show _ ≤ (if m < (aR e r).bx ((oz e r).2.1 i) then (aR e r).bx ((oz e r).2.1 i) else m)
      split <;> omega) 1 hcn.1 _ (Int.le_refl _) (Int.le_refl _)
    omega
  rw [m1] at hdx hea
  rw [m2] at hea
  rw [m3] at hly
  have hdS : dS e r (DSM s east) = (onO (eR e r) (fun q => (aR e r).bx q + (east - mnO (oz e r).2.2 (oz e r).2.1 (aR e r).bx)) (s 40), onO (eR e r) (fun q => (aR e r).bY q - mnO (oz e r).2.2 (oz e r).2.1 (aR e r).bY) (s 41), onO (eR e r) (aR e r).bl (s 42), fu (s 43) (pcS (lsE e) r).1 (if (aR e r).stp = 0 then 1 else 0), s 2197 0 + (aR e r).made, mxO (oz e r).2.2 (oz e r).2.1 (aR e r).bx + east - mnO (oz e r).2.2 (oz e r).2.1 (aR e r).bx + 2) := rfl
  rw [hdS, a3]
  generalize mnO (oz e r).2.2 (oz e r).2.1 (aR e r).bx = LX at *
  generalize mxO (oz e r).2.2 (oz e r).2.1 (aR e r).bx = GX at *
  generalize mnO (oz e r).2.2 (oz e r).2.1 (aR e r).bY = LY at *
  have hn24 := hS.1.2.1
  have hcs : cntS e.n e.k e.fr e.to ≤ e.n := (pcS_bound (lsE e) e.n e.n hS.1.1).2
  have ron : ∀ f g : Int → Int, onR (v 2210 0) (v 50) f g = onO (eR e r) f g := by
    intro f g
    funext q
    unfold onR onO
    by_cases y : inO (eR e r) q
    · rw [if_pos y]
      obtain ⟨i, i0, i1, i2⟩ := y
      have i1' : i < (oz e r).2.2 := i1
      rw [if_pos ⟨i, i0, by omega, by rw [d2 i i0 i1']; exact i2⟩]
    · rw [if_neg y, if_neg]
      rintro ⟨i, i0, i1, i2⟩
      exact y ⟨i, i0, by show i < (oz e r).2.2; omega, by show (oz e r).2.1 i = q; rw [← d2 i i0 (by omega)]; exact i2⟩
  obtain ⟨q1, q2, q3, q4⟩ := mpS_at v (v 2210 0) dx ly
  rw [ron] at q1 q2 q3 q4
  have kv : ∀ w, w = 39 ∨ w = 40 ∨ w = 41 ∨ w = 42 → v w = s w := fun w h9 => hk w (by rcases h9 with z | z | z | z <;> (subst z; unfold keptY keptT keptF keptM; decide))
  rw [kv 39 (Or.inl rfl)] at q1
  rw [kv 40 (Or.inr (Or.inl rfl))] at q2
  rw [kv 41 (Or.inr (Or.inr (Or.inl rfl)))] at q3
  rw [kv 42 (Or.inr (Or.inr (Or.inr rfl)))] at q4
  have q2' : mpS v (v 2210 0) dx ly 40 = onO (eR e r) (fun q => (aR e r).bx q + dx) (s 40) := by
    rw [q2]; exact onO_eq (fun _ => Iff.rfl) (fun q hq => by rw [(hbs q hq).1]) (fun _ _ => rfl)
  have q3' : mpS v (v 2210 0) dx ly 41 = onO (eR e r) (fun q => (aR e r).bY q - ly) (s 41) := by
    rw [q3]; exact onO_eq (fun _ => Iff.rfl) (fun q hq => by rw [(hbs q hq).2.1]) (fun _ _ => rfl)
  have q4' : mpS v (v 2210 0) dx ly 42 = onO (eR e r) (aR e r).bl (s 42) := by
    rw [q4]; exact onO_eq (fun _ => Iff.rfl) (fun q hq => (hbs q hq).2.2) (fun _ _ => rfl)
  have kx : ∀ w, w ≠ 39 ∧ w ≠ 40 ∧ w ≠ 41 ∧ w ≠ 42 → mpS v (v 2210 0) dx ly w = v w := fun w h9 => mpS_ne v _ _ _ h9
  have hcl : ∀ q, 0 ≤ q → q < e.n → (inO (eR e r) q ↔ parS e.n e.k e.fr e.to q = p) := fun q q0 q1 => by
    rw [inRt hS a1.1 a1.2 q0 q1, least_conn hS a1.1 a1.2 q0 q1, par_root hS p0 p1 q0 q1, ← hr]
    show lsE e r = lsE e q ↔ lsE e q = r
    rw [a2]
    exact ⟨fun z => z.symm, fun z => z.symm⟩
  refine ⟨⟨?_, ?_, ?_, ?_, ?_, ?_, ?_, ?_⟩, ?_⟩
  · unfold EM
    rw [kx 2184 (by decide), kx 2188 (by decide), kx 35 (by decide), kx 36 (by decide), kx 37 (by decide), kx 38 (by decide), hk 2184 (by unfold keptY keptT keptF keptM; decide), hk 2188 (by unfold keptY keptT keptF keptM; decide), hk 35 (by unfold keptY keptT keptF keptM; decide), hk 36 (by unfold keptY keptT keptF keptM; decide), hk 37 (by unfold keptY keptT keptF keptM; decide), hk 38 (by unfold keptY keptT keptF keptM; decide)]
    exact hM
  · rw [kx 45 (by decide), hk 45 (by unfold keptY keptT keptF keptM; decide)]; exact hpn
  · omega
  · rw [kx 2197 (by decide), h2197]; omega
  · intro q
    rw [q1]
    by_cases y : inO (eR e r) q
    · rw [onO_in y]
      have hqr := inRt_r hS a1.1 a1.2 y
      have := (hcl q hqr.1 hqr.2).mp y
      rw [if_pos ⟨hqr, by omega⟩]
    · unfold onO
      rw [if_neg y, h39 q]
      by_cases z : (0 ≤ q ∧ q < e.n) ∧ parS e.n e.k e.fr e.to q < p
      · rw [if_pos z, if_pos ⟨z.1, by omega⟩]
      · rw [if_neg z, if_neg]
        rintro ⟨z1, z2⟩
        have : parS e.n e.k e.fr e.to q ≠ p := fun z9 => y ((hcl q z1.1 z1.2).mpr z9)
        exact z ⟨z1, by omega⟩
  · rw [q2', q3', q4']
    refine ⟨onO_b hB.1 (fun q y => ?_), onO_b hB.2.1 (fun q y => ?_), onO_b hB.2.2 (fun q y => ?_)⟩
    · have := hb.2.1 q y
      show -60000 ≤ (aR e r).bx q + dx ∧ (aR e r).bx q + dx ≤ 60000
      omega
    · have := hb.2.1 q y
      show -60000 ≤ (aR e r).bY q - ly ∧ (aR e r).bY q - ly ≤ 60000
      omega
    · have := hb.2.1 q y
      omega
  · unfold BNM
    rw [kx 47 (by decide), kx 48 (by decide), kx 49 (by decide)]
    exact hN
  · intro w h9
    rw [kx w ⟨h9.2.1, h9.2.2.1, h9.2.2.2.1, h9.2.2.2.2⟩, hk w h9.1]
    exact hw w h9
  · unfold DSM
    rw [q2', q3', q4', kx 43 (by decide), kx 2197 (by decide), h43, h2197, hdx, hly, hea]
/-- drawing by least rooms is drawing by the numbers of parts -/
theorem ds_mu {e : SE} (hS : SOE e) (z : DS) : itr (dS1 e) 0 e.n z = itr (fun i => dS e (rho (lsE e) e.n i)) 0 (cntS e.n e.k e.fr e.to) z := by
  have hc0 := (pcS_bound (lsE e) e.n e.n hS.1.1).1
  have h := itr_mu (F := dS1 e) (μ := rho (lsE e) e.n) (B := (pcS (lsE e) e.n).1) (K := e.n) (fun c c0 c1 => (rho_ok hS.1.1 c0 c1).1) (fun c c' c0 cc c1 => rho_inc hS.1.1 c0 cc c1) hc0 (fun m m0 m1 hno a => by
    unfold dS1
    rw [if_neg]
    intro y
    obtain ⟨⟨b1, b2⟩, b3⟩ := rho_root (A := lsE e) hS.1.1 m0 m1 y
    exact hno _ b1 b2 b3) 0 hS.1.1 0 z (Int.le_refl _) (Int.le_refl _) hc0 (fun d d0 d1 => by omega) (fun d d0 d1 => (rho_ok hS.1.1 d0 d1).1.1)
  rw [h]
  show itr (fun c => dS1 e (rho (lsE e) e.n c)) 0 (pcS (lsE e) e.n).1 z = itr (fun i => dS e (rho (lsE e) e.n i)) 0 (pcS (lsE e) e.n).1 z
  refine itr_rel (R := fun u v => u = v) (l0 := 0) (fun i u v i0 i1 huv => ?_) 0 hc0 _ _ (Int.le_refl _) rfl
  subst huv
  obtain ⟨b1, b2, b3⟩ := rho_ok (A := lsE e) hS.1.1 i0 i1
  show dS1 e (rho (lsE e) e.n i) u = dS e (rho (lsE e) e.n i) u
  unfold dS1
  rw [if_pos b2]
