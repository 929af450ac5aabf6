/-! MAKING: the judgement of constructors and its rules; a world is a list of cells -/
abbrev zA (cy : Bool → ClassId) (b : Bool) (n q : Nat) : Nat × va_E := (q, .inl (cy b, n, .inl (fun _ => Int32.ofInt 0)))
abbrev oB (ci q : Nat) (fs : List Value) : Nat × va_E := (q, .inr (ci, fs))
def cK (D : va_G) (cy : Bool → ClassId) (U : State) : Prop := va_K D vwCl (tyW cy) U ∧ ∀ w ∈ nmF, va_Nw w U
theorem cK.moved {D : va_G} {cy : Bool → ClassId} {s U : State} (hW : s.WarmedH U.vm) (h : cK D cy s) : cK D cy U := ⟨va_K.moved hW.alike h.1, nm_warm hW h.2⟩
abbrev Ec : Type := (Program × Launch × Env × Room × State) × (MethodId × Array Value × List Frame × Method × Code) × (va_G × (Bool → ClassId) × (Nat → Prop))
def KOK (E : Ec) (cc : ByteArray) (own : String) (d C S : Nat) : Prop := match E with
  | ((p, _, _, R, s), (m, args, _, meth, c), (D, cy, A)) => p.tables.exec = Jvm.exec ∧ c.code = cc ∧ meth.sig.returnType = none ∧ meth.locks = false ∧ s.vm.findClass own = some m.cls ∧ (∀ w ∈ gw, w.before args s = true) ∧ cK D cy s ∧ (∀ q, s.heap.size ≤ q → A q) ∧ d ≤ R.frames ∧ 64 * d ≤ R.locals ∧ (R.cells = C ∧ R.slots = S) ∧ meth.name = "<init>"
def KG (E : Ec) (cc : ByteArray) (own : String) (d C S pc : Nat) (lv : List (Nat × Value)) (st : List Value) (ws : va_W) (cells slots : Nat) (Z : Ec → State → Prop) : Prop := match E with
  | ((p, l, e, R, s), (m, args, below, meth, c), (D, cy, A)) => KOK ((p, l, e, R, s), (m, args, below, meth, c), (D, cy, A)) cc own d C S →
    ∀ (H : Heap) (locs : List Loc) (la : Array Slot), va_P D vwCl ws H → va_D A ws → va_S A s.heap H locs → lv_has la c.maxLocals lv →
      W p l e R s m args below meth c H locs cells slots (Z ((p, l, e, R, s), (m, args, below, meth, c), (D, cy, A))) (F0 m pc la st)
/-- a constructor's contract: of an object at h with fields fs it makes the world wf -/
def CN (y : MethodName) (cc : ByteArray) (nL d : Nat) (h : Nat) (as : List Value) (ci : Nat) (fs : List Value) (wf : (Bool → ClassId) → (Nat → Nat) → va_W) (mc ms : Nat) : Prop :=
  ∀ (l : Launch) (D : va_G) (cy : Bool → ClassId) (sz : Nat), Met l y (Cond.code y cc nL none :: gw) { frames := d, cells := mc, slots := ms, locals := 64 * d }
    (va_Pc (.ref h :: as) (fun U => U.heap.size = sz ∧ va_P D vwCl [oB ci h fs] U.heap ∧ va_D (fun _ => True) [oB ci h fs] ∧ cK D cy U))
    (va_Qv (fun _ : Nat → Nat => True) (fun u t => va_P D vwCl (wf cy u) t.heap ∧ va_D (va_A [oB ci h fs] sz) (wf cy u)) (va_A [oB ci h fs] sz)) mc ms (va_A [oB ci h fs] sz)
theorem fm_of {ws : va_W} : ∀ (is : List Nat) (w : va_W), is.map (fun i => ws[i]?) = w.map some → is.filterMap (fun i => ws[i]?) = w := by
  intro is
  induction is with
  | nil =>
    intro w h
    cases w with
    | nil => rfl
    | cons a w => simp at h
  | cons i is ih =>
    intro w h
    cases w with
    | nil => simp at h
    | cons a w =>
      rw [List.map_cons, List.map_cons] at h
      obtain ⟨h1, h2⟩ := List.cons.inj h
      have e1 : ws[i]? = some a := h1
      rw [List.filterMap_cons_some (f := fun i => ws[i]?) e1, ih w h2]
section MAKING
variable {E : Ec} {cc : ByteArray} {own : String} {d C S pc : Nat} {lv : List (Nat × Value)} {st : List Value} {ws : va_W} {cells slots : Nat} {Z : Ec → State → Prop}
theorem K_aload {n : Fin 4} {x : Nat} (k0 : Nat) (hd : decode cc pc = .ok (.aload_n n, 1)) (hl : lv[k0]? = some ((n : Nat), .ref x)) (k : KG E cc own d C S (pc + 1) lv (.ref x :: st) ws cells slots Z) : KG E cc own d C S pc lv st ws cells slots Z := by
  obtain ⟨⟨p, l, e, R, s⟩, ⟨m, args, below, meth, c⟩, ⟨D, cy, A⟩⟩ := E
  intro hE H locs la hP hD hS hla
  exact lv_aload_n hE.1 hE.2.1 hd rfl (lv_at hla k0 hl) (k hE H locs la hP hD hS hla)
theorem K_dup {x : Nat} (hd : decode cc pc = .ok (.dup, 1)) (k : KG E cc own d C S (pc + 1) lv (.ref x :: .ref x :: st) ws cells slots Z) : KG E cc own d C S pc lv (.ref x :: st) ws cells slots Z := by
  obtain ⟨⟨p, l, e, R, s⟩, ⟨m, args, below, meth, c⟩, ⟨D, cy, A⟩⟩ := E
  intro hE H locs la hP hD hS hla
  exact lv_dup hE.1 hE.2.1 hd rfl (k hE H locs la hP hD hS hla)
theorem K_obj {idx x : Nat} (hd : decode cc pc = .ok (.invokespecial idx, 3)) (hl : Cond.methodLink own idx objectInit ∈ gw) (hd1 : 1 ≤ d) (k : KG E cc own d C S (pc + 3) lv [] ws cells slots Z) : KG E cc own d C S pc lv [.ref x] ws cells slots Z := by
  obtain ⟨⟨p, l, e, R, s⟩, ⟨m, args, below, meth, c⟩, ⟨D, cy, A⟩⟩ := E
  intro hE H locs la hP hD hS hla
  obtain ⟨hx, hb, hr, hlk, hown, hts, hK, hA, hfr, hlo, hcs, hin⟩ := id hE
  refine W.objInit hx hb hown (hts _ hl) (hts _ oi_1) (hts _ oi_2) rfl hla.1 rfl hd (Nat.le_trans hd1 hfr) (by show 2 * (F0 m pc la [Value.ref x]).monitorRoom + 0 + 12 ≤ R.locals; have : (F0 m pc la [Value.ref x]).monitorRoom = 0 := rfl; omega) ?_
  exact W.eq (g2 := F0 m (pc + 3) la []) rfl (k hE H locs la hP hD hS hla)
theorem K_newa {b : Bool} {n : Nat} {at' : ArrayType} {v : Int} {n32 : Int32} (hd0 : decode cc pc = .ok (.bipush v, 2)) (hv : (Int8.ofInt v).toInt32 = n32) (hd : decode cc (pc + 2) = .ok (.newarray at', 2)) (hat : newarray.typeOf at' = if b then .boolean else .int) (hn0 : ¬ n32 < 0) (hn : n32.toNatClampNeg = n) (hby : n ≤ 1000) (hcl : cells + 1 ≤ C) (hsl : slots + n ≤ S)
    (k : ∀ q, KG E cc own d C S (pc + 2 + 2) lv (.ref q :: st) (match E with | (_, _, (_, cy, _)) => ws ++ [zA cy b n q]) (cells + 1) (slots + n) Z) : KG E cc own d C S pc lv st ws cells slots Z := by
  obtain ⟨⟨p, l, e, R, s⟩, ⟨m, args, below, meth, c⟩, ⟨D, cy, A⟩⟩ := E
  intro hE H locs la hP hD hS hla
  obtain ⟨hx, hb, hr, hlk, hown, hts, hK, hA, hfr, hlo, hcs, hin⟩ := id hE
  refine lv_bipush hx hb hd0 hv ?_
  refine va_newa (ty := if b then .boolean else .int) (a0 := (n, .inl (fun _ => Int32.ofInt 0))) hx hb (by rw [hat]; cases b <;> first | exact hts _ ac_int | exact hts _ ac_bool) hat hK.1 hP hD hS hA (fun cA => by cases b <;> rfl) hn0 hn (by cases b <;> (show n * _ ≤ _; simp [componentBytes]; omega)) (by rw [hcs.1]; exact hcl) (by rw [hcs.2]; exact hsl) hd (fun q cA H1 hK1 hP1 hD1 hS1 => ?_)
  have hc : cA = cy b := by
    have h1 := (hK1.2 2 (cA, if b then .boolean else .int) rfl).2
    have h2 := (hK.1.2 (if b then 1 else 0) _ (ty_at cy b)).2
    cases b
    · have h3 : s.vm.findClass ("[" ++ FieldType.int.toString) = some cA := h1
      have h4 : s.vm.findClass ("[" ++ FieldType.int.toString) = some (cy false) := h2
      exact Option.some.inj (h3.symm.trans h4)
    · have h3 : s.vm.findClass ("[" ++ FieldType.boolean.toString) = some cA := h1
      have h4 : s.vm.findClass ("[" ++ FieldType.boolean.toString) = some (cy true) := h2
      exact Option.some.inj (h3.symm.trans h4)
  subst hc
  exact k q hE H1 locs la hP1 hD1 hS1 hla
theorem K_put {ci f q0 a v idx : Nat} {fs : List Value} (hd : decode cc pc = .ok (.putfield idx, 3)) (hl : FLp own idx ci f) (he : ws[q0]? = some (oB ci a fs)) (hlen : f < fs.length) (k : KG E cc own d C S (pc + 3) lv st (ws.set q0 (oB ci a (fs.set f (.ref v)))) cells slots Z) : KG E cc own d C S pc lv (.ref v :: .ref a :: st) ws cells slots Z := by
  obtain ⟨⟨p, l, e, R, s⟩, ⟨m, args, below, meth, c⟩, ⟨D, cy, A⟩⟩ := E
  intro hE H locs la hP hD hS hla
  obtain ⟨hx, hb, hr, hlk, hown, hts, hK, hA, hfr, hlo, hcs, hin⟩ := id hE
  obtain ⟨C1, T, N, ty, tyv, hc, hC2, hfN, hws, hty, hnm, hTC, hlk2, hfin, hpd, hfit⟩ := hl
  exact va_putF (ref := C1) hx hb hts hws ty hty hnm hown hK.1 hP hD hS q0 he hc f hfN (hts _ hlk2) (by rw [hTC]; exact fun _ h9 => h9) hfin hin (by rw [hTC]; exact hC2) hpd (hfit v).1 (hfit v).2 hlen hd (fun H1 locs1 hP1 hD1 hS1 => k hE H1 locs1 la hP1 hD1 hS1 hla)
theorem K_get {ci f q0 a v idx : Nat} {fs : List Value} (hd : decode cc pc = .ok (.getfield idx, 3)) (hl : FLp own idx ci f) (he : ws[q0]? = some (oB ci a fs)) (hv : fs[f]? = some (.ref v)) (k : KG E cc own d C S (pc + 3) lv (.ref v :: st) ws cells slots Z) : KG E cc own d C S pc lv (.ref a :: st) ws cells slots Z := by
  obtain ⟨⟨p, l, e, R, s⟩, ⟨m, args, below, meth, c⟩, ⟨D, cy, A⟩⟩ := E
  intro hE H locs la hP hD hS hla
  obtain ⟨hx, hb, hr, hlk, hown, hts, hK, hA, hfr, hlo, hcs, hin⟩ := id hE
  obtain ⟨C1, T, N, ty, tyv, hc, hC2, hfN, hws, hty, hnm, hTC, hlk2, hfin, hpd, hfit⟩ := hl
  exact va_get (ref := C1) hx hb hts hws hown hK.1 hP q0 he hc f hfN (hts _ hlk2) (by rw [hTC]; exact fun _ h9 => h9) hv hd (k hE H locs la hP hD hS hla)
theorem K_new {ci idx : Nat} {fs : List Value} {C1 : String} {T : u_T} {N : Nat} {ty : Nat → FieldType} (hd : decode cc pc = .ok (.new idx, 3)) (hl : NWk own idx ci C1 T N ty) (hfs : ∀ j, j < N → defaultValue (ty j) = vp_V fs j) (hcl : cells + 1 ≤ C) (hsl : slots + N ≤ S) (k : ∀ q, KG E cc own d C S (pc + 3) lv (.ref q :: st) (ws ++ [oB ci q fs]) (cells + 1) (slots + N) Z) : KG E cc own d C S pc lv st ws cells slots Z := by
  obtain ⟨⟨p, l, e, R, s⟩, ⟨m, args, below, meth, c⟩, ⟨D, cy, A⟩⟩ := E
  intro hE H locs la hP hD hS hla
  obtain ⟨hx, hb, hr, hlk, hown, hts, hK, hA, hfr, hlo, hcs, hin⟩ := id hE
  obtain ⟨hc, hws, hty, h1, h2, h3⟩ := hl
  exact va_new (fs := fs) hx hb hts hws ty hty hown (hts _ h1) (hts _ h2) (hts _ h3) hK.1 hP hD hS hA hc hfs (by rw [hcs.1]; exact hcl) (by rw [hcs.2]; exact hsl) hd (fun q H1 hP1 hD1 hS1 => k q hE H1 locs la hP1 hD1 hS1 hla)
/-- a constructor is called on the cell at place i of the world -/
theorem K_call {y : MethodName} {cc' : ByteArray} {nL' d' h ci idx mc ms : Nat} {as rest : List Value} {fs : List Value} {wf : (Bool → ClassId) → (Nat → Nat) → va_W} (hct : CN y cc' nL' d' h as ci fs wf mc ms) (hd : decode cc pc = .ok (.invokespecial idx, 3)) (hl : MLI own idx y cc' nL' as.length) (i : Nat) (isR : List Nat) {wr : va_W} (hC : [i].map (fun i => ws[i]?) = [oB ci h fs].map some) (hR : isR.map (fun i => ws[i]?) = wr.map some) (hn : va_nd isR = true) (hdis : ∀ j ∈ isR, j ∉ [i]) (hst : st = as.reverse ++ .ref h :: rest) (hcat : (rest.map fun v => v.category).sum ≤ 8) (hdep : d' + 1 ≤ d) (hcl : cells + mc ≤ C) (hsl : slots + ms ≤ S)
    (k : ∀ u : Nat → Nat, KG E cc own d C S (pc + 3) lv rest (match E with | (_, _, (_, cy, _)) => wr ++ wf cy u) (cells + mc) (slots + ms) Z) : KG E cc own d C S pc lv st ws cells slots Z := by
  subst hst
  obtain ⟨⟨p, l, e, R, s⟩, ⟨m, args, below, meth, c⟩, ⟨D, cy, A⟩⟩ := E
  intro hE H locs la hP hD hS hla
  obtain ⟨hx, hb, hr, hlk, hown, hts, hK, hA, hfr, hlo, hcs, hin⟩ := id hE
  obtain ⟨hl1, hl2, hini, ⟨hy0, hy⟩, hcode, hnl⟩ := hl
  have hFc := va_free (wc := [oB ci h fs]) hD hS hA [i] hC
  have hPc : va_P D vwCl [oB ci h fs] H := hP.sub [i] (fm_of _ _ hC)
  have hDc : va_D A [oB ci h fs] := hD.sub [i] rfl hC
  have hpre : PreS s H (va_Pc (.ref h :: as) (fun U => U.heap.size = H.size ∧ va_P D vwCl [oB ci h fs] U.heap ∧ va_D (fun _ => True) [oB ci h fs] ∧ cK D cy U)) (.ref h :: as) := ⟨fun a U g mk q => by
    obtain ⟨q0, q1, qP, qD, qK⟩ := q
    exact ⟨q0, q1, qP, qD, va_K.moved (u := U) (U := U.calling g mk a) (Vm.Alike.refl U.vm) qK.1, nm_same (s := U) (U := U.calling g mk a) rfl qK.2⟩, fun U hU hW => ⟨rfl, by rw [hU], by rw [hU]; exact hPc, hDc.weaken (fun _ _ _ _ => trivial), hK.moved hW⟩⟩
  have hroom : d' + 1 ≤ R.frames ∧ 8 + (nL' + 11) + 64 * d' ≤ R.locals := ⟨Nat.le_trans hdep hfr, by omega⟩
  have hrun : va_Run p l e R s m args below meth c H locs cells slots mc ms (F0 m pc la (as.reverse ++ .ref h :: rest)) rest (va_Qv (fun _ : Nat → Nat => True) (fun u t => va_P D vwCl (wf cy u) t.heap ∧ va_D (va_A [oB ci h fs] H.size) (wf cy u)) (va_A [oB ci h fs] H.size) (.ref h :: as).toArray) (va_A [oB ci h fs] H.size) := by
    rcases hl1 with hl1 | ⟨host, hl1⟩
    · exact va_runI (As := as) (rest := rest) ⟨hx, hb, rfl, hown, hts⟩ (hct l D cy H.size) (cwI as.length hts (gw_good hcode) rfl rfl rfl (hts _ hini) (hts _ hl1) (hts _ hl2) hy0 hy hroom) hpre rfl rfl hla.1 rfl (lv_room hcat) hd ⟨by rw [hcs.1]; exact hcl, by rw [hcs.2]; exact hsl⟩
    · exact va_runIN (As := as) (rest := rest) ⟨hx, hb, rfl, hown, hts⟩ (hct l D cy H.size) ⟨va_cnB as.length hts (gw_good hcode) rfl rfl rfl (hK.2 _ hl1) (hts _ hini) hy hroom, hy0, hts _ hl2⟩ hpre rfl rfl hla.1 rfl (lv_room hcat) hd ⟨by rw [hcs.1]; exact hcl, by rw [hcs.2]; exact hsl⟩
  refine va_callv hrun hS (fun q _ h => hFc q h) hFc (fun u t H1 locs1 ht hvm hw hB hz1 hk1 hS1 => ?_)
  obtain ⟨hP1, hD1⟩ := hB
  rw [ht] at hP1
  obtain ⟨hP2, hD2⟩ := va_join hP hD [i] isR hC hR hn hdis hk1 hFc hP1 hD1
  exact k u hE H1 locs1 la hP2 hD2 hS1 hla
end MAKING
/-- a constructor's contract out of a walk -/
theorem CN_of {y : MethodName} {cc : ByteArray} {nL d h ci mc ms : Nat} {as fs : List Value} {wf : (Bool → ClassId) → (Nat → Nat) → va_W} (hy : plainName y.cls = true) (hy0 : y.name = "<init>") {lv : List (Nat × Value)} (hlv : lv_args 0 (.ref h :: as) = lv) (hn : (lg_sl (.ref h :: as)).length ≤ nL)
    (k : ∀ E : Ec, KG E cc y.cls d mc ms 0 lv [] [oB ci h fs] 0 0 (fun E t => match E with | ((_, _, _, _, s), (_, args, below, _, _), (D, cy, A)) => MQ below (va_Qv (fun _ : Nat → Nat => True) (fun u t => va_P D vwCl (wf cy u) t.heap ∧ va_D A (wf cy u)) A) args s mc ms A t)) : CN y cc nL d h as ci fs wf mc ms := by
  intro l D cy sz
  refine Met.ofW (cc := cc) (maxL := nL) (ret := none) hy rfl ?_
  intro p e s m args below meth c s₁ B hml hv
  obtain ⟨rfl, hsz, hP, hD0, hK⟩ := hv
  have hts := atoms_spec (ws := Cond.code y cc nL none :: gw) B.pre
  have hown : s.vm.findClass y.cls = some m.cls := findClass_of_methodNamed B.named
  have hin : meth.name = "<init>" := ((name_of_methodNamed B.named B.method).1).trans hy0
  subst hsz
  have hD := hD0.self (sz := s.heap.size)
  have hl := lv_entry (.ref h :: as) (n := nL) hn
  rw [lg_entry_eq]
  rw [hlv] at hl
  exact k ((p, l, e, (headSpec (Cond.code y cc nL none :: gw) { frames := d, cells := mc, slots := ms, locals := 64 * d }).room, s), (m, (.ref h :: as : List Value).toArray, below, meth, c), (D, cy, va_A [oB ci h fs] s.heap.size))
    ⟨B.exec, B.bytes, B.returns, B.notSynchronized, hown, fun w hw => hts w (List.mem_cons_of_mem _ hw), hK, fun q h9 => Or.inr h9, Nat.le_refl _, Nat.le_refl _, ⟨rfl, rfl⟩, hin⟩ s.heap [] _ hP hD va_S.rf (by rw [hml]; exact hl)
theorem K_ret {E : Ec} {cc : ByteArray} {own : String} {d C S pc cells slots : Nat} {lv : List (Nat × Value)} {ws : va_W} {wf : (Bool → ClassId) → (Nat → Nat) → va_W} (hd : decode cc pc = .ok (.return_, 1)) (u : Nat → Nat) (is : List Nat) (hnd : va_nd is = true) (hw : match E with | (_, _, (_, cy, _)) => is.map (fun i => ws[i]?) = (wf cy u).map some) (hc : cells = C) (hs : slots = S) : KG E cc own d C S pc lv [] ws cells slots (fun E t => match E with | ((_, _, _, _, s), (_, args, below, _, _), (D, cy, A)) => MQ below (va_Qv (fun _ : Nat → Nat => True) (fun u t => va_P D vwCl (wf cy u) t.heap ∧ va_D A (wf cy u)) A) args s C S A t) := by
  subst hc hs
  obtain ⟨⟨p, l, e, R, s⟩, ⟨m, args, below, meth, c⟩, ⟨D, cy, A⟩⟩ := E
  intro hE H locs la hP hD hS hla
  have hlocks := hE.2.2.2.1
  exact W.vret hE.1 hE.2.1 hE.2.2.1 (fun t ht hW => ⟨⟨u, rfl, trivial, by rw [ht]; exact hP.sub is (fm_of _ _ hw), hD.sub is hnd hw⟩, hS.F ht⟩) hS.2.2 hd hlocks
