/-! RULES of statics, of calls, of longs and switches; a contract out of a walk -/
section RULES3
variable {E : Ev} {cc : ByteArray} {own : String} {ret : Option FieldType} {d pc : Nat} {ls : List (Option MV)} {st : List MV} {t : Sto} {Q : Option MV → Sto → Prop}
theorem G_getstatic {idx k : Nat} (hd : decode cc pc = .ok (.getstatic idx, 3)) (hl : STk own idx k) (kk : G E cc own ret d (pc + 3) ls (mP (100 + k) :: st) t Q) : G E cc own ret d pc ls st t Q := by
  obtain ⟨⟨p, l, e, R, s⟩, ⟨m, args, below, meth, c⟩, ⟨D, cy, ad⟩⟩ := E
  intro hE ht hst hls H locs la hP hS hla
  obtain ⟨q, hq, hlk⟩ := hl
  have h := kk hE ht (ok_cons (v := mP (100 + k)) trivial hst) hls H locs la hP hS hla
  have hZ := (hE.2.2.2.2.2.2.2.1.2.2 k q hq).1
  rcases hlk with hlk | ⟨host, hlk⟩
  · exact va_gets (ref := q.1) hE.1 hE.2.1 hZ hS hE.2.2.2.2.1 (hE.2.2.2.2.2.1 _ hlk) (fun _ h9 => h9) hd h
  · exact va_getsN (ref := q.1) (host := host) hE.1 hE.2.1 hZ hS hE.2.2.2.2.1 (va_Nw.use rfl (hE.2.2.2.2.2.2.2.1.2.1 _ hlk)) (fun _ h9 => h9) hd h
theorem G_sload {k : Nat} {i : Int} {xs : List Int} (hd : decode cc pc = .ok (.iaload, 1)) (hk : (stS[k]?).map (fun q => q.2.2) = some xs) (hr : xs.all (fun x => decide (-2147483648 ≤ x ∧ x ≤ 2147483647)) = true) (hi : 0 ≤ i ∧ i < xs.length) (kk : G E cc own ret d (pc + 1) ls (mI (xs.getD i.toNat 0) :: st) t Q) : G E cc own ret d pc ls (mI i :: mP (100 + k) :: st) t Q := by
  obtain ⟨⟨p, l, e, R, s⟩, ⟨m, args, below, meth, c⟩, ⟨D, cy, ad⟩⟩ := E
  intro hE ht hst hls H locs la hP hS hla
  have hir : inR i := ok_hd hst
  have hxr : inR (xs.getD i.toNat 0) := by
    have hlt : i.toNat < xs.length := by omega
    rw [List.getD_eq_getElem?_getD, List.getElem?_eq_getElem hlt]
    have h1 := List.all_eq_true.mp hr _ (List.getElem_mem hlt)
    simp only [decide_eq_true_eq] at h1
    exact h1
  obtain ⟨q, hq, he⟩ := Option.map_eq_some_iff.mp hk
  have hT := (hE.2.2.2.2.2.2.2.1.2.2 k q hq).2
  rw [he] at hT
  have h := kk hE ht (ok_cons (v := mI (xs.getD i.toNat 0)) hxr (ok_tl (ok_tl hst))) hls H locs la hP hS hla
  exact va_ti hE.1 hE.2.1 hT hS (io_in hir hi.1 hi.2) (by rw [io_nat hir]; rfl) hd h
/-- the contract's start holds of the caller's state -/
theorem pc_blind {D : va_G} {cy : Bool → ClassId} {ad : Nat → Nat} {as : List MV} : FrameBlind (va_Pc (as.map (mval ad)) (fun U => va_P D vwCl (wd cy ad t) U.heap ∧ okS t ∧ (∀ v ∈ as, okV v) ∧ apartW ad ∧ cxK D cy ad U U.heap)) := by
  intro a U g mk q
  obtain ⟨q0, qP, q1, q2, q3, qK, qN, qT⟩ := q
  exact ⟨q0, qP, q1, q2, q3, va_K.moved (u := U) (U := U.calling g mk a) (Vm.Alike.refl U.vm) qK, nw_same (s := U) (U := U.calling g mk a) rfl qN, stK.moved (u := U) (U := U.calling g mk a) (Vm.Alike.refl U.vm) qT⟩
theorem pc_at {s U : State} {H : Heap} {locs : List Loc} {D : va_G} {cy : Bool → ClassId} {ad : Nat → Nat} {as : List MV} (hP : va_P D vwCl (wd cy ad t) H) (ht : okS t) (has : ∀ v ∈ as, okV v) (hap : apartW ad) (hK : cxK D cy ad s s.heap) (hS : va_S (Aw ad) s.heap H locs) (hU : U.heap = H) (hW : s.WarmedH U.vm) :
    va_Pc (as.map (mval ad)) (fun U => va_P D vwCl (wd cy ad t) U.heap ∧ okS t ∧ (∀ v ∈ as, okV v) ∧ apartW ad ∧ cxK D cy ad U U.heap) (as.map (mval ad)).toArray U := by
  refine ⟨rfl, by rw [hU]; exact hP, ht, has, hap, va_K.moved hW.alike hK.1, nw_warm hW hK.2.1, ?_⟩
  rw [hU]
  exact (hK.2.2.kept hS.2.1).moved hW.alike
theorem G_ret {p : Program} {l : Launch} {e : Env} {R : Room} {s : State} {m : MethodId} {args : Array Value} {below : List Frame} {meth : Method} {c : Code} {D : va_G} {cy : Bool → ClassId} {ad : Nat → Nat} {H : Heap} {locs : List Loc} {g : JFrame} {rest : List Value} {a : Array Value} {Qc : Option MV → Sto → Prop} {Z : State → Prop}
    (hr : va_Run p l e R s m args below meth c H locs 0 0 0 0 g rest (Qx D cy ad Qc a) (Aw ad)) (hS : va_S (Aw ad) s.heap H locs)
    (kk : ∀ (r : Option MV) (t' : Sto) (H1 : Heap) (locs1 : List Loc), (∀ v, r = some v → okV v) → Qc r t' → va_P D vwCl (wd cy ad t') H1 → okS t' → va_S (Aw ad) s.heap H1 locs1 → W p l e R s m args below meth c H1 locs1 0 0 Z { g with pc := g.pc + 3, stack := (r.map (mval ad)).toList ++ rest }) : W p l e R s m args below meth c H locs 0 0 Z g := by
  intro T hT X
  obtain ⟨v, st₀, t1, T', L, h0, X', hL, e1, e2, ⟨⟨r, t', hv, hok, hq, hP, ht⟩, hz, hk⟩, stp⟩ := hr T hT X
  cases hv
  rw [h0] at hz hk
  obtain ⟨t2, a1, b1⟩ := kk r t' T'.heap (locs ++ L) hok hq (by rw [e1]; exact hP) ht
    ⟨Nat.le_trans hS.1 (by rw [e1]; exact hz), fun q h1 h2 => by rw [e1, hk q (Nat.lt_of_lt_of_le h1 hS.1) h2]; exact hS.2.1 q h1 h2, fun q hq => by
      rcases List.mem_append.mp hq with h | h
      · exact hS.2.2 q h
      · exact hL q h⟩ T' rfl X'
  exact ⟨t2, stp t2 a1, b1⟩
/-- an instance method that an instruction of own names by idx -/
def MLV (own : String) (idx : Nat) (y : MethodName) (ci : Nat) (cc : ByteArray) (nL : Nat) (ret : Option FieldType) (n : Nat) : Prop := Cond.methodLink own idx y ∈ gw ∧ Cond.instanceMethod y ∈ gw ∧ (∃ C T N, vwCl[ci]? = some (C, T, N) ∧ Cond.selects C y y ∈ gw ∧ Cond.initialized C ∈ gw ∧ (y.cls = C ∧ y.cls ≠ "java/lang/invoke/MethodHandle" ∧ y.cls ≠ "java/lang/invoke/VarHandle" ∧ (parseMethodDescriptor y.desc).map (fun d => d.parameters.length) = some n)) ∧ Cond.code y cc nL ret ∈ gw ∧ nL ≤ 45
def MLS (own : String) (idx : Nat) (y : MethodName) (cc : ByteArray) (nL : Nat) (ret : Option FieldType) (n : Nat) : Prop := Cond.methodLink own idx y ∈ gw ∧ Cond.static y ∈ gw ∧ Cond.initialized y.cls ∈ gw ∧ (y.cls ≠ "java/lang/invoke/MethodHandle" ∧ y.cls ≠ "java/lang/invoke/VarHandle" ∧ (parseMethodDescriptor y.desc).map (fun d => d.parameters.length) = some n) ∧ Cond.code y cc nL ret ∈ gw ∧ nL ≤ 45
theorem map_rev {ad : Nat → Nat} {as rest : List MV} : (as.reverse ++ rest).map (mval ad) = (as.map (mval ad)).reverse ++ rest.map (mval ad) := by simp
def catS (v : MV) : Nat := match v with
  | Sum.inr (Sum.inr _) => 2
  | _ => 1
theorem cat_sum {ad : Nat → Nat} (rest : List MV) : ((rest.map (mval ad)).map fun v => v.category).sum = (rest.map catS).sum := by
  induction rest with
  | nil => rfl
  | cons v r ih =>
    simp only [List.map_cons, List.sum_cons, ih]
    rcases v with x | q | x <;> rfl
theorem lok.size {la : Array Slot} {nL : Nat} {ad : Nat → Nat} (h : lok la nL ad ls) : la.size = nL := by
  obtain ⟨lv, h1, -⟩ := h
  exact h1.1
theorem ok_app {a b : List MV} (h : ∀ v ∈ a ++ b, okV v) : (∀ v ∈ a, okV v) ∧ ∀ v ∈ b, okV v := ⟨fun v hv => h v (List.mem_append_left _ hv), fun v hv => h v (List.mem_append_right _ hv)⟩
theorem G_callV {y : MethodName} {cc' : ByteArray} {nL' : Nat} {ret' : Option FieldType} {d' idx q : Nat} {as rest : List MV} {Qc : Option MV → Sto → Prop} (hct : CT y cc' nL' ret' d' (mP q :: as) t Qc) (hd : decode cc pc = .ok (.invokevirtual idx, 3)) (hl : MLV own idx y (ocS q) cc' nL' ret' as.length) (hq : (decide (q < NP)) = true) (ha : arS q = none) (hst : st = as.reverse ++ mP q :: rest) (hdep : d' + 1 ≤ d) (hcat : (rest.map catS).sum ≤ 8)
    (k : ∀ r t', Qc r t' → G E cc own ret d (pc + 3) ls (r.toList ++ rest) t' Q) : G E cc own ret d pc ls st t Q := by
  subst hst
  obtain ⟨⟨p, l, e, R, s⟩, ⟨m, args, below, meth, c⟩, ⟨D, cy, ad⟩⟩ := E
  intro hE ht hst hls H locs la hP hS hla
  obtain ⟨hx, hb, hret, hlk, hown, hts, hap, hK, hfr, hlo⟩ := id hE
  obtain ⟨hl1, hl2, ⟨C, T, N, hc, hsel, hini, hy⟩, hcode, hnl⟩ := hl
  obtain ⟨has, hrest0⟩ := ok_app hst
  have has : ∀ v ∈ mP q :: as, okV v := ok_cons trivial (fun v hv => has v (List.mem_reverse.mpr hv))
  have hrest : ∀ v ∈ rest, okV v := ok_tl hrest0
  have hGI : GoodIn gw (wsV own idx C y (Cond.code y cc' nL' ret' :: gw)) := by
    intro w hw
    have hg := gw_good hcode
    rcases List.mem_append.mp hw with h | h
    · have hm : w ∈ gw := by
        simp only [List.mem_cons, List.not_mem_nil, or_false] at h
        rcases h with rfl | rfl | rfl | rfl
        · exact hl1
        · exact hl2
        · exact hsel
        · exact hini
      exact ⟨hm, good_of_word (List.mem_filter.mp hm).2⟩
    · exact hg w h
  have hrun := va_runV (As := as.map (mval ad)) (rest := rest.map (mval ad)) (g := F0 m pc la ((as.reverse ++ mP q :: rest).map (mval ad))) (e := e) (below := below) (meth := meth) (locs := locs) (cells := 0) (slots := 0) ⟨hx, hb, rfl, hown, hts⟩ (hct l D cy ad)
    (cwV as.length hts hGI rfl rfl rfl hy ⟨Nat.le_trans hdep hfr, by show 8 + (nL' + 11) + 64 * d' ≤ R.locals; omega⟩)
    ⟨pc_blind, va_recv hK.1 hP hc (wd_obj ha (of_decide_eq_true hq)), fun U hU hW => pc_at hP ht has hap hK hS hU hW⟩ rfl (by simp) hla.size (by rw [map_rev]; rfl) (lv_room (by rw [cat_sum]; exact hcat)) hd ⟨Nat.zero_le _, Nat.zero_le _⟩
  refine G_ret hrun hS (fun r t' H1 locs1 hok hQ hP1 ht1 hS1 => ?_)
  have h := k r t' hQ hE ht1 (fun v hv => by
    rcases List.mem_append.mp hv with h | h
    · exact hok v (by simpa using h)
    · exact hrest v h) hls H1 locs1 la hP1 hS1 hla
  cases r <;> exact h
theorem G_callS {y : MethodName} {cc' : ByteArray} {nL' : Nat} {ret' : Option FieldType} {d' idx : Nat} {as rest : List MV} {Qc : Option MV → Sto → Prop} (hct : CT y cc' nL' ret' d' as t Qc) (hd : decode cc pc = .ok (.invokestatic idx, 3)) (hl : MLS own idx y cc' nL' ret' as.length) (hst : st = as.reverse ++ rest) (hdep : d' + 1 ≤ d) (hcat : (rest.map catS).sum ≤ 8)
    (k : ∀ r t', Qc r t' → G E cc own ret d (pc + 3) ls (r.toList ++ rest) t' Q) : G E cc own ret d pc ls st t Q := by
  subst hst
  obtain ⟨⟨p, l, e, R, s⟩, ⟨m, args, below, meth, c⟩, ⟨D, cy, ad⟩⟩ := E
  intro hE ht hst hls H locs la hP hS hla
  obtain ⟨hx, hb, hret, hlk, hown, hts, hap, hK, hfr, hlo⟩ := id hE
  obtain ⟨hl1, hl2, hini, hy, hcode, hnl⟩ := hl
  obtain ⟨has, hrest⟩ := ok_app hst
  have has : ∀ v ∈ as, okV v := fun v hv => has v (List.mem_reverse.mpr hv)
  have hGI : GoodIn gw (va_wsS own idx y (Cond.code y cc' nL' ret' :: gw)) := by
    intro w hw
    have hg := gw_good hcode
    rcases List.mem_append.mp hw with h | h
    · have hm : w ∈ gw := by
        simp only [List.mem_cons, List.not_mem_nil, or_false] at h
        rcases h with rfl | rfl | rfl
        · exact hl1
        · exact hl2
        · exact hini
      exact ⟨hm, good_of_word (List.mem_filter.mp hm).2⟩
    · exact hg w h
  have hrun := va_runS (As := as.map (mval ad)) (rest := rest.map (mval ad)) (g := F0 m pc la ((as.reverse ++ rest).map (mval ad))) (e := e) (below := below) (meth := meth) (locs := locs) (cells := 0) (slots := 0) ⟨hx, hb, rfl, hown, hts⟩ (hct l D cy ad)
    (va_cwS as.length hts hGI rfl rfl rfl hy ⟨Nat.le_trans hdep hfr, by show 8 + (nL' + 11) + 64 * d' ≤ R.locals; omega⟩)
    ⟨pc_blind, fun U hU hW => pc_at hP ht has hap hK hS hU hW⟩ rfl (by simp) hla.size (by rw [map_rev]) (lv_room (by rw [cat_sum]; exact hcat)) hd ⟨Nat.zero_le _, Nat.zero_le _⟩
  refine G_ret hrun hS (fun r t' H1 locs1 hok hQ hP1 ht1 hS1 => ?_)
  have h := k r t' hQ hE ht1 (fun v hv => by
    rcases List.mem_append.mp hv with h | h
    · exact hok v (by simpa using h)
    · exact hrest v h) hls H1 locs1 la hP1 hS1 hla
  cases r <;> exact h
/-- a contract out of a walk from the entry -/
theorem lv_args_get (ad : Nat → Nat) (as : List MV) (hl : ∀ v ∈ as, notLong (some (some v)) = true) : ∀ (k n : Nat) (v : MV), as[n]? = some v → (k + n, mval ad v) ∈ lv_args k (as.map (mval ad)) := by
  induction as with
  | nil => intro k n v h; simp at h
  | cons a as ih =>
    intro k n v h
    have hc : ¬ (mval ad a).category = 2 := by rw [mval_cat (hl a List.mem_cons_self)]; decide
    show _ ∈ (k, mval ad a) :: lv_args (if (mval ad a).category = 2 then k + 2 else k + 1) (as.map (mval ad))
    rw [if_neg hc]
    cases n with
    | zero =>
      have : a = v := by simpa using h
      rw [this]
      exact List.mem_cons_self
    | succ n =>
      refine List.mem_cons_of_mem _ ?_
      have := ih (fun v hv => hl v (List.mem_cons_of_mem _ hv)) (k + 1) n v (by simpa using h)
      rwa [show k + (n + 1) = k + 1 + n by omega]
theorem sl_len (ad : Nat → Nat) (as : List MV) (hl : ∀ v ∈ as, notLong (some (some v)) = true) : (lg_sl (as.map (mval ad))).length = as.length := by
  induction as with
  | nil => rfl
  | cons a as ih =>
    have hc : ¬ (mval ad a).category = 2 := by rw [mval_cat (hl a List.mem_cons_self)]; decide
    have := ih (fun v hv => hl v (List.mem_cons_of_mem _ hv))
    simp only [lg_sl, List.map_cons, List.flatMap_cons, if_neg hc] at this ⊢
    simp [this]
theorem CT_of {y : MethodName} {cc : ByteArray} {nL : Nat} {ret : Option FieldType} {d : Nat} {as : List MV} {t : Sto} {Q : Option MV → Sto → Prop} (hy : plainName y.cls = true) (hl : as.all (fun v => notLong (some (some v))) = true) (hn : as.length ≤ nL)
    (k : ∀ E : Ev, okS t → (∀ v ∈ as, okV v) → G E cc y.cls ret d 0 (as.map some ++ List.replicate (nL - as.length) none) [] t Q) : CT y cc nL ret d as t Q := by
  intro l D cy ad
  refine Met.ofW (cc := cc) (maxL := nL) (ret := ret) hy rfl ?_
  intro p e s m args below meth c s₁ B hml hv
  obtain ⟨rfl, hP, ht, has, hap, hK⟩ := hv
  have hl' : ∀ v ∈ as, notLong (some (some v)) = true := fun v hv => List.all_eq_true.mp hl v hv
  have hts := atoms_spec (ws := Cond.code y cc nL ret :: gw) B.pre
  have hown : s.vm.findClass y.cls = some m.cls := findClass_of_methodNamed B.named
  have hl := lv_entry (as.map (mval ad)) (n := nL) (by rw [sl_len ad as hl']; exact hn)
  rw [lg_entry_eq]
  have h := k ((p, l, e, (headSpec (Cond.code y cc nL ret :: gw) { frames := d, cells := 0, slots := 0, locals := 64 * d }).room, s), (m, (as.map (mval ad)).toArray, below, meth, c), (D, cy, ad)) ht has
    ⟨B.exec, B.bytes, B.returns, B.notSynchronized, hown, fun w hw => hts w (List.mem_cons_of_mem _ hw), hap, hK, Nat.le_refl _, Nat.le_refl _⟩ ht (fun v hv => by cases hv) (fun v hv => by
      rcases List.mem_append.mp hv with h | h
      · exact has v (by simpa using h)
      · have := List.eq_of_mem_replicate h
        cases this) s.heap [] _ hP va_S.rf ⟨_, by rw [hml]; exact hl, by rw [hml]; simp; omega, fun n v hn2 => ?_⟩
  · exact h
  · have hn3 : as[n]? = some v := by
      by_cases hlt : n < as.length
      · rw [List.getElem?_append_left (by simpa using hlt), List.getElem?_map] at hn2
        cases hq : as[n]? with
        | none => rw [hq] at hn2; cases hn2
        | some w => rw [hq] at hn2; simpa using hn2
      · rw [List.getElem?_append_right (by simpa using hlt)] at hn2
        have := List.eq_of_mem_replicate (List.mem_of_getElem? hn2)
        cases this
    have := lv_args_get ad as hl' 0 n v hn3
    rwa [Nat.zero_add] at this
end RULES3
