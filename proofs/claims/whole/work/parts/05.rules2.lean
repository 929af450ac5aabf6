/-! RULES of the heap, of calls and returns -/
section RULES2
variable {E : Ev} {cc : ByteArray} {own : String} {ret : Option FieldType} {d pc : Nat} {ls : List (Option MV)} {st : List MV} {t : Sto} {Q : Option MV → Sto → Prop}
theorem ty_at (cy : Bool → ClassId) (b : Bool) : (tyW cy)[(if b then 1 else 0)]? = some (cy b, if b then .boolean else .int) := by cases b <;> rfl
theorem G_iaload {q n : Nat} {i : Int} (hd : decode cc pc = .ok (.iaload, 1)) (ha : arS q = some (false, n)) (hq : (decide (q < NP)) = true) (hi : 0 ≤ i ∧ i < n) (k : G E cc own ret d (pc + 1) ls (mI (t q i) :: st) t Q) : G E cc own ret d pc ls (mI i :: mP q :: st) t Q := by
  obtain ⟨⟨p, l, e, R, s⟩, ⟨m, args, below, meth, c⟩, ⟨D, cy, ad⟩⟩ := E
  intro hE ht hst hls H locs la hP hS hla
  have hir : inR i := ok_hd hst
  have h := k hE ht (ok_cons (v := mI (t q i)) (ht q i) (ok_tl (ok_tl hst))) hls H locs la hP hS hla
  refine va_iald hE.1 hE.2.1 hE.2.2.2.2.2.2.2.1.1 hP q 0 (wd_arr ha (of_decide_eq_true hq)) rfl (io_in hir hi.1 hi.2) hd ?_
  rw [io_nat hir, Int.toNat_of_nonneg hi.1]
  exact h
theorem G_baload {q n : Nat} {i : Int} (hd : decode cc pc = .ok (.baload, 1)) (ha : arS q = some (true, n)) (hq : (decide (q < NP)) = true) (hi : 0 ≤ i ∧ i < n) (k : G E cc own ret d (pc + 1) ls (mI (t q i) :: st) t Q) : G E cc own ret d pc ls (mI i :: mP q :: st) t Q := by
  obtain ⟨⟨p, l, e, R, s⟩, ⟨m, args, below, meth, c⟩, ⟨D, cy, ad⟩⟩ := E
  intro hE ht hst hls H locs la hP hS hla
  have hir : inR i := ok_hd hst
  have h := k hE ht (ok_cons (v := mI (t q i)) (ht q i) (ok_tl (ok_tl hst))) hls H locs la hP hS hla
  refine va_zald hE.1 hE.2.1 hE.2.2.2.2.2.2.2.1.1 hP q 1 (wd_arr ha (of_decide_eq_true hq)) rfl (io_in hir hi.1 hi.2) hd ?_
  rw [io_nat hir, Int.toNat_of_nonneg hi.1]
  exact h
theorem G_iastore {q n : Nat} {i x : Int} (hd : decode cc pc = .ok (.iastore, 1)) (ha : arS q = some (false, n)) (hq : (decide (q < NP)) = true) (hi : 0 ≤ i ∧ i < n) (k : G E cc own ret d (pc + 1) ls st (su t q i x) Q) : G E cc own ret d pc ls (mI x :: mI i :: mP q :: st) t Q := by
  obtain ⟨⟨p, l, e, R, s⟩, ⟨m, args, below, meth, c⟩, ⟨D, cy, ad⟩⟩ := E
  intro hE ht hst hls H locs la hP hS hla
  have hxr : inR x := ok_hd hst
  have hir : inR i := ok_hd (ok_tl hst)
  refine va_iast hE.1 hE.2.1 hE.2.2.2.2.2.2.2.1.1 hP (wd_D hE.2.2.2.2.2.2.1) hS q 0 (wd_arr ha (of_decide_eq_true hq)) rfl (io_in hir hi.1 hi.2) hd (fun H1 locs1 hP1 _ hS1 => ?_)
  rw [io_nat hir, wd_set_arr ha (of_decide_eq_true hq) hi.1] at hP1
  exact k hE (okS_su ht hxr) (ok_tl (ok_tl (ok_tl hst))) hls H1 locs1 la hP1 hS1 hla
theorem io_nar {x : Int} (h : x = 0 ∨ x = 1) : vp_nar .boolean (Int32.ofInt x) = Int32.ofInt x := by
  rcases h with rfl | rfl <;> rfl
theorem G_bastore {q n : Nat} {i x : Int} (hd : decode cc pc = .ok (.bastore, 1)) (ha : arS q = some (true, n)) (hq : (decide (q < NP)) = true) (hi : 0 ≤ i ∧ i < n) (hx : x = 0 ∨ x = 1) (k : G E cc own ret d (pc + 1) ls st (su t q i x) Q) : G E cc own ret d pc ls (mI x :: mI i :: mP q :: st) t Q := by
  obtain ⟨⟨p, l, e, R, s⟩, ⟨m, args, below, meth, c⟩, ⟨D, cy, ad⟩⟩ := E
  intro hE ht hst hls H locs la hP hS hla
  have hxr : inR x := ok_hd hst
  have hir : inR i := ok_hd (ok_tl hst)
  refine va_zast hE.1 hE.2.1 hE.2.2.2.2.2.2.2.1.1 hP (wd_D hE.2.2.2.2.2.2.1) hS q 1 (wd_arr ha (of_decide_eq_true hq)) rfl (io_in hir hi.1 hi.2) hd (fun H1 locs1 hP1 _ hS1 => ?_)
  rw [io_nar hx, io_nat hir, wd_set_arr ha (of_decide_eq_true hq) hi.1] at hP1
  exact k hE (okS_su ht hxr) (ok_tl (ok_tl (ok_tl hst))) hls H1 locs1 la hP1 hS1 hla
theorem G_alen {q n : Nat} {b : Bool} (hd : decode cc pc = .ok (.arraylength, 1)) (ha : arS q = some (b, n)) (hq : (decide (q < NP)) = true) (hn : -2147483648 ≤ (n : Int) ∧ (n : Int) ≤ 2147483647) (k : G E cc own ret d (pc + 1) ls (mI (n : Int) :: st) t Q) : G E cc own ret d pc ls (mP q :: st) t Q := by
  obtain ⟨⟨p, l, e, R, s⟩, ⟨m, args, below, meth, c⟩, ⟨D, cy, ad⟩⟩ := E
  intro hE ht hst hls H locs la hP hS hla
  have h := k hE ht (ok_cons (v := mI (n : Int)) hn (ok_tl hst)) hls H locs la hP hS hla
  exact va_alen hE.1 hE.2.1 hE.2.2.2.2.2.2.2.1.1 hP q (if b then 1 else 0) (wd_arr ha (of_decide_eq_true hq)) (ty_at cy b) (v := Int32.ofInt (n : Int)) (by rw [Int32.ofInt_eq_ofNat]) hd h
/-- a field that an instruction of class own names by idx: the f-th of class ci -/
def FLk (own : String) (idx ci f : Nat) : Prop := ∃ (C : String) (T : u_T) (N : Nat) (ty : Nat → FieldType), vwCl[ci]? = some (C, T, N) ∧ f < N ∧ (∀ w ∈ u_ws C T N, w ∈ gw) ∧ (∀ k, k < N → parseFieldDescriptor (T k).2.2.1 = some (ty k)) ∧ (∀ a, a < N → ∀ b, b < N → a ≠ b → (T a).2.1 ≠ (T b).2.1) ∧ (T f).1 = C ∧
  (Cond.fieldLink own idx C (T f).2.1 (T f).2.2.1 ∈ gw ∨ ∃ host, Cond.fieldLinkNest own idx C (T f).2.1 (T f).2.2.1 host ∈ nwF)
/-- and it may be written: not final, an int or a boolean -/
def FLw (ci f : Nat) (b : Bool) : Prop := ∃ (C : String) (T : u_T) (N : Nat), vwCl[ci]? = some (C, T, N) ∧ (T f).2.2.2 = false ∧ parseFieldDescriptor (T f).2.2.1 = some (if b then .boolean else .int)
theorem G_get {q idx f : Nat} {v : MV} {fe : Nat ⊕ Nat} (hd : decode cc pc = .ok (.getfield idx, 3)) (hl : FLk own idx (ocS q) f) (hq : (decide (q < NP)) = true) (ha : arS q = none) (hf : (fkS q)[f]? = some fe) (hv : ∀ ad, fvS ad t fe = mval ad v) (hok : okS t → okV v) (k : G E cc own ret d (pc + 3) ls (v :: st) t Q) : G E cc own ret d pc ls (mP q :: st) t Q := by
  obtain ⟨⟨p, l, e, R, s⟩, ⟨m, args, below, meth, c⟩, ⟨D, cy, ad⟩⟩ := E
  intro hE ht hst hls H locs la hP hS hla
  obtain ⟨C, T, N, ty, hc, hfN, hws, hty, hnm, hTC, hlk⟩ := hl
  have h := k hE ht (ok_cons (hok ht) (ok_tl hst)) hls H locs la hP hS hla
  have hfs : ((fkS q).map (fvS ad t))[f]? = some (mval ad v) := by rw [List.getElem?_map, hf, Option.map_some, hv ad]
  rcases hlk with hlk | ⟨host, hlk⟩
  · exact va_get (ref := C) hE.1 hE.2.1 hE.2.2.2.2.2.1 hws hE.2.2.2.2.1 hE.2.2.2.2.2.2.2.1.1 hP q (wd_obj ha (of_decide_eq_true hq)) hc f hfN (hE.2.2.2.2.2.1 _ hlk) (by rw [hTC]; exact fun _ h9 => h9) hfs hd h
  · exact va_getN (ref := C) (host := host) hE.1 hE.2.1 hE.2.2.2.2.2.1 hws hE.2.2.2.2.1 hE.2.2.2.2.2.2.2.1.1 hP q (wd_obj ha (of_decide_eq_true hq)) hc f hfN (va_Nw.use rfl (hE.2.2.2.2.2.2.2.1.2.1 _ hlk)) (by rw [hTC]; exact fun _ h9 => h9) hfs hd h
/-- an int field is read -/
theorem G_getI {q idx f v : Nat} (hd : decode cc pc = .ok (.getfield idx, 3)) (hl : FLk own idx (ocS q) f) (hq : (decide (q < NP)) = true) (ha : arS q = none) (hf : (fkS q)[f]? = some (Sum.inl v)) (k : G E cc own ret d (pc + 3) ls (mI (t v 0) :: st) t Q) : G E cc own ret d pc ls (mP q :: st) t Q :=
  G_get (v := mI (t v 0)) hd hl hq ha hf (fun _ => rfl) (fun ht => ht v 0) k
/-- a reference field is read -/
theorem G_getP {q idx f r : Nat} (hd : decode cc pc = .ok (.getfield idx, 3)) (hl : FLk own idx (ocS q) f) (hq : (decide (q < NP)) = true) (ha : arS q = none) (hf : (fkS q)[f]? = some (Sum.inr r)) (k : G E cc own ret d (pc + 3) ls (mP r :: st) t Q) : G E cc own ret d pc ls (mP q :: st) t Q :=
  G_get (v := mP r) hd hl hq ha hf (fun _ => rfl) (fun _ => trivial) k
theorem fit_i {x : Int32} : fits .int (.int x) = true := rfl
theorem G_put {q idx f v : Nat} {x : Int} {b : Bool} (hd : decode cc pc = .ok (.putfield idx, 3)) (hl : FLk own idx (ocS q) f) (hw : FLw (ocS q) f b) (hq : (decide (q < NP)) = true) (ha : arS q = none) (hf : (fkS q)[f]? = some (Sum.inl v)) (hx : b = true → x = 0 ∨ x = 1) (k : G E cc own ret d (pc + 3) ls st (su t v 0 x) Q) : G E cc own ret d pc ls (mI x :: mP q :: st) t Q := by
  obtain ⟨⟨p, l, e, R, s⟩, ⟨m, args, below, meth, c⟩, ⟨D, cy, ad⟩⟩ := E
  intro hE ht hst hls H locs la hP hS hla
  obtain ⟨C, T, N, ty, hc, hfN, hws, hty, hnm, hTC, hlk⟩ := hl
  obtain ⟨C2, T2, N2, hc2, hfin, hpd⟩ := hw
  cases hc.symm.trans hc2
  have hxr : inR x := ok_hd hst
  have hlen : f < ((fkS q).map (fvS ad t)).length := by rw [List.length_map]; exact (List.getElem?_eq_some_iff.mp hf).1
  have hnar : narrow (if b then .boolean else .int) (.int (Int32.ofInt x)) = .int (Int32.ofInt x) := by
    cases b with
    | false => rfl
    | true => rcases hx rfl with rfl | rfl <;> rfl
  have hfit : fits (if b then .boolean else .int) (.int (Int32.ofInt x)) = true := by
    cases b with
    | false => rfl
    | true => rcases hx rfl with rfl | rfl <;> rfl
  have hend : ∀ (H1 : Heap) (locs1 : List Loc), va_P D vwCl ((wd cy ad t).set q (ad q, .inr (ocS q, ((fkS q).map (fvS ad t)).set f (.int (Int32.ofInt x))))) H1 → va_D (Aw ad) ((wd cy ad t).set q (ad q, .inr (ocS q, ((fkS q).map (fvS ad t)).set f (.int (Int32.ofInt x))))) → va_S (Aw ad) s.heap H1 locs1 → W p l e R s m args below meth c H1 locs1 0 0 (MQ below (Qx D cy ad Q) args s 0 0 (Aw ad)) (F0 m (pc + 3) la (st.map (mval ad))) := by
    intro H1 locs1 hP1 _ hS1
    rw [wd_set_fld ha (of_decide_eq_true hq) hf] at hP1
    exact k hE (okS_su ht hxr) (ok_tl (ok_tl hst)) hls H1 locs1 la hP1 hS1 hla
  rcases hlk with hlk | ⟨host, hlk⟩
  · exact va_put (ref := C) hE.1 hE.2.1 hE.2.2.2.2.2.1 hws ty hty hnm hE.2.2.2.2.1 hE.2.2.2.2.2.2.2.1.1 hP (wd_D hE.2.2.2.2.2.2.1) hS q (wd_obj ha (of_decide_eq_true hq)) hc f hfN (hE.2.2.2.2.2.1 _ hlk) (by rw [hTC]; exact fun _ h9 => h9) hfin hpd hnar hfit hlen hd hend
  · exact va_putN (ref := C) (host := host) hE.1 hE.2.1 hE.2.2.2.2.2.1 hws ty hty hnm hE.2.2.2.2.1 hE.2.2.2.2.2.2.2.1.1 hP (wd_D hE.2.2.2.2.2.2.1) hS q (wd_obj ha (of_decide_eq_true hq)) hc f hfN (va_Nw.use rfl (hE.2.2.2.2.2.2.2.1.2.1 _ hlk)) (by rw [hTC]; exact fun _ h9 => h9) hfin hpd hnar hfit hlen hd hend
/-- a static row's name: the k-th -/
def STk (own : String) (idx k : Nat) : Prop := ∃ q, stS[k]? = some q ∧ (Cond.fieldLink own idx q.1 q.2.1 "[I" ∈ gw ∨ ∃ host, Cond.fieldLinkNest own idx q.1 q.2.1 "[I" host ∈ nwF)
theorem G_ireturn {x : Int} (hd : decode cc pc = .ok (.ireturn, 1)) (k : Q (some (mI x)) t) : G E cc own (some .int) d pc ls [mI x] t Q := by
  obtain ⟨⟨p, l, e, R, s⟩, ⟨m, args, below, meth, c⟩, ⟨D, cy, ad⟩⟩ := E
  intro hE ht hst hls H locs la hP hS hla
  have hlocks := hE.2.2.2.1
  exact W.iret hE.1 hE.2.1 hE.2.2.1 (fun tt htt _ => ⟨⟨some (mI x), t, rfl, fun v hv => by cases hv; exact ok_hd hst, k, by rw [htt]; exact hP, ht⟩, hS.F htt⟩) hS.2.2 hd hlocks
theorem G_zreturn {x : Int} (hd : decode cc pc = .ok (.ireturn, 1)) (hx : x = 0 ∨ x = 1) (k : Q (some (mI x)) t) : G E cc own (some .boolean) d pc ls [mI x] t Q := by
  obtain ⟨⟨p, l, e, R, s⟩, ⟨m, args, below, meth, c⟩, ⟨D, cy, ad⟩⟩ := E
  intro hE ht hst hls H locs la hP hS hla
  have hlocks := hE.2.2.2.1
  have hn : narrow .boolean (.int (Int32.ofInt x)) = .int (Int32.ofInt x) := by rcases hx with rfl | rfl <;> rfl
  exact W.zret hE.1 hE.2.1 hE.2.2.1 hn (fun tt htt _ => ⟨⟨some (mI x), t, rfl, fun v hv => by cases hv; exact ok_hd hst, k, by rw [htt]; exact hP, ht⟩, hS.F htt⟩) hS.2.2 hd hlocks
theorem G_return (hd : decode cc pc = .ok (.return_, 1)) (k : Q none t) : G E cc own none d pc ls [] t Q := by
  obtain ⟨⟨p, l, e, R, s⟩, ⟨m, args, below, meth, c⟩, ⟨D, cy, ad⟩⟩ := E
  intro hE ht hst hls H locs la hP hS hla
  have hlocks := hE.2.2.2.1
  exact W.vret hE.1 hE.2.1 hE.2.2.1 (fun tt htt _ => ⟨⟨none, t, rfl, (fun v hv => by cases hv), k, by rw [htt]; exact hP, ht⟩, hS.F htt⟩) hS.2.2 hd hlocks
/-- a store or a claim that is weaker -/
theorem G_mono {Q' : Option MV → Sto → Prop} (h : ∀ r t', Q r t' → Q' r t') (k : G E cc own ret d pc ls st t Q) : G E cc own ret d pc ls st t Q' := by
  obtain ⟨⟨p, l, e, R, s⟩, ⟨m, args, below, meth, c⟩, ⟨D, cy, ad⟩⟩ := E
  intro hE ht hst hls H locs la hP hS hla T hT X
  obtain ⟨tt, a1, o, b1, b2, b3, b4⟩ := k hE ht hst hls H locs la hP hS hla T hT X
  refine ⟨tt, a1, o, b1, b2, ?_, b4⟩
  obtain ⟨⟨r, t', e1, e2, e3, e4⟩, e5⟩ := b3
  exact ⟨⟨r, t', e1, e2, h r t' e3, e4⟩, e5⟩
end RULES2
