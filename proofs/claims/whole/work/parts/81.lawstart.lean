/-! THE LAW: its start -/
theorem lw_mem {w : Cond} (i : Nat) (h : lw_tbl[i]? = some w) : w ∈ lw_tbl := List.mem_of_getElem? h
set_option maxRecDepth 100000 in
theorem st_0 {s : State} {b : Nat} (hts : ∀ w ∈ lw_tbl, w.before #[Value.ref b] s = true) (hgv : (Jvm.Cond.and given_1 narrow_1).before #[Value.ref b] s = true) : ∃ t : Nat, va_Z "MapDrawer" "OPPOSITE" "[I" (.ref t) (fun q => s.heap.size ≤ q) s s.heap ∧ va_T .int t 10 (fun j => .int (Int32.ofInt (([4, 5, 6, 7, 0, 1, 2, 3, 9, 8] : List Int).getD j 0))) (fun q => s.heap.size ≤ q) s s.heap := by
  have hs := flat_of_before _ hgv
  have hA : ∀ a : Nat, a < s.heap.size → ¬ s.heap.size ≤ a := fun a h => Nat.not_le.mpr h
  obtain ⟨t, ht, hT⟩ := va_Tof (args := #[Value.ref b]) (s := s) (tm := .static "MapDrawer" "OPPOSITE" "[I") (ty := .int) (N := 10) (f := fun j => .int (Int32.ofInt (([4, 5, 6, 7, 0, 1, 2, 3, 9, 8] : List Int).getD j 0))) (A := fun q => s.heap.size ≤ q) (by decide) (hs _ (by decide +kernel)) (va_eqt (hs _ (by decide +kernel))) (fun j hj => by
    rcases (show j = 0 ∨ j = 1 ∨ j = 2 ∨ j = 3 ∨ j = 4 ∨ j = 5 ∨ j = 6 ∨ j = 7 ∨ j = 8 ∨ j = 9 by omega) with rfl | rfl | rfl | rfl | rfl | rfl | rfl | rfl | rfl | rfl <;> exact va_eqt (hs _ (by decide +kernel))) hA
  exact ⟨t, va_Zof (hts _ (lw_mem 385 (by decide +kernel))) (hts _ (lw_mem 61 (by decide +kernel))) ht hA, hT⟩
set_option maxRecDepth 100000 in
theorem st_1 {s : State} {b : Nat} (hts : ∀ w ∈ lw_tbl, w.before #[Value.ref b] s = true) (hgv : (Jvm.Cond.and given_1 narrow_1).before #[Value.ref b] s = true) : ∃ t : Nat, va_Z "MapDrawer" "EAST" "[I" (.ref t) (fun q => s.heap.size ≤ q) s s.heap ∧ va_T .int t 10 (fun j => .int (Int32.ofInt (([0, 1, 1, 1, 0, (-1), (-1), (-1), 0, 0] : List Int).getD j 0))) (fun q => s.heap.size ≤ q) s s.heap := by
  have hs := flat_of_before _ hgv
  have hA : ∀ a : Nat, a < s.heap.size → ¬ s.heap.size ≤ a := fun a h => Nat.not_le.mpr h
  obtain ⟨t, ht, hT⟩ := va_Tof (args := #[Value.ref b]) (s := s) (tm := .static "MapDrawer" "EAST" "[I") (ty := .int) (N := 10) (f := fun j => .int (Int32.ofInt (([0, 1, 1, 1, 0, (-1), (-1), (-1), 0, 0] : List Int).getD j 0))) (A := fun q => s.heap.size ≤ q) (by decide) (hs _ (by decide +kernel)) (va_eqt (hs _ (by decide +kernel))) (fun j hj => by
    rcases (show j = 0 ∨ j = 1 ∨ j = 2 ∨ j = 3 ∨ j = 4 ∨ j = 5 ∨ j = 6 ∨ j = 7 ∨ j = 8 ∨ j = 9 by omega) with rfl | rfl | rfl | rfl | rfl | rfl | rfl | rfl | rfl | rfl <;> exact va_eqt (hs _ (by decide +kernel))) hA
  exact ⟨t, va_Zof (hts _ (lw_mem 531 (by decide +kernel))) (hts _ (lw_mem 61 (by decide +kernel))) ht hA, hT⟩
set_option maxRecDepth 100000 in
theorem st_2 {s : State} {b : Nat} (hts : ∀ w ∈ lw_tbl, w.before #[Value.ref b] s = true) (hgv : (Jvm.Cond.and given_1 narrow_1).before #[Value.ref b] s = true) : ∃ t : Nat, va_Z "MapDrawer" "SOUTH" "[I" (.ref t) (fun q => s.heap.size ≤ q) s s.heap ∧ va_T .int t 10 (fun j => .int (Int32.ofInt (([(-1), (-1), 0, 1, 1, 1, 0, (-1), 0, 0] : List Int).getD j 0))) (fun q => s.heap.size ≤ q) s s.heap := by
  have hs := flat_of_before _ hgv
  have hA : ∀ a : Nat, a < s.heap.size → ¬ s.heap.size ≤ a := fun a h => Nat.not_le.mpr h
  obtain ⟨t, ht, hT⟩ := va_Tof (args := #[Value.ref b]) (s := s) (tm := .static "MapDrawer" "SOUTH" "[I") (ty := .int) (N := 10) (f := fun j => .int (Int32.ofInt (([(-1), (-1), 0, 1, 1, 1, 0, (-1), 0, 0] : List Int).getD j 0))) (A := fun q => s.heap.size ≤ q) (by decide) (hs _ (by decide +kernel)) (va_eqt (hs _ (by decide +kernel))) (fun j hj => by
    rcases (show j = 0 ∨ j = 1 ∨ j = 2 ∨ j = 3 ∨ j = 4 ∨ j = 5 ∨ j = 6 ∨ j = 7 ∨ j = 8 ∨ j = 9 by omega) with rfl | rfl | rfl | rfl | rfl | rfl | rfl | rfl | rfl | rfl <;> exact va_eqt (hs _ (by decide +kernel))) hA
  exact ⟨t, va_Zof (hts _ (lw_mem 533 (by decide +kernel))) (hts _ (lw_mem 61 (by decide +kernel))) ht hA, hT⟩
set_option maxRecDepth 100000 in
theorem st_3 {s : State} {b : Nat} (hts : ∀ w ∈ lw_tbl, w.before #[Value.ref b] s = true) (hgv : (Jvm.Cond.and given_1 narrow_1).before #[Value.ref b] s = true) : ∃ t : Nat, va_Z "MapDrawer" "RISE" "[I" (.ref t) (fun q => s.heap.size ≤ q) s s.heap ∧ va_T .int t 10 (fun j => .int (Int32.ofInt (([0, 0, 0, 0, 0, 0, 0, 0, 1, (-1)] : List Int).getD j 0))) (fun q => s.heap.size ≤ q) s s.heap := by
  have hs := flat_of_before _ hgv
  have hA : ∀ a : Nat, a < s.heap.size → ¬ s.heap.size ≤ a := fun a h => Nat.not_le.mpr h
  obtain ⟨t, ht, hT⟩ := va_Tof (args := #[Value.ref b]) (s := s) (tm := .static "MapDrawer" "RISE" "[I") (ty := .int) (N := 10) (f := fun j => .int (Int32.ofInt (([0, 0, 0, 0, 0, 0, 0, 0, 1, (-1)] : List Int).getD j 0))) (A := fun q => s.heap.size ≤ q) (by decide) (hs _ (by decide +kernel)) (va_eqt (hs _ (by decide +kernel))) (fun j hj => by
    rcases (show j = 0 ∨ j = 1 ∨ j = 2 ∨ j = 3 ∨ j = 4 ∨ j = 5 ∨ j = 6 ∨ j = 7 ∨ j = 8 ∨ j = 9 by omega) with rfl | rfl | rfl | rfl | rfl | rfl | rfl | rfl | rfl | rfl <;> exact va_eqt (hs _ (by decide +kernel))) hA
  exact ⟨t, va_Zof (hts _ (lw_mem 535 (by decide +kernel))) (hts _ (lw_mem 61 (by decide +kernel))) ht hA, hT⟩
set_option maxRecDepth 100000 in
theorem st_4 {s : State} {b : Nat} (hts : ∀ w ∈ lw_tbl, w.before #[Value.ref b] s = true) (hgv : (Jvm.Cond.and given_1 narrow_1).before #[Value.ref b] s = true) : ∃ t : Nat, va_Z "MapDrawer$Sheet" "LINE" "[I" (.ref t) (fun q => s.heap.size ≤ q) s s.heap ∧ va_T .int t 8 (fun j => .int (Int32.ofInt (([124, 47, 45, 92, 124, 47, 45, 92] : List Int).getD j 0))) (fun q => s.heap.size ≤ q) s s.heap := by
  have hs := flat_of_before _ hgv
  have hA : ∀ a : Nat, a < s.heap.size → ¬ s.heap.size ≤ a := fun a h => Nat.not_le.mpr h
  obtain ⟨t, ht, hT⟩ := va_Tof (args := #[Value.ref b]) (s := s) (tm := .static "MapDrawer$Sheet" "LINE" "[I") (ty := .int) (N := 8) (f := fun j => .int (Int32.ofInt (([124, 47, 45, 92, 124, 47, 45, 92] : List Int).getD j 0))) (A := fun q => s.heap.size ≤ q) (by decide) (hs _ (by decide +kernel)) (va_eqt (hs _ (by decide +kernel))) (fun j hj => by
    rcases (show j = 0 ∨ j = 1 ∨ j = 2 ∨ j = 3 ∨ j = 4 ∨ j = 5 ∨ j = 6 ∨ j = 7 by omega) with rfl | rfl | rfl | rfl | rfl | rfl | rfl | rfl <;> exact va_eqt (hs _ (by decide +kernel))) hA
  exact ⟨t, va_Zof (hts _ (lw_mem 742 (by decide +kernel))) (hts _ (lw_mem 69 (by decide +kernel))) ht hA, hT⟩
theorem law_stat {s : State} {b : Nat} (hts : ∀ w ∈ lw_tbl, w.before #[Value.ref b] s = true) (hgv : (Jvm.Cond.and given_1 narrow_1).before #[Value.ref b] s = true) : ∃ tb : Nat → Nat, ∀ (k : Nat) (q : String × String × List Int), stS[k]? = some q → va_Z q.1 q.2.1 "[I" (.ref (tb k)) (fun q => s.heap.size ≤ q) s s.heap ∧ va_T .int (tb k) q.2.2.length (fun j => .int (Int32.ofInt (q.2.2.getD j 0))) (fun q => s.heap.size ≤ q) s s.heap := by
  obtain ⟨t0, z0⟩ := st_0 hts hgv
  obtain ⟨t1, z1⟩ := st_1 hts hgv
  obtain ⟨t2, z2⟩ := st_2 hts hgv
  obtain ⟨t3, z3⟩ := st_3 hts hgv
  obtain ⟨t4, z4⟩ := st_4 hts hgv
  refine ⟨fun k => [t0, t1, t2, t3, t4].getD k 0, fun k q hq => ?_⟩
  match k, hq with
  | 0, hq => cases hq; exact z0
  | 1, hq => cases hq; exact z1
  | 2, hq => cases hq; exact z2
  | 3, hq => cases hq; exact z3
  | 4, hq => cases hq; exact z4
  | k + 5, hq => simp [stS] at hq
theorem law_D {s : State} {b : Nat} (hts : ∀ w ∈ gw, w.before #[Value.ref b] s = true) : ∀ c : Nat, ∃ p : ClassId × (Nat → Nat), ∀ q, vwCl[c]? = some q → u_Kn s q.1 q.2.1 q.2.2 p.1 p.2 := by
  intro c
  match c with
  | 0 => obtain ⟨cC, iS, h⟩ := u_known (n := 5) hts wg_X0 (hts (Cond.instantiable RX0 5) (gw_mem 223 (by decide +kernel) (by decide +kernel))); exact ⟨(cC, iS), fun q hq => by cases hq; exact h⟩
  | 1 => obtain ⟨cC, iS, h⟩ := u_known (n := 1) hts wg_X1 (hts (Cond.instantiable RX1 1) (gw_mem 152 (by decide +kernel) (by decide +kernel))); exact ⟨(cC, iS), fun q hq => by cases hq; exact h⟩
  | 2 => obtain ⟨cC, iS, h⟩ := u_known (n := 5) hts wg_X2 (hts (Cond.instantiable RX2 5) (gw_mem 164 (by decide +kernel) (by decide +kernel))); exact ⟨(cC, iS), fun q hq => by cases hq; exact h⟩
  | 3 => obtain ⟨cC, iS, h⟩ := u_known (n := 15) hts wg_X3 (hts (Cond.instantiable RX3 15) (gw_mem 202 (by decide +kernel) (by decide +kernel))); exact ⟨(cC, iS), fun q hq => by cases hq; exact h⟩
  | 4 => obtain ⟨cC, iS, h⟩ := u_known (n := 4) hts wg_X4 (hts (Cond.instantiable RX4 4) (gw_mem 308 (by decide +kernel) (by decide +kernel))); exact ⟨(cC, iS), fun q hq => by cases hq; exact h⟩
  | 5 => obtain ⟨cC, iS, h⟩ := u_known (n := 9) hts wg_X5 (hts (Cond.instantiable RX5 9) (gw_mem 81 (by decide +kernel) (by decide +kernel))); exact ⟨(cC, iS), fun q hq => by cases hq; exact h⟩
  | 6 => obtain ⟨cC, iS, h⟩ := u_known (n := 2) hts wg_X6 (hts (Cond.instantiable RX6 2) (gw_mem 208 (by decide +kernel) (by decide +kernel))); exact ⟨(cC, iS), fun q hq => by cases hq; exact h⟩
  | 7 => obtain ⟨cC, iS, h⟩ := u_known (n := 2) hts wg_X7 (hts (Cond.instantiable RX7 2) (gw_mem 295 (by decide +kernel) (by decide +kernel))); exact ⟨(cC, iS), fun q hq => by cases hq; exact h⟩
  | 8 => obtain ⟨cC, iS, h⟩ := u_known (n := 6) hts wg_X8 (hts (Cond.instantiable RX8 6) (gw_mem 73 (by decide +kernel) (by decide +kernel))); exact ⟨(cC, iS), fun q hq => by cases hq; exact h⟩
  | 9 => obtain ⟨cC, iS, h⟩ := u_known (n := 35) hts wg_X9 (hts (Cond.instantiable RX9 35) (gw_mem 758 (by decide +kernel) (by decide +kernel))); exact ⟨(cC, iS), fun q hq => by cases hq; exact h⟩
  | c + 10 => exact ⟨(0, fun _ => 0), fun q hq => by simp [vwCl] at hq⟩
theorem law_A {s : State} {b : Nat} (hts : ∀ w ∈ gw, w.before #[Value.ref b] s = true) : ∃ cy : Bool → ClassId, ∀ (k : Nat) (q : ClassId × FieldType), (tyW cy)[k]? = some q → ArrOfT s q.1 q.2 ∧ va_RA s q.1 q.2 := by
  obtain ⟨c1, k1, m1, a1, a2, a3⟩ := Cond.arrayClass_spec (hts _ ac_int)
  obtain ⟨c2, k2, m2, b1, b2, b3⟩ := Cond.arrayClass_spec (hts _ ac_bool)
  refine ⟨fun b => if b then c2 else c1, fun k q hq => ?_⟩
  match k, hq with
  | 0, hq => cases hq; exact ⟨fun n z => ⟨fun k h => (by cases h), k1, a2, m1, a3⟩, a1⟩
  | 1, hq => cases hq; exact ⟨fun n z => ⟨fun k h => (by cases h), k2, b2, m2, b3⟩, b1⟩
  | k + 2, hq => simp [tyW] at hq
theorem law_K {s : State} {b : Nat} (hts : ∀ w ∈ gw, w.before #[Value.ref b] s = true) : ∃ (D : va_G) (cy : Bool → ClassId), va_K D vwCl (tyW cy) s := by
  obtain ⟨cy, hA⟩ := law_A hts
  have hD := law_D hts
  refine ⟨(fun c => (Classical.choose (hD c)).1, fun c => (Classical.choose (hD c)).2), cy, fun c q hq => ?_, hA⟩
  exact Classical.choose_spec (hD c) q hq
theorem W_call {p : Program} {l : Launch} {e : Env} {R : Room} {s : State} {m : MethodId} {args : Array Value} {below : List Frame} {meth : Method} {c : Code} {D : va_G} {cy : Bool → ClassId} {A : Nat → Prop} {cc : ByteArray} {own : String} {H : Heap} {locs : List Loc} {la : Array Slot} {ws : va_W} {cells slots pc : Nat} {Z : State → Prop} {st : List Value} {lv : List (Nat × Value)} {y : MethodName} {cc' : ByteArray} {nL' d' h ci idx mc ms : Nat} {as rest : List Value} {fs : List Value} {wf : (Bool → ClassId) → (Nat → Nat) → va_W} (hct : CN y cc' nL' d' h as ci fs wf mc ms) (hx : p.tables.exec = Jvm.exec) (hb : c.code = cc) (hown : s.vm.findClass own = some m.cls) (hts : ∀ w ∈ gw, w.before args s = true) (hK : cK D cy s) (hA : ∀ q, s.heap.size ≤ q → A q) (hP : va_P D vwCl ws H) (hD : va_D A ws) (hS : va_S A s.heap H locs) (hla : lv_has la c.maxLocals lv) (hd : decode cc pc = .ok (.invokespecial idx, 3)) (hl : MLI own idx y cc' nL' as.length) (i : Nat) (isR : List Nat) {wr : va_W} (hC : [i].map (fun i => ws[i]?) = [oB ci h fs].map some) (hR : isR.map (fun i => ws[i]?) = wr.map some) (hn : va_nd isR = true) (hdis : ∀ j ∈ isR, j ∉ [i]) (hst : st = as.reverse ++ .ref h :: rest) (hcat : (rest.map fun v => v.category).sum ≤ 8) (hroom : d' + 1 ≤ R.frames ∧ 8 + (nL' + 11) + 64 * d' ≤ R.locals) (hcl : cells + mc ≤ R.cells) (hsl : slots + ms ≤ R.slots)
    (k : ∀ (u : Nat → Nat) (H1 : Heap) (locs1 : List Loc), va_P D vwCl (wr ++ wf cy u) H1 → va_D A (wr ++ wf cy u) → va_S A s.heap H1 locs1 → W p l e R s m args below meth c H1 locs1 (cells + mc) (slots + ms) Z (F0 m (pc + 3) la rest)) : W p l e R s m args below meth c H locs cells slots Z (F0 m pc la st) := by
  subst hst
  obtain ⟨hl1, hl2, hini, ⟨hy0, hy⟩, hcode, hnl⟩ := hl
  have hFc := va_free (wc := [oB ci h fs]) hD hS hA [i] hC
  have hPc : va_P D vwCl [oB ci h fs] H := hP.sub [i] (fm_of _ _ hC)
  have hDc : va_D A [oB ci h fs] := hD.sub [i] rfl hC
  have hpre : PreS s H (va_Pc (.ref h :: as) (fun U => U.heap.size = H.size ∧ va_P D vwCl [oB ci h fs] U.heap ∧ va_D (fun _ => True) [oB ci h fs] ∧ cK D cy U)) (.ref h :: as) := ⟨fun a U g mk q => by
    obtain ⟨q0, q1, qP, qD, qK⟩ := q
    exact ⟨q0, q1, qP, qD, va_K.moved (u := U) (U := U.calling g mk a) (Vm.Alike.refl U.vm) qK.1, nm_same (s := U) (U := U.calling g mk a) rfl qK.2⟩, fun U hU hW => ⟨rfl, by rw [hU], by rw [hU]; exact hPc, hDc.weaken (fun _ _ _ _ => trivial), hK.moved hW⟩⟩
  have hrun : va_Run p l e R s m args below meth c H locs cells slots mc ms (F0 m pc la (as.reverse ++ .ref h :: rest)) rest (va_Qv (fun _ : Nat → Nat => True) (fun u t => va_P D vwCl (wf cy u) t.heap ∧ va_D (va_A [oB ci h fs] H.size) (wf cy u)) (va_A [oB ci h fs] H.size) (.ref h :: as).toArray) (va_A [oB ci h fs] H.size) := by
    rcases hl1 with hl1 | ⟨host, hl1⟩
    · exact va_runI (As := as) (rest := rest) ⟨hx, hb, rfl, hown, hts⟩ (hct l D cy H.size) (cwI as.length hts (gw_good hcode) rfl rfl rfl (hts _ hini) (hts _ hl1) (hts _ hl2) hy0 hy hroom) hpre rfl rfl hla.1 rfl (lv_room hcat) hd ⟨hcl, hsl⟩
    · exact va_runIN (As := as) (rest := rest) ⟨hx, hb, rfl, hown, hts⟩ (hct l D cy H.size) ⟨va_cnB as.length hts (gw_good hcode) rfl rfl rfl (hK.2 _ hl1) (hts _ hini) hy hroom, hy0, hts _ hl2⟩ hpre rfl rfl hla.1 rfl (lv_room hcat) hd ⟨hcl, hsl⟩
  refine va_callv hrun hS (fun q _ h => hFc q h) hFc (fun u t H1 locs1 ht hvm hw hB hz1 hk1 hS1 => ?_)
  obtain ⟨hP1, hD1⟩ := hB
  rw [ht] at hP1
  obtain ⟨hP2, hD2⟩ := va_join hP hD [i] isR hC hR hn hdis hk1 hFc hP1 hD1
  exact k u H1 locs1 hP2 hD2 hS1
/-- the store at the start -/
def t00 : Sto := fun _ _ => 0
theorem ok_00 : okS t00 := fun _ _ => inR_0
theorem BN_0 {B : Int} (h : 0 ≤ B) : BN B (fun _ => 0) := fun _ => by show -B ≤ 0 ∧ (0 : Int) ≤ B; omega
theorem JI_00 : JI t00 := by
  refine ⟨⟨⟨rfl, rfl, rfl, rfl, rfl, rfl⟩, ⟨rfl, rfl, rfl⟩, ⟨rfl, rfl, rfl, rfl⟩, rfl, rfl, rfl⟩, ⟨⟨⟨?_, ?_, ?_, ?_⟩, ?_⟩, ?_, ?_, ?_, ?_, ?_, ?_, ?_⟩, ?_⟩
  · exact Int.le_refl 0
  · show (0 : Int) ≤ 24; omega
  · exact Int.le_refl 0
  · show (0 : Int) ≤ 60; omega
  · intro l l0 l1
    have : l < 0 := l1
    omega
  · intro l1 l2 r w a0 a1
    have : l1 < 0 := a1
    omega
  · intro l; exact Or.inl rfl
  · intro r; exact Or.inl rfl
  · intro r _; rfl
  · intro r r0 r1
    have : r < 0 := r1
    omega
  · exact ⟨BN_0 (by omega), BN_0 (by omega), BN_0 (by omega)⟩
  · intro r r0 r1
    have : r < 0 := r1
    omega
  · exact ⟨⟨BN_0 (by omega), BN_0 (by omega), BN_0 (by omega)⟩, BN_0 (by omega), BN_0 (by omega), BN_0 (by omega)⟩
abbrev adF (q0 q1 b : Nat) (u w tb : Nat → Nat) : Nat → Nat := fun k => if k = 200 then b else if 100 ≤ k then tb (k - 100) else [q0, u 0, u 8, u 10, u 21, u 15, u 16, u 26, u 27, u 29, u 1, u 2, u 3, u 4, u 5, u 6, u 7, u 9, u 11, u 12, u 13, u 14, u 22, u 23, u 24, u 25, u 19, u 20, u 17, u 18, u 28, q1, w 0, w 1, w 2, w 3, w 4, w 5, w 6, w 7, w 8, w 9, w 10, w 11, w 12, w 13, w 14, w 15, w 16, w 17, w 18, w 19, w 20, w 21, w 22, w 23, w 24].getD k 0
set_option maxRecDepth 1000000 in
set_option maxHeartbeats 4000000 in
theorem world_eq (cy : Bool → ClassId) (q0 q1 b : Nat) (u w tb : Nat → Nat) : [0, 1, 9, 11, 22, 16, 17, 27, 28, 30, 2, 3, 4, 5, 6, 7, 8, 10, 12, 13, 14, 15, 23, 24, 25, 26, 20, 21, 18, 19, 29, 31, 32, 33, 34, 35, 36, 37, 38, 39, 40, 41, 42, 43, 44, 45, 46, 47, 48, 49, 50, 51, 52, 53, 54, 55, 56].map (fun i => (wX8 cy q0 u ++ wX9 cy q1 w)[i]?) = (wd cy (adF q0 q1 b u w tb) t00).map some := by
  rfl
set_option maxRecDepth 100000 in
set_option maxHeartbeats 4000000 in
theorem whole_start {p : Program} {e : Env} {s : State} {m : MethodId} {below : List Frame} {meth : Method} {c : Code} (l : Launch) (hflags : l.flags = flags0) {b L : Nat} {xs : Nat → Int32} (hL : L ≤ 320) (C0 : lw_At p s m meth c b L xs) : W p l e room_1 s m #[Value.ref b] below meth c s.heap [] 0 0 (lw_Z below #[Value.ref b] s) (entryFrame m ([Value.ref b] : List Value).toArray 4) := by
  obtain ⟨hx, hb, hr, hml, hown, hts, hX, hbl, hlocks, hgv⟩ := C0
  have hb : c.code = cL_law := hb
  have hown : s.vm.findClass RL = some m.cls := hown
  have hgw : ∀ w ∈ gw, w.before #[Value.ref b] s = true := fun w hw => hts w (gw_in hw)
  obtain ⟨D, cy, hK⟩ := law_K hgw
  have hNm := nm_of hts
  have hNw := nw_of hts
  obtain ⟨tb, htb⟩ := law_stat hts hgv
  have hA : ∀ q : Nat, s.heap.size ≤ q → (fun q : Nat => s.heap.size ≤ q) q := fun _ h => h
  have hS0 : va_S (fun q : Nat => s.heap.size ≤ q) s.heap s.heap [] := va_S.rf
  have hP0 : va_P D vwCl [] s.heap := fun k q h => by simp at h
  have hD0 : va_D (fun q : Nat => s.heap.size ≤ q) [] := ⟨fun i j p q h => by simp at h, fun k q h => by simp at h⟩
  have hl := lv_entry ([.ref b]) (n := 4) (Nat.le_of_ble_eq_true rfl)
  rw [lg_entry_eq]
  generalize (lg_sl ([.ref b]) ++ List.replicate (4 - (lg_sl ([.ref b])).length) Slot.unset).toArray = ls at hl ⊢
  have hl : lv_has ls 4 [(0, .ref b)] := hl
  obtain ⟨c1, c2, c3, c4, c5, c6⟩ := nk_L_7
  refine va_new (fs := [.null, .null, .null, .null, .null, .null]) hx hb hgw c2 tyX8 c3 hown (hgw _ c4) (hgw _ c5) (hgw _ c6) hK hP0 hD0 hS0 hA c1 (fun j hj => by rcases (show j = 0 ∨ j = 1 ∨ j = 2 ∨ j = 3 ∨ j = 4 ∨ j = 5 by omega) with rfl | rfl | rfl | rfl | rfl | rfl <;> rfl) (Nat.le_of_ble_eq_true rfl) (Nat.le_of_ble_eq_true rfl) dL_law_0 (fun q0 H hP hD hS => ?_)
  have hP : va_P D vwCl [oB 8 q0 [.null, .null, .null, .null, .null, .null]] H := hP
  have hD : va_D (fun q : Nat => s.heap.size ≤ q) [oB 8 q0 [.null, .null, .null, .null, .null, .null]] := hD
  refine lv_dup hx hb dL_law_3 rfl ?_
  refine W_call (R := room_1) (rest := [.ref q0]) (k_X8_init q0) hx hb hown hgw ⟨hK, hNm⟩ hA hP hD hS (by rw [hml]; exact hl) dL_law_4 mI_L_9 0 [] (wr := []) rfl rfl rfl (by decide) rfl (Nat.le_of_ble_eq_true rfl) ⟨Nat.le_of_ble_eq_true rfl, Nat.le_of_ble_eq_true rfl⟩ (Nat.le_of_ble_eq_true rfl) (Nat.le_of_ble_eq_true rfl) (fun u H locs hP hD hS => ?_)
  have hP : va_P D vwCl (wX8 cy q0 u) H := hP
  have hD : va_D (fun q : Nat => s.heap.size ≤ q) (wX8 cy q0 u) := hD
  refine lv_astore_n (lv' := [(1, .ref q0), (0, .ref b)]) hx hb dL_law_7 rfl hl (by decide) rfl (fun ls hl => ?_)
  obtain ⟨c1, c2, c3, c4, c5, c6⟩ := nk_L_10
  refine va_new (fs := [.int 0, .null, .null, .null, .int 0, .null, .null, .null, .null, .null, .null, .null, .null, .int 0, .int 0, .null, .null, .int 0, .null, .null, .null, .null, .null, .int 0, .int 0, .int 0, .int 0, .null, .null, .null, .null, .null, .null, .int 0, .null]) hx hb hgw c2 tyX9 c3 hown (hgw _ c4) (hgw _ c5) (hgw _ c6) hK hP hD hS hA c1 (fun j hj => by rcases (show j = 0 ∨ j = 1 ∨ j = 2 ∨ j = 3 ∨ j = 4 ∨ j = 5 ∨ j = 6 ∨ j = 7 ∨ j = 8 ∨ j = 9 ∨ j = 10 ∨ j = 11 ∨ j = 12 ∨ j = 13 ∨ j = 14 ∨ j = 15 ∨ j = 16 ∨ j = 17 ∨ j = 18 ∨ j = 19 ∨ j = 20 ∨ j = 21 ∨ j = 22 ∨ j = 23 ∨ j = 24 ∨ j = 25 ∨ j = 26 ∨ j = 27 ∨ j = 28 ∨ j = 29 ∨ j = 30 ∨ j = 31 ∨ j = 32 ∨ j = 33 ∨ j = 34 by omega) with rfl | rfl | rfl | rfl | rfl | rfl | rfl | rfl | rfl | rfl | rfl | rfl | rfl | rfl | rfl | rfl | rfl | rfl | rfl | rfl | rfl | rfl | rfl | rfl | rfl | rfl | rfl | rfl | rfl | rfl | rfl | rfl | rfl | rfl | rfl <;> rfl) (Nat.le_of_ble_eq_true rfl) (Nat.le_of_ble_eq_true rfl) dL_law_8 (fun q1 H hP hD hS => ?_)
  refine lv_dup hx hb dL_law_11 rfl ?_
  refine W_call (R := room_1) (rest := [.ref q1]) (k_X9_init q1) hx hb hown hgw ⟨hK, hNm⟩ hA hP hD hS (by rw [hml]; exact hl) dL_law_12 mI_L_12 31 [0, 1, 2, 3, 4, 5, 6, 7, 8, 9, 10, 11, 12, 13, 14, 15, 16, 17, 18, 19, 20, 21, 22, 23, 24, 25, 26, 27, 28, 29, 30] (wr := wX8 cy q0 u) rfl rfl rfl (by decide) rfl (Nat.le_of_ble_eq_true rfl) ⟨Nat.le_of_ble_eq_true rfl, Nat.le_of_ble_eq_true rfl⟩ (Nat.le_of_ble_eq_true rfl) (Nat.le_of_ble_eq_true rfl) (fun w H locs hP hD hS => ?_)
  have hP : va_P D vwCl (wX8 cy q0 u ++ wX9 cy q1 w) H := hP
  have hD : va_D (fun q : Nat => s.heap.size ≤ q) (wX8 cy q0 u ++ wX9 cy q1 w) := hD
  refine lv_astore_n (lv' := [(2, .ref q1), (1, .ref q0), (0, .ref b)]) hx hb dL_law_15 rfl hl (by decide) rfl (fun ls hl => ?_)
  refine lv_iconst (v := 0) hx hb dL_law_16 (by decide) ?_
  refine lv_istore_n (lv' := [(3, .int 0), (2, .ref q1), (1, .ref q0), (0, .ref b)]) hx hb dL_law_17 rfl hl (by decide) rfl (fun ls hl => ?_)
  refine W.widen (k := 600000) (n := 7302250) (Nat.le_of_ble_eq_true rfl) (Nat.le_of_ble_eq_true rfl) ?_
  have hPw : va_P D vwCl (wd cy (adF q0 q1 b u w tb) t00) H := hP.sub _ (fm_of _ _ (world_eq cy q0 q1 b u w tb))
  have hDw : va_D (fun q : Nat => s.heap.size ≤ q) (wd cy (adF q0 q1 b u w tb) t00) := hD.sub _ (by decide) (world_eq cy q0 q1 b u w tb)
  have had : ∀ k, k < NP → s.heap.size ≤ adF q0 q1 b u w tb k := fun k hk => hDw.2 k _ (wd_at hk)
  have hap : apartW (adF q0 q1 b u w tb) := fun i j hi hj e9 => hDw.1 i j _ _ (wd_at hi) (wd_at hj) e9
  have h200 : adF q0 q1 b u w tb 200 = b := rfl
  have hAw : ∀ q, Aw (adF q0 q1 b u w tb) q → s.heap.size ≤ q := fun q ⟨k9, h9, e9⟩ => by rw [e9]; exact had k9 h9
  have hst : stK (adF q0 q1 b u w tb) s s.heap := by
    intro k q hq
    have hk : k < 5 := (List.getElem?_eq_some_iff.mp hq).1
    have e1 : adF q0 q1 b u w tb (100 + k) = tb k := by
      show (if 100 + k = 200 then b else if 100 ≤ 100 + k then tb (100 + k - 100) else _) = tb k
      rw [if_neg (by omega), if_pos (by omega), show 100 + k - 100 = k by omega]
    rw [e1]
    exact ⟨(htb k q hq).1.narrow hAw, (htb k q hq).2.narrow hAw⟩
  have hloop := law_loop (E := ((p, l, e, s), (m, below, meth, c), (D, cy, adF q0 q1 b u w tb), (b, L, xs))) ⟨by show (0 : Int) ≤ (L : Int); omega, by show (L : Int) ≤ 320; omega⟩ L 0 t00 (Int.le_refl 0) (by show (0 : Int) ≤ (L : Int) + 5; omega) (by show (L : Int) - 0 ≤ (L : Int); omega) JI_00
  refine hloop ⟨hx, hb, hr, hlocks, hown, hgw, hap, ⟨hK, hNw, hst⟩, hX, hbl, had, h200, hL⟩ ok_00 (fun v hv => by cases hv) ?_ H locs ls hPw hS ?_
  · intro v hv
    simp only [List.mem_cons, List.not_mem_nil, or_false, Option.some.injEq] at hv
    rcases hv with rfl | rfl | rfl | rfl
    · trivial
    · trivial
    · trivial
    · exact inR_0
  · refine ⟨_, by rw [hml]; exact hl, by rw [hml]; exact Nat.le_refl 4, fun n v hn => ?_⟩
    match n, hn with
    | 0, hn => cases hn; exact List.mem_of_getElem? (i := 3) rfl
    | 1, hn => cases hn; exact List.mem_of_getElem? (i := 2) rfl
    | 2, hn => cases hn; exact List.mem_of_getElem? (i := 1) rfl
    | 3, hn => cases hn; exact List.mem_of_getElem? (i := 0) rfl
    | n + 4, hn => simp at hn

