/-! THE CLAIM OUT OF ONE WALK OF THE LAW'S BODY. Your part is whole_start (and what it stands on); all else here is the same for every law, but numbers. -/
def R_law : String := "MapDrawerLaw"
def lw_P (b : Addr) (xs : List Int32) (args : Array Value) (s : State) : Prop := args = #[.ref b] ∧ s.IntsAt b xs ∧ xs.length ≤ 320 ∧ (Jvm.Cond.and given_1 narrow_1).before args s = true
def lw_Q (_ : Array Value) (s : State) (o : Outcome) (t : State) : Prop := o = .returned (some (.int 1)) ∧ Framed s o t [] 600000 7302250
def lw_Z (below : List Frame) (a : Array Value) (s : State) : State → Prop := fun t => ∃ o, t.status = .running ∧ Ended t below o ∧ lw_Q a s o t
/-- the law's own end, with 1 on the stack, nothing written that was there before, its room as the claim has it -/
theorem lw_ret {p : Program} {l : Launch} {e : Env} {s : State} {m : MethodId} {below : List Frame} {meth : Method} {c : Code} {b : Nat} (hx : p.tables.exec = Jvm.exec) (hb : c.code = code) (hr : meth.sig.returnType = ret) (hlocks : meth.locks = false) {pc : Nat} {H : Heap} {ls : Array Slot} (hdg : decode code pc = .ok (.ireturn, 1)) : W p l e room_1 s m #[Value.ref b] below meth c H [] 600000 7302250 (lw_Z below #[Value.ref b] s) (F0 m pc ls [.int 1]) := by
  intro T hT X
  obtain ⟨fs, hret, hrun, hended, hW, hframe⟩ := X.leave (v := some (.int 1)) (hlocks := hlocks) (fun h => by rw [hr] at h; cases h)
  have hmeth' : T.vm.method? m = some meth := X.method'
  refine ⟨T.setFrames fs, ?_, .returned (some (.int 1)), hrun, hended, rfl, ⟨_, rfl⟩, hW, hframe⟩
  jvm_step X.here [X.here.top, hx, hb, hdg, hmeth', hr, ret, narrow_b1]
  (try refine ⟨rfl, ?_⟩); (try refine ⟨rfl, ?_⟩)
  first | (intro acts; rw [hret _ acts rfl rfl rfl]) | rw [hret _ _ rfl rfl rfl]
  exact Steps.refl _
/-- what holds at the law's entry: the machine, the code, the tables' words (any of lw_tbl by 'hts w (by decide +kernel)'), the script of L ints xs at the cell b, what the Statement gives of the start (any of its parts by flat_of_before) -/
def lw_At (p : Program) (s : State) (m : MethodId) (meth : Method) (c : Code) (b L : Nat) (xs : Nat → Int32) : Prop :=
  p.tables.exec = Jvm.exec ∧ c.code = code ∧ meth.sig.returnType = ret ∧ c.maxLocals = 4 ∧ s.vm.findClass R_law = some m.cls ∧ (∀ w ∈ lw_tbl, w.before #[Value.ref b] s = true) ∧ va_X b L xs s s.heap ∧ b < s.heap.size ∧ meth.locks = false ∧ (Jvm.Cond.and given_1 narrow_1).before #[Value.ref b] s = true
/-! THE LAW: the judgement of its loop, and its rules -/
abbrev Le : Type := (Program × Launch × Env × State) × (MethodId × List Frame × Method × Code) × (va_G × (Bool → ClassId) × (Nat → Nat)) × (Nat × Nat × (Nat → Int32))
def LOK (E : Le) : Prop := match E with
  | ((p, _, _, s), (m, _, meth, c), (D, cy, ad), (b, L, xs)) => p.tables.exec = Jvm.exec ∧ c.code = cL_law ∧ meth.sig.returnType = ret ∧ meth.locks = false ∧ s.vm.findClass RL = some m.cls ∧ (∀ w ∈ gw, w.before #[Value.ref b] s = true) ∧ apartW ad ∧ cxK D cy ad s s.heap ∧ va_X b L xs s s.heap ∧ b < s.heap.size ∧ (∀ k, k < NP → s.heap.size ≤ ad k) ∧ ad 200 = b ∧ L ≤ 320
def GL (E : Le) (pc : Nat) (ls : List (Option MV)) (st : List MV) (t : Sto) : Prop := match E with
  | ((p, l, e, s), (m, below, meth, c), (D, cy, ad), (b, L, xs)) => LOK ((p, l, e, s), (m, below, meth, c), (D, cy, ad), (b, L, xs)) → okS t → (∀ v ∈ st, okV v) → (∀ v, some v ∈ ls → okV v) →
    ∀ (H : Heap) (locs : List Loc) (la : Array Slot), va_P D vwCl (wd cy ad t) H → va_S (fun q => s.heap.size ≤ q) s.heap H locs → lok la c.maxLocals ad ls →
      W p l e room_1 s m #[Value.ref b] below meth c H locs 600000 7302250 (lw_Z below #[Value.ref b] s) (F0 m pc la (st.map (mval ad)))
def scI (E : Le) (i : Int) : Int := match E with
  | (_, _, _, (_, _, xs)) => (xs i.toNat).toInt
def lnI (E : Le) : Int := match E with
  | (_, _, _, (_, L, _)) => (L : Int)
section LAW
variable {E : Le} {pc : Nat} {ls : List (Option MV)} {st : List MV} {t : Sto}
theorem GL_iconst {n : Int} (hd : decode cL_law pc = .ok (.iconst n, 1)) (hn : -2147483648 ≤ n ∧ n ≤ 2147483647) (k : GL E (pc + 1) ls (mI n :: st) t) : GL E pc ls st t := by
  obtain ⟨⟨p, l, e, s⟩, ⟨m, below, meth, c⟩, ⟨D, cy, ad⟩, ⟨b, L, xs⟩⟩ := E
  intro hE ht hst hls H locs la hP hS hla
  exact lv_iconst hE.1 hE.2.1 hd rfl (k hE ht (ok_cons hn hst) hls H locs la hP hS hla)
theorem GL_bipush {n x : Int} (hd : decode cL_law pc = .ok (.bipush n, 2)) (hx : (Int8.ofInt n).toInt32 = Int32.ofInt x) (hn : -2147483648 ≤ x ∧ x ≤ 2147483647) (k : GL E (pc + 2) ls (mI x :: st) t) : GL E pc ls st t := by
  obtain ⟨⟨p, l, e, s⟩, ⟨m, below, meth, c⟩, ⟨D, cy, ad⟩, ⟨b, L, xs⟩⟩ := E
  intro hE ht hst hls H locs la hP hS hla
  exact lv_bipush hE.1 hE.2.1 hd hx (k hE ht (ok_cons hn hst) hls H locs la hP hS hla)
theorem GL_iload_n {n : Fin 4} {x : Int} (hd : decode cL_law pc = .ok (.iload_n n, 1)) (hl : ls[(n : Nat)]? = some (some (mI x))) (k : GL E (pc + 1) ls (mI x :: st) t) : GL E pc ls st t := by
  obtain ⟨⟨p, l, e, s⟩, ⟨m, below, meth, c⟩, ⟨D, cy, ad⟩, ⟨b, L, xs⟩⟩ := E
  intro hE ht hst hls H locs la hP hS hla
  exact lv_iload_n hE.1 hE.2.1 hd rfl (hla.get hl) (k hE ht (ok_cons (ok_at hls hl) hst) hls H locs la hP hS hla)
theorem GL_aload_n {n : Fin 4} {x : Nat} (hd : decode cL_law pc = .ok (.aload_n n, 1)) (hl : ls[(n : Nat)]? = some (some (mP x))) (k : GL E (pc + 1) ls (mP x :: st) t) : GL E pc ls st t := by
  obtain ⟨⟨p, l, e, s⟩, ⟨m, below, meth, c⟩, ⟨D, cy, ad⟩, ⟨b, L, xs⟩⟩ := E
  intro hE ht hst hls H locs la hP hS hla
  exact lv_aload_n hE.1 hE.2.1 hd rfl (hla.get hl) (k hE ht (ok_cons (ok_at hls hl) hst) hls H locs la hP hS hla)
theorem GL_iinc {n : Nat} {x a : Int} (hd : decode cL_law pc = .ok (.iinc n a, 3)) (hl : ls[n]? = some (some (mI x))) (hb : (n == 0 || notLong ls[n-1]?) = true) (hr : -2147483648 ≤ x + a ∧ x + a ≤ 2147483647) (k : GL E (pc + 3) (ls.set n (some (mI (x + a)))) st t) : GL E pc ls st t := by
  obtain ⟨⟨p, l, e, s⟩, ⟨m, below, meth, c⟩, ⟨D, cy, ad⟩, ⟨b, L, xs⟩⟩ := E
  intro hE ht hst hls H locs la hP hS hla
  obtain ⟨lv, h1, h2, h3⟩ := id hla
  obtain ⟨kk, hkk⟩ := List.getElem?_of_mem (h3 n _ hl)
  have hi : n < ls.length := (List.getElem?_eq_some_iff.mp hl).1
  exact lv_iinc (v := Int32.ofInt (x + a)) hE.1 hE.2.1 hd h1 hkk (by rw [Int32.ofInt_add]) (Nat.lt_of_lt_of_le hi h2) rfl (fun la' h' => k hE ht hst (ok_set hls hr) H locs la' hP hS (hla.put (mI (x + a)) hi rfl hb h1 h3 h'))
theorem GL_iadd {a b : Int} (hd : decode cL_law pc = .ok (.iadd, 1)) (hr : -2147483648 ≤ a + b ∧ a + b ≤ 2147483647) (k : GL E (pc + 1) ls (mI (a + b) :: st) t) : GL E pc ls (mI b :: mI a :: st) t := by
  obtain ⟨⟨p, l, e, s⟩, ⟨m, below, meth, c⟩, ⟨D, cy, ad⟩, ⟨b', L, xs⟩⟩ := E
  intro hE ht hst hls H locs la hP hS hla
  have h := k hE ht (ok_cons hr (ok_tl (ok_tl hst))) hls H locs la hP hS hla
  simp only [List.map_cons, mval, Int32.ofInt_add] at h
  exact lv_iadd hE.1 hE.2.1 hd h
theorem GL_isub {a b : Int} (hd : decode cL_law pc = .ok (.isub, 1)) (hr : -2147483648 ≤ a - b ∧ a - b ≤ 2147483647) (k : GL E (pc + 1) ls (mI (a - b) :: st) t) : GL E pc ls (mI b :: mI a :: st) t := by
  obtain ⟨⟨p, l, e, s⟩, ⟨m, below, meth, c⟩, ⟨D, cy, ad⟩, ⟨b', L, xs⟩⟩ := E
  intro hE ht hst hls H locs la hP hS hla
  have h := k hE ht (ok_cons hr (ok_tl (ok_tl hst))) hls H locs la hP hS hla
  simp only [List.map_cons, mval, Int32.ofInt_sub] at h
  exact lv_isub hE.1 hE.2.1 hd h
theorem GL_iand {a b : Int} (hd : decode cL_law pc = .ok (.iand, 1)) (k : GL E (pc + 1) ls (mI (Int32.ofInt a &&& Int32.ofInt b).toInt :: st) t) : GL E pc ls (mI b :: mI a :: st) t := by
  obtain ⟨⟨p, l, e, s⟩, ⟨m, below, meth, c⟩, ⟨D, cy, ad⟩, ⟨b', L, xs⟩⟩ := E
  intro hE ht hst hls H locs la hP hS hla
  have h := k hE ht (ok_cons (v := mI _) (inR_toInt _) (ok_tl (ok_tl hst))) hls H locs la hP hS hla
  simp only [List.map_cons, mval, Int32.ofInt_toInt] at h
  exact lv_iand hE.1 hE.2.1 hd h
theorem GL_goto {off : Int} {tgt : Nat} (hd : decode cL_law pc = .ok (.goto off, 3)) (htg : (pc : Int) + off = (tgt : Int)) (k : GL E tgt ls st t) : GL E pc ls st t := by
  obtain ⟨⟨p, l, e, s⟩, ⟨m, below, meth, c⟩, ⟨D, cy, ad⟩, ⟨b, L, xs⟩⟩ := E
  intro hE ht hst hls H locs la hP hS hla
  exact lv_goto hE.1 hE.2.1 hd htg (k hE ht hst hls H locs la hP hS hla)
theorem GL_icmp_eq {a b : Int} {off : Int} {tgt : Nat} (hd : decode cL_law pc = .ok (.if_icmp .eq off, 3)) (htg : (pc : Int) + off = (tgt : Int)) (kt : a = b → GL E tgt ls st t) (kf : ¬ (a = b) → GL E (pc + 3) ls st t) : GL E pc ls (mI b :: mI a :: st) t := by
  obtain ⟨⟨p, l, e, s⟩, ⟨m, below, meth, c⟩, ⟨D, cy, ad⟩, ⟨b', L, xs⟩⟩ := E
  intro hE ht hst hls H locs la hP hS hla
  have ha : inR a := ok_hd (ok_tl hst)
  have hb : inR b := ok_hd hst
  exact lv_icmp_eq hE.1 hE.2.1 hd htg (fun h => kt ((io_eq ha hb).mp h) hE ht (ok_tl (ok_tl hst)) hls H locs la hP hS hla) (fun h => kf (fun q => h ((io_eq ha hb).mpr q)) hE ht (ok_tl (ok_tl hst)) hls H locs la hP hS hla)
theorem GL_icmp_gt {a b : Int} {off : Int} {tgt : Nat} (hd : decode cL_law pc = .ok (.if_icmp .gt off, 3)) (htg : (pc : Int) + off = (tgt : Int)) (kt : b < a → GL E tgt ls st t) (kf : ¬ (b < a) → GL E (pc + 3) ls st t) : GL E pc ls (mI b :: mI a :: st) t := by
  obtain ⟨⟨p, l, e, s⟩, ⟨m, below, meth, c⟩, ⟨D, cy, ad⟩, ⟨b', L, xs⟩⟩ := E
  intro hE ht hst hls H locs la hP hS hla
  have ha : inR a := ok_hd (ok_tl hst)
  have hb : inR b := ok_hd hst
  exact lv_icmp_gt hE.1 hE.2.1 hd htg (fun h => kt ((io_lt hb ha).mp h) hE ht (ok_tl (ok_tl hst)) hls H locs la hP hS hla) (fun h => kf (fun q => h ((io_lt hb ha).mpr q)) hE ht (ok_tl (ok_tl hst)) hls H locs la hP hS hla)
theorem GL_if_eq {a : Int} {off : Int} {tgt : Nat} (hd : decode cL_law pc = .ok (.ifCond .eq off, 3)) (htg : (pc : Int) + off = (tgt : Int)) (kt : a = 0 → GL E tgt ls st t) (kf : ¬ (a = 0) → GL E (pc + 3) ls st t) : GL E pc ls (mI a :: st) t := by
  obtain ⟨⟨p, l, e, s⟩, ⟨m, below, meth, c⟩, ⟨D, cy, ad⟩, ⟨b', L, xs⟩⟩ := E
  intro hE ht hst hls H locs la hP hS hla
  have ha : inR a := ok_hd hst
  exact lv_if_eq hE.1 hE.2.1 hd htg (fun h => kt ((io_eq ha inR_0).mp h) hE ht (ok_tl hst) hls H locs la hP hS hla) (fun h => kf (fun q => h ((io_eq ha inR_0).mpr q)) hE ht (ok_tl hst) hls H locs la hP hS hla)
theorem GL_tableAt {dflt lo hi x off : Int} {offs : Array Int} {len tgt : Nat} (hd : decode cL_law pc = .ok (.tableswitch dflt lo hi offs, len)) (h1 : lo ≤ x ∧ x ≤ hi) (ho : offs[(x - lo).toNat]? = some off) (htg : (pc : Int) + off = (tgt : Int)) (k : GL E tgt ls st t) : GL E pc ls (mI x :: st) t := by
  obtain ⟨⟨p, l, e, s⟩, ⟨m, below, meth, c⟩, ⟨D, cy, ad⟩, ⟨b', L, xs⟩⟩ := E
  intro hE ht hst hls H locs la hP hS hla
  have hx : inR x := ok_hd hst
  exact lv_tableIn hE.1 hE.2.1 hd (by rw [io_toInt hx]; omega) (by rw [io_toInt hx]; omega) (by rw [io_toInt hx]; exact ho) htg (k hE ht (ok_tl hst) hls H locs la hP hS hla)
theorem GL_tableOut {dflt lo hi x : Int} {offs : Array Int} {len tgt : Nat} (hd : decode cL_law pc = .ok (.tableswitch dflt lo hi offs, len)) (h1 : x < lo ∨ hi < x) (htg : (pc : Int) + dflt = (tgt : Int)) (k : GL E tgt ls st t) : GL E pc ls (mI x :: st) t := by
  obtain ⟨⟨p, l, e, s⟩, ⟨m, below, meth, c⟩, ⟨D, cy, ad⟩, ⟨b', L, xs⟩⟩ := E
  intro hE ht hst hls H locs la hP hS hla
  have hx : inR x := ok_hd hst
  exact lv_tableOut hE.1 hE.2.1 hd (by rw [io_toInt hx]; exact h1) htg (k hE ht (ok_tl hst) hls H locs la hP hS hla)
/-- an int of the script -/
theorem GL_sld {i : Int} (hd : decode cL_law pc = .ok (.iaload, 1)) (hi : 0 ≤ i ∧ i < lnI E) (k : GL E (pc + 1) ls (mI (scI E i) :: st) t) : GL E pc ls (mI i :: mP 200 :: st) t := by
  obtain ⟨⟨p, l, e, s⟩, ⟨m, below, meth, c⟩, ⟨D, cy, ad⟩, ⟨b, L, xs⟩⟩ := E
  intro hE ht hst hls H locs la hP hS hla
  obtain ⟨hx, hb, hr, hlk, hown, hts, hap, hK, hX, hbl, had, h200, hL⟩ := id hE
  have hir : inR i := ok_hd hst
  have h := k hE ht (ok_cons (v := mI _) (inR_toInt _) (ok_tl (ok_tl hst))) hls H locs la hP hS hla
  have hi2 : i < (L : Int) := hi.2
  simp only [List.map_cons, mval, scI, Int32.ofInt_toInt] at h
  simp only [List.map_cons, mval, h200]
  refine va_sld hx hb hX hbl (Nat.not_le.mpr hbl) hS (io_in hir hi.1 hi2) hd ?_
  rw [io_nat hir]
  exact h
theorem GL_slen (hd : decode cL_law pc = .ok (.arraylength, 1)) (k : GL E (pc + 1) ls (mI (lnI E) :: st) t) : GL E pc ls (mP 200 :: st) t := by
  obtain ⟨⟨p, l, e, s⟩, ⟨m, below, meth, c⟩, ⟨D, cy, ad⟩, ⟨b, L, xs⟩⟩ := E
  intro hE ht hst hls H locs la hP hS hla
  obtain ⟨hx, hb, hr, hlk, hown, hts, hap, hK, hX, hbl, had, h200, hL⟩ := id hE
  have h := k hE ht (ok_cons (v := mI (L : Int)) ⟨by omega, by omega⟩ (ok_tl hst)) hls H locs la hP hS hla
  simp only [List.map_cons, mval, lnI] at h
  simp only [List.map_cons, mval, h200]
  refine va_slen hx hb hX hbl (Nat.not_le.mpr hbl) hS hd ?_
  rw [Int32.ofInt_eq_ofNat] at h
  exact h
theorem GL_true (hd : decode cL_law pc = .ok (.ireturn, 1)) : GL E pc ls [mI 1] t := by
  obtain ⟨⟨p, l, e, s⟩, ⟨m, below, meth, c⟩, ⟨D, cy, ad⟩, ⟨b, L, xs⟩⟩ := E
  intro hE ht hst hls H locs la hP hS hla
  refine va_forget (fun q hq => hS.2.2 q hq) ?_
  exact lw_ret hE.1 hE.2.1 hE.2.2.1 hE.2.2.2.1 hd
/-- a call of one of the two -/
theorem GL_callV {y : MethodName} {cc' : ByteArray} {nL' : Nat} {ret' : Option FieldType} {d' idx q : Nat} {as rest : List MV} {Qc : Option MV → Sto → Prop} (hct : CT y cc' nL' ret' d' (mP q :: as) t Qc) (hd : decode cL_law pc = .ok (.invokevirtual idx, 3)) (hl : MLV RL idx y (ocS q) cc' nL' ret' as.length) (hq : (decide (q < NP)) = true) (ha : arS q = none) (hst : st = as.reverse ++ mP q :: rest) (hdep : d' ≤ 40) (hcat : (rest.map catS).sum ≤ 8)
    (k : ∀ r t', Qc r t' → GL E (pc + 3) ls (r.toList ++ rest) t') : GL E pc ls st t := by
  subst hst
  obtain ⟨⟨p, l, e, s⟩, ⟨m, below, meth, c⟩, ⟨D, cy, ad⟩, ⟨b, L, xs⟩⟩ := E
  intro hE ht hst hls H locs la hP hS hla
  obtain ⟨hx, hb, hr, hlk, hown, hts, hap, hK, hX, hbl, had, h200, hL⟩ := id hE
  obtain ⟨hl1, hl2, ⟨C, T, N, hc, hsel, hini, hy⟩, hcode, hnl⟩ := hl
  obtain ⟨has, hrest0⟩ := ok_app hst
  have has : ∀ v ∈ mP q :: as, okV v := ok_cons trivial (fun v hv => has v (List.mem_reverse.mpr hv))
  have hrest : ∀ v ∈ rest, okV v := ok_tl hrest0
  have hGI : GoodIn gw (wsV RL idx C y (Cond.code y cc' nL' ret' :: gw)) := by
    intro w hw
    have hg := gw_good hcode
    rcases List.mem_append.mp hw with h | h
    · have hm : w ∈ gw := by
        simp only [List.mem_cons, List.not_mem_nil, or_false] at h
        rcases h with rfl | rfl | rfl | rfl
        · exact hl1
        · exact hl2
        · exact hsel
        · exact hini
      exact ⟨hm, good_of_word (List.mem_filter.mp hm).2⟩
    · exact hg w h
  have hpc : ∀ U : State, U.heap = H → s.WarmedH U.vm → va_Pc ((mP q :: as).map (mval ad)) (fun U => va_P D vwCl (wd cy ad t) U.heap ∧ okS t ∧ (∀ v ∈ mP q :: as, okV v) ∧ apartW ad ∧ cxK D cy ad U U.heap) ((mP q :: as).map (mval ad)).toArray U := by
    intro U hU hW
    refine ⟨rfl, by rw [hU]; exact hP, ht, has, hap, va_K.moved hW.alike hK.1, nw_warm hW hK.2.1, ?_⟩
    rw [hU]
    exact (hK.2.2.kept (fun a h1 _ => hS.2.1 a h1 (Nat.not_le.mpr h1))).moved hW.alike
  have hrun := va_runV (As := as.map (mval ad)) (rest := rest.map (mval ad)) (g := F0 m pc la ((as.reverse ++ mP q :: rest).map (mval ad))) (e := e) (below := below) (meth := meth) (locs := locs) (cells := 600000) (slots := 7302250) (R := room_1) ⟨hx, hb, rfl, hown, hts⟩ (hct l D cy ad)
    (cwV as.length hts hGI rfl rfl rfl hy ⟨by show d' + 1 ≤ 2048; omega, by show 8 + (nL' + 11) + 64 * d' ≤ 84000; omega⟩)
    ⟨pc_blind, va_recv hK.1 hP hc (wd_obj ha (of_decide_eq_true hq)), hpc⟩ rfl (by simp) hla.size (by rw [map_rev]; rfl) (lv_room (by rw [cat_sum]; exact hcat)) hd ⟨Nat.le_refl _, Nat.le_refl _⟩
  intro T hT X
  obtain ⟨v, st₀, t1, T', Lc, h0, X', hLc, e1, e2, ⟨⟨r, t', hv, hok, hqq, hP1, ht1⟩, hz, hk⟩, stp⟩ := hrun T hT X
  cases hv
  rw [h0] at hz hk
  have hAw : ∀ q, Aw ad q → s.heap.size ≤ q := fun q ⟨k9, h9, e9⟩ => by rw [e9]; exact had k9 h9
  have hS1 : va_S (fun q => s.heap.size ≤ q) s.heap T'.heap (locs ++ Lc) := ⟨Nat.le_trans hS.1 (by rw [e1]; exact hz), fun q h1 h2 => by
      rw [e1, hk q (Nat.lt_of_lt_of_le h1 hS.1) (fun z => h2 (hAw q z))]; exact hS.2.1 q h1 h2, fun q hq => by
      rcases List.mem_append.mp hq with h | h
      · exact hS.2.2 q h
      · exact hAw _ (hLc q h)⟩
  have hkk := k r t' hqq hE ht1 (fun v hv => by
    rcases List.mem_append.mp hv with h | h
    · exact hok v (by simpa using h)
    · exact hrest v h) hls T'.heap (locs ++ Lc) la (by rw [e1]; exact hP1) hS1 hla
  have hkk2 : W p l e room_1 s m #[Value.ref b] below meth c T'.heap (locs ++ Lc) 600000 7302250 (lw_Z below #[Value.ref b] s) (F0 m (pc + 3) la ((r.map (mval ad)).toList ++ rest.map (mval ad))) := by
    cases r <;> exact hkk
  obtain ⟨t2, a1, b1⟩ := hkk2 T' rfl X'
  exact ⟨t2, stp t2 a1, b1⟩
end LAW
