/-! THE JUDGEMENT G and its rules, an instruction a rule -/
def gw : List Cond := lw_tbl.filter goodWord
theorem gw_mem {w : Cond} (i : Nat) (h : lw_tbl[i]? = some w) (hg : goodWord w = true) : w ∈ gw := List.mem_filter.mpr ⟨List.mem_of_getElem? h, hg⟩
theorem gw_in {w : Cond} (h : w ∈ gw) : w ∈ lw_tbl := (List.mem_filter.mp h).1
theorem gw_good {y : MethodName} {cc : ByteArray} {nL : Nat} {ret : Option FieldType} (hm : Cond.code y cc nL ret ∈ gw) : GoodIn gw (Cond.code y cc nL ret :: gw) := by
  intro w hw
  have h : w ∈ gw := by
    rcases List.mem_cons.mp hw with e | e
    · rw [e]; exact hm
    · exact e
  exact ⟨h, good_of_word (List.mem_filter.mp h).2⟩
def isNest (w : Cond) : Bool := match w with
  | .fieldLinkNest _ _ _ _ _ _ => true
  | _ => false
def nwF : List Cond := lw_tbl.filter isNest
theorem nw_mem {w : Cond} (i : Nat) (h : lw_tbl[i]? = some w) (hg : isNest w = true) : w ∈ nwF := List.mem_filter.mpr ⟨List.mem_of_getElem? h, hg⟩
theorem nw_warm {s U : State} (hW : s.WarmedH U.vm) (h : ∀ w ∈ nwF, va_Nw w s) : ∀ w ∈ nwF, va_Nw w U := by
  intro w hw
  have h1 := h w hw
  have h2 := (List.mem_filter.mp hw).2
  cases w <;> first | exact va_Nw.warmF hW h1 | (simp [isNest] at h2)
theorem nw_same {s U : State} (hv : s.vm = U.vm) (h : ∀ w ∈ nwF, va_Nw w s) : ∀ w ∈ nwF, va_Nw w U := by
  intro w hw
  have h1 := h w hw
  have h2 := (List.mem_filter.mp hw).2
  cases w <;> first | exact va_Nw.same rfl hv h1 | (simp [isNest] at h2)
def stK (ad : Nat → Nat) (U : State) (H : Heap) : Prop := ∀ (k : Nat) (q : String × String × List Int), stS[k]? = some q → va_Z q.1 q.2.1 "[I" (.ref (ad (100 + k))) (Aw ad) U H ∧ va_T .int (ad (100 + k)) q.2.2.length (fun j => .int (Int32.ofInt (q.2.2.getD j 0))) (Aw ad) U H
theorem stK.moved {ad : Nat → Nat} {u U : State} {H : Heap} (hvm : u.vm.Alike U.vm) (h : stK ad u H) : stK ad U H := fun k q hq => ⟨(h k q hq).1.moved hvm, (h k q hq).2.moved hvm⟩
theorem stK.kept {ad : Nat → Nat} {U : State} {H H1 : Heap} (h : stK ad U H) (hq : ∀ a : Nat, a < H.size → ¬ Aw ad a → H1[a]? = H[a]?) : stK ad U H1 := fun k q hk => ⟨(h k q hk).1.kept hq, (h k q hk).2.kept hq⟩
abbrev tyW (cy : Bool → ClassId) : List (ClassId × FieldType) := [(cy false, .int), (cy true, .boolean)]
def cxK (D : va_G) (cy : Bool → ClassId) (ad : Nat → Nat) (U : State) (H : Heap) : Prop := va_K D vwCl (tyW cy) U ∧ (∀ w ∈ nwF, va_Nw w U) ∧ stK ad U H
/-- what stands behind a method: an answer, a store -/
def Qx (D : va_G) (cy : Bool → ClassId) (ad : Nat → Nat) (Q : Option MV → Sto → Prop) : Array Value → State → Outcome → State → Prop := fun _ st oc t =>
  (∃ (r : Option MV) (t' : Sto), oc = .returned (r.map (mval ad)) ∧ (∀ v, r = some v → okV v) ∧ Q r t' ∧ va_P D vwCl (wd cy ad t') t.heap ∧ okS t') ∧ va_F (Aw ad) st t
def lok (la : Array Slot) (nL : Nat) (ad : Nat → Nat) (ls : List (Option MV)) : Prop := ∃ lv, lv_has la nL lv ∧ ls.length ≤ nL ∧ ∀ n v, ls[n]? = some (some v) → (n, mval ad v) ∈ lv
abbrev Ev : Type := (Program × Launch × Env × Room × State) × (MethodId × Array Value × List Frame × Method × Code) × (va_G × (Bool → ClassId) × (Nat → Nat))
def EvOK (E : Ev) (cc : ByteArray) (own : String) (ret : Option FieldType) (d : Nat) : Prop := match E with
  | ((p, _, _, R, s), (m, args, _, meth, c), (D, cy, ad)) => p.tables.exec = Jvm.exec ∧ c.code = cc ∧ meth.sig.returnType = ret ∧ meth.locks = false ∧ s.vm.findClass own = some m.cls ∧ (∀ w ∈ gw, w.before args s = true) ∧ apartW ad ∧ cxK D cy ad s s.heap ∧ d ≤ R.frames ∧ 64 * d ≤ R.locals
def G (E : Ev) (cc : ByteArray) (own : String) (ret : Option FieldType) (d : Nat) (pc : Nat) (ls : List (Option MV)) (st : List MV) (t : Sto) (Q : Option MV → Sto → Prop) : Prop := match E with
  | ((p, l, e, R, s), (m, args, below, meth, c), (D, cy, ad)) => EvOK ((p, l, e, R, s), (m, args, below, meth, c), (D, cy, ad)) cc own ret d → okS t → (∀ v ∈ st, okV v) → (∀ v, some v ∈ ls → okV v) →
    ∀ (H : Heap) (locs : List Loc) (la : Array Slot), va_P D vwCl (wd cy ad t) H → va_S (Aw ad) s.heap H locs → lok la c.maxLocals ad ls →
      W p l e R s m args below meth c H locs 0 0 (MQ below (Qx D cy ad Q) args s 0 0 (Aw ad)) (F0 m pc la (st.map (mval ad)))
/-- a method's contract at a store: called with these values it answers and leaves a store so that Q -/
def CT (y : MethodName) (cc : ByteArray) (nL : Nat) (ret : Option FieldType) (d : Nat) (as : List MV) (t : Sto) (Q : Option MV → Sto → Prop) : Prop :=
  ∀ (l : Launch) (D : va_G) (cy : Bool → ClassId) (ad : Nat → Nat), Met l y (Cond.code y cc nL ret :: gw) { frames := d, cells := 0, slots := 0, locals := 64 * d }
    (va_Pc (as.map (mval ad)) (fun U => va_P D vwCl (wd cy ad t) U.heap ∧ okS t ∧ (∀ v ∈ as, okV v) ∧ apartW ad ∧ cxK D cy ad U U.heap)) (Qx D cy ad Q) 0 0 (Aw ad)
theorem lok.get {la : Array Slot} {nL : Nat} {ad : Nat → Nat} {ls : List (Option MV)} (h : lok la nL ad ls) {n : Nat} {v : MV} (hn : ls[n]? = some (some v)) : la[n]? = some (.val (mval ad v)) := by
  obtain ⟨lv, h1, -, h3⟩ := h
  exact h1.2.2 _ (h3 n v hn)
def notLong (o : Option (Option MV)) : Bool := match o with
  | some (some (Sum.inr (Sum.inr _))) => false
  | _ => true
theorem mval_cat {ad : Nat → Nat} {v : MV} (h : notLong (some (some v)) = true) : (mval ad v).category = 1 := by
  rcases v with x | q | x
  · rfl
  · rfl
  · simp [notLong] at h
/-- a value of one slot is put -/
theorem lok.put {la : Array Slot} {nL : Nat} {ad : Nat → Nat} {ls : List (Option MV)} (h : lok la nL ad ls) {i : Nat} (v : MV) (hi : i < ls.length) (hv : notLong (some (some v)) = true) (hb : (i == 0 || notLong ls[i-1]?) = true) {lv : List (Nat × Value)} (hlv : lv_has la nL lv) (hin : ∀ n v, ls[n]? = some (some v) → (n, mval ad v) ∈ lv) {la' : Array Slot} (h' : lv_has la' nL ((i, mval ad v) :: lv.filter (fun q => !(q.1 == i) && !(q.1 + 1 == i && q.2.category == 2)))) : lok la' nL ad (ls.set i (some v)) := by
  obtain ⟨-, -, hlen, -⟩ := h
  refine ⟨_, h', by simpa using hlen, fun n w hn => ?_⟩
  rw [List.getElem?_set] at hn
  by_cases e : i = n
  · subst e
    simp only [hi, if_true] at hn
    cases hn
    exact List.mem_cons_self
  · rw [if_neg e] at hn
    refine List.mem_cons_of_mem _ (List.mem_filter.mpr ⟨hin n w hn, ?_⟩)
    simp only [Bool.and_eq_true, Bool.not_eq_true', beq_eq_false_iff_ne, ne_eq, Bool.and_eq_false_iff]
    refine ⟨fun e2 => e e2.symm, ?_⟩
    by_cases e3 : n + 1 = i
    · right
      have hb2 : notLong ls[i-1]? = true := by
        rcases Bool.or_eq_true_iff.mp hb with z | z
        · have : i = 0 := by simpa using z
          omega
        · exact z
      have e4 : i - 1 = n := by omega
      rw [e4, hn] at hb2
      rw [mval_cat hb2]
      decide
    · left
      exact e3
theorem ok_cons {v : MV} {st : List MV} (hv : okV v) (h : ∀ w ∈ st, okV w) : ∀ w ∈ v :: st, okV w := by
  intro w hw
  rcases List.mem_cons.mp hw with e | e
  · rw [e]; exact hv
  · exact h w e
theorem ok_tl {v : MV} {st : List MV} (h : ∀ w ∈ v :: st, okV w) : ∀ w ∈ st, okV w := fun w hw => h w (List.mem_cons_of_mem _ hw)
theorem ok_hd {v : MV} {st : List MV} (h : ∀ w ∈ v :: st, okV w) : okV v := h v List.mem_cons_self
theorem ok_set {ls : List (Option MV)} {i : Nat} {v : MV} (h : ∀ w, some w ∈ ls → okV w) (hv : okV v) : ∀ w, some w ∈ ls.set i (some v) → okV w := by
  intro w hw
  rcases List.mem_or_eq_of_mem_set hw with e | e
  · exact h w e
  · cases e; exact hv
theorem ok_at {ls : List (Option MV)} {n : Nat} {v : MV} (h : ∀ w, some w ∈ ls → okV w) (hn : ls[n]? = some (some v)) : okV v := h v (List.mem_of_getElem? hn)
section RULES
variable {E : Ev} {cc : ByteArray} {own : String} {ret : Option FieldType} {d pc : Nat} {ls : List (Option MV)} {st : List MV} {t : Sto} {Q : Option MV → Sto → Prop}
theorem G_iconst {n : Int} (hd : decode cc pc = .ok (.iconst n, 1)) (hn : -2147483648 ≤ n ∧ n ≤ 2147483647) (k : G E cc own ret d (pc + 1) ls (mI n :: st) t Q) : G E cc own ret d pc ls st t Q := by
  obtain ⟨⟨p, l, e, R, s⟩, ⟨m, args, below, meth, c⟩, ⟨D, cy, ad⟩⟩ := E
  intro hE ht hst hls H locs la hP hS hla
  exact lv_iconst hE.1 hE.2.1 hd rfl (k hE ht (ok_cons hn hst) hls H locs la hP hS hla)
theorem G_bipush {n x : Int} (hd : decode cc pc = .ok (.bipush n, 2)) (hx : (Int8.ofInt n).toInt32 = Int32.ofInt x) (hn : -2147483648 ≤ x ∧ x ≤ 2147483647) (k : G E cc own ret d (pc + 2) ls (mI x :: st) t Q) : G E cc own ret d pc ls st t Q := by
  obtain ⟨⟨p, l, e, R, s⟩, ⟨m, args, below, meth, c⟩, ⟨D, cy, ad⟩⟩ := E
  intro hE ht hst hls H locs la hP hS hla
  exact lv_bipush hE.1 hE.2.1 hd hx (k hE ht (ok_cons hn hst) hls H locs la hP hS hla)
theorem G_sipush {n x : Int} (hd : decode cc pc = .ok (.sipush n, 3)) (hx : (Int16.ofInt n).toInt32 = Int32.ofInt x) (hn : -2147483648 ≤ x ∧ x ≤ 2147483647) (k : G E cc own ret d (pc + 3) ls (mI x :: st) t Q) : G E cc own ret d pc ls st t Q := by
  obtain ⟨⟨p, l, e, R, s⟩, ⟨m, args, below, meth, c⟩, ⟨D, cy, ad⟩⟩ := E
  intro hE ht hst hls H locs la hP hS hla
  exact lv_sipush hE.1 hE.2.1 hd hx (k hE ht (ok_cons hn hst) hls H locs la hP hS hla)
theorem G_ldc {n : Nat} {x : Int} (hd : decode cc pc = .ok (.ldc n, 2)) (hw : Cond.constant own n (Int32.ofInt x) ∈ gw) (hn : -2147483648 ≤ x ∧ x ≤ 2147483647) (k : G E cc own ret d (pc + 2) ls (mI x :: st) t Q) : G E cc own ret d pc ls st t Q := by
  obtain ⟨⟨p, l, e, R, s⟩, ⟨m, args, below, meth, c⟩, ⟨D, cy, ad⟩⟩ := E
  intro hE ht hst hls H locs la hP hS hla
  exact W.ldc hE.1 hE.2.1 hE.2.2.2.2.1 (hE.2.2.2.2.2.1 _ hw) rfl hd (k hE ht (ok_cons hn hst) hls H locs la hP hS hla)
theorem G_iload_n {n : Fin 4} {x : Int} (hd : decode cc pc = .ok (.iload_n n, 1)) (hl : ls[(n : Nat)]? = some (some (mI x))) (k : G E cc own ret d (pc + 1) ls (mI x :: st) t Q) : G E cc own ret d pc ls st t Q := by
  obtain ⟨⟨p, l, e, R, s⟩, ⟨m, args, below, meth, c⟩, ⟨D, cy, ad⟩⟩ := E
  intro hE ht hst hls H locs la hP hS hla
  exact lv_iload_n hE.1 hE.2.1 hd rfl (hla.get hl) (k hE ht (ok_cons (ok_at hls hl) hst) hls H locs la hP hS hla)
theorem G_iload {n : Nat} {x : Int} (hd : decode cc pc = .ok (.iload n, 2)) (hl : ls[n]? = some (some (mI x))) (k : G E cc own ret d (pc + 2) ls (mI x :: st) t Q) : G E cc own ret d pc ls st t Q := by
  obtain ⟨⟨p, l, e, R, s⟩, ⟨m, args, below, meth, c⟩, ⟨D, cy, ad⟩⟩ := E
  intro hE ht hst hls H locs la hP hS hla
  exact lv_iload hE.1 hE.2.1 hd (hla.get hl) (k hE ht (ok_cons (ok_at hls hl) hst) hls H locs la hP hS hla)
theorem G_aload_n {n : Fin 4} {x : Nat} (hd : decode cc pc = .ok (.aload_n n, 1)) (hl : ls[(n : Nat)]? = some (some (mP x))) (k : G E cc own ret d (pc + 1) ls (mP x :: st) t Q) : G E cc own ret d pc ls st t Q := by
  obtain ⟨⟨p, l, e, R, s⟩, ⟨m, args, below, meth, c⟩, ⟨D, cy, ad⟩⟩ := E
  intro hE ht hst hls H locs la hP hS hla
  exact lv_aload_n hE.1 hE.2.1 hd rfl (hla.get hl) (k hE ht (ok_cons (ok_at hls hl) hst) hls H locs la hP hS hla)
theorem G_lload {n : Nat} {x : Int} (hd : decode cc pc = .ok (.lload n, 2)) (hl : ls[n]? = some (some (mL x))) (k : G E cc own ret d (pc + 2) ls (mL x :: st) t Q) : G E cc own ret d pc ls st t Q := by
  obtain ⟨⟨p, l, e, R, s⟩, ⟨m, args, below, meth, c⟩, ⟨D, cy, ad⟩⟩ := E
  intro hE ht hst hls H locs la hP hS hla
  exact lv_lload hE.1 hE.2.1 hd (hla.get hl) (k hE ht (ok_cons (ok_at hls hl) hst) hls H locs la hP hS hla)
theorem G_istore_n {n : Fin 4} {v : Int} (hd : decode cc pc = .ok (.istore_n n, 1)) (hi : (n : Nat) < ls.length) (hb : ((n : Nat) == 0 || notLong ls[(n : Nat)-1]?) = true) (k : G E cc own ret d (pc + 1) (ls.set n (some (mI v))) st t Q) : G E cc own ret d pc ls (mI v :: st) t Q := by
  obtain ⟨⟨p, l, e, R, s⟩, ⟨m, args, below, meth, c⟩, ⟨D, cy, ad⟩⟩ := E
  intro hE ht hst hls H locs la hP hS hla
  obtain ⟨lv, h1, h2, h3⟩ := id hla
  exact lv_istore_n hE.1 hE.2.1 hd rfl h1 (Nat.lt_of_lt_of_le hi h2) rfl (fun la' h' => k hE ht (ok_tl hst) (ok_set hls (ok_hd hst)) H locs la' hP hS (hla.put (mI v) hi rfl hb h1 h3 h'))
theorem G_istore {n : Nat} {v : Int} (hd : decode cc pc = .ok (.istore n, 2)) (hi : n < ls.length) (hb : (n == 0 || notLong ls[n-1]?) = true) (k : G E cc own ret d (pc + 2) (ls.set n (some (mI v))) st t Q) : G E cc own ret d pc ls (mI v :: st) t Q := by
  obtain ⟨⟨p, l, e, R, s⟩, ⟨m, args, below, meth, c⟩, ⟨D, cy, ad⟩⟩ := E
  intro hE ht hst hls H locs la hP hS hla
  obtain ⟨lv, h1, h2, h3⟩ := id hla
  exact lv_istore hE.1 hE.2.1 hd h1 (Nat.lt_of_lt_of_le hi h2) rfl (fun la' h' => k hE ht (ok_tl hst) (ok_set hls (ok_hd hst)) H locs la' hP hS (hla.put (mI v) hi rfl hb h1 h3 h'))
theorem G_iinc {n : Nat} {x a : Int} (hd : decode cc pc = .ok (.iinc n a, 3)) (hl : ls[n]? = some (some (mI x))) (hb : (n == 0 || notLong ls[n-1]?) = true) (hr : -2147483648 ≤ x + a ∧ x + a ≤ 2147483647) (k : G E cc own ret d (pc + 3) (ls.set n (some (mI (x + a)))) st t Q) : G E cc own ret d pc ls st t Q := by
  obtain ⟨⟨p, l, e, R, s⟩, ⟨m, args, below, meth, c⟩, ⟨D, cy, ad⟩⟩ := E
  intro hE ht hst hls H locs la hP hS hla
  obtain ⟨lv, h1, h2, h3⟩ := id hla
  obtain ⟨kk, hkk⟩ := List.getElem?_of_mem (h3 n _ hl)
  have hi : n < ls.length := (List.getElem?_eq_some_iff.mp hl).1
  exact lv_iinc (v := Int32.ofInt (x + a)) hE.1 hE.2.1 hd h1 hkk (by rw [Int32.ofInt_add]) (Nat.lt_of_lt_of_le hi h2) rfl (fun la' h' => k hE ht hst (ok_set hls hr) H locs la' hP hS (hla.put (mI (x + a)) hi rfl hb h1 h3 h'))
theorem G_iadd {a b : Int} (hd : decode cc pc = .ok (.iadd, 1)) (hr : -2147483648 ≤ a + b ∧ a + b ≤ 2147483647) (k : G E cc own ret d (pc + 1) ls (mI (a + b) :: st) t Q) : G E cc own ret d pc ls (mI b :: mI a :: st) t Q := by
  obtain ⟨⟨p, l, e, R, s⟩, ⟨m, args, below, meth, c⟩, ⟨D, cy, ad⟩⟩ := E
  intro hE ht hst hls H locs la hP hS hla
  have h := k hE ht (ok_cons hr (ok_tl (ok_tl hst))) hls H locs la hP hS hla
  simp only [List.map_cons, mval, Int32.ofInt_add] at h
  exact lv_iadd hE.1 hE.2.1 hd h
theorem G_isub {a b : Int} (hd : decode cc pc = .ok (.isub, 1)) (hr : -2147483648 ≤ a - b ∧ a - b ≤ 2147483647) (k : G E cc own ret d (pc + 1) ls (mI (a - b) :: st) t Q) : G E cc own ret d pc ls (mI b :: mI a :: st) t Q := by
  obtain ⟨⟨p, l, e, R, s⟩, ⟨m, args, below, meth, c⟩, ⟨D, cy, ad⟩⟩ := E
  intro hE ht hst hls H locs la hP hS hla
  have h := k hE ht (ok_cons hr (ok_tl (ok_tl hst))) hls H locs la hP hS hla
  simp only [List.map_cons, mval, Int32.ofInt_sub] at h
  exact lv_isub hE.1 hE.2.1 hd h
theorem G_imul {a b : Int} (hd : decode cc pc = .ok (.imul, 1)) (hr : -2147483648 ≤ a * b ∧ a * b ≤ 2147483647) (k : G E cc own ret d (pc + 1) ls (mI (a * b) :: st) t Q) : G E cc own ret d pc ls (mI b :: mI a :: st) t Q := by
  obtain ⟨⟨p, l, e, R, s⟩, ⟨m, args, below, meth, c⟩, ⟨D, cy, ad⟩⟩ := E
  intro hE ht hst hls H locs la hP hS hla
  have h := k hE ht (ok_cons hr (ok_tl (ok_tl hst))) hls H locs la hP hS hla
  simp only [List.map_cons, mval, Int32.ofInt_mul] at h
  exact lv_imul hE.1 hE.2.1 hd h
theorem G_ineg {a : Int} (hd : decode cc pc = .ok (.ineg, 1)) (hr : -2147483648 ≤ -a ∧ -a ≤ 2147483647) (k : G E cc own ret d (pc + 1) ls (mI (-a) :: st) t Q) : G E cc own ret d pc ls (mI a :: st) t Q := by
  obtain ⟨⟨p, l, e, R, s⟩, ⟨m, args, below, meth, c⟩, ⟨D, cy, ad⟩⟩ := E
  intro hE ht hst hls H locs la hP hS hla
  have h := k hE ht (ok_cons hr (ok_tl hst)) hls H locs la hP hS hla
  simp only [List.map_cons, mval, Int32.ofInt_neg] at h
  exact lv_ineg hE.1 hE.2.1 hd h
theorem io_div {a b : Int} (ha : inR a) (hb : inR b) (h0 : 0 < b) : Int32.ofInt a / Int32.ofInt b = Int32.ofInt (a.tdiv b) := by
  apply Int32.toInt_inj.mp
  have hne : Int32.ofInt b ≠ -1 := by
    intro e
    have h1 := io_toInt hb
    rw [e] at h1
    have h2 : (-1 : Int32).toInt = -1 := rfl
    omega
  have hq : inR (a.tdiv b) := by
    unfold inR at *
    rcases Int.lt_or_le a 0 with hn | hn
    · have e : a.tdiv b = -((-a).tdiv b) := by rw [Int.neg_tdiv, Int.neg_neg]
      have h1 : 0 ≤ (-a).tdiv b := Int.tdiv_nonneg (by omega) (by omega)
      have h2 : (-a).tdiv b ≤ -a := Int.tdiv_le_self _ (by omega)
      omega
    · have h1 : 0 ≤ a.tdiv b := Int.tdiv_nonneg hn (by omega)
      have h2 : a.tdiv b ≤ a := Int.tdiv_le_self _ hn
      omega
  rw [Int32.toInt_div_of_ne_right _ _ hne, io_toInt ha, io_toInt hb, io_toInt hq]
theorem inR_tdiv {a b : Int} (ha : inR a) (h0 : 0 < b) : inR (a.tdiv b) := by
  unfold inR at *
  rcases Int.lt_or_le a 0 with hn | hn
  · have e : a.tdiv b = -((-a).tdiv b) := by rw [Int.neg_tdiv, Int.neg_neg]
    have h1 : 0 ≤ (-a).tdiv b := Int.tdiv_nonneg (by omega) (by omega)
    have h2 : (-a).tdiv b ≤ -a := Int.tdiv_le_self _ (by omega)
    omega
  · have h1 : 0 ≤ a.tdiv b := Int.tdiv_nonneg hn (by omega)
    have h2 : a.tdiv b ≤ a := Int.tdiv_le_self _ hn
    omega
theorem G_idiv {a b : Int} (hd : decode cc pc = .ok (.idiv, 1)) (h0 : 0 < b) (k : G E cc own ret d (pc + 1) ls (mI (a.tdiv b) :: st) t Q) : G E cc own ret d pc ls (mI b :: mI a :: st) t Q := by
  obtain ⟨⟨p, l, e, R, s⟩, ⟨m, args, below, meth, c⟩, ⟨D, cy, ad⟩⟩ := E
  intro hE ht hst hls H locs la hP hS hla
  have ha : inR a := ok_hd (ok_tl hst)
  have hb : inR b := ok_hd hst
  have h := k hE ht (ok_cons (v := mI (a.tdiv b)) (inR_tdiv ha h0) (ok_tl (ok_tl hst))) hls H locs la hP hS hla
  simp only [List.map_cons, mval, ← io_div ha hb h0] at h
  exact lv_idiv hE.1 hE.2.1 hd (fun e => by rw [io_0, io_eq hb inR_0] at e; omega) h
theorem G_irem {a b : Int} (hd : decode cc pc = .ok (.irem, 1)) (h0 : 0 < b) (k : G E cc own ret d (pc + 1) ls (mI (a.tmod b) :: st) t Q) : G E cc own ret d pc ls (mI b :: mI a :: st) t Q := by
  obtain ⟨⟨p, l, e, R, s⟩, ⟨m, args, below, meth, c⟩, ⟨D, cy, ad⟩⟩ := E
  intro hE ht hst hls H locs la hP hS hla
  have ha : inR a := ok_hd (ok_tl hst)
  have hb : inR b := ok_hd hst
  have hm : a.tmod b = a - a.tdiv b * b := by rw [Int.tmod_def, Int.mul_comm]
  have hr : inR (a.tmod b) := by
    unfold inR at *
    have h1 := tmod_bounds (a := a) h0
    omega
  have h := k hE ht (ok_cons (v := mI (a.tmod b)) hr (ok_tl (ok_tl hst))) hls H locs la hP hS hla
  simp only [List.map_cons, mval, hm, Int32.ofInt_sub, Int32.ofInt_mul, ← io_div ha hb h0] at h
  exact lv_irem hE.1 hE.2.1 hd (fun e => by rw [io_0, io_eq hb inR_0] at e; omega) h
theorem inR_toInt (x : Int32) : inR x.toInt := ⟨by have := x.le_toInt; omega, by have := x.toInt_lt; omega⟩
theorem G_iand {a b : Int} (hd : decode cc pc = .ok (.iand, 1)) (k : G E cc own ret d (pc + 1) ls (mI (Int32.ofInt a &&& Int32.ofInt b).toInt :: st) t Q) : G E cc own ret d pc ls (mI b :: mI a :: st) t Q := by
  obtain ⟨⟨p, l, e, R, s⟩, ⟨m, args, below, meth, c⟩, ⟨D, cy, ad⟩⟩ := E
  intro hE ht hst hls H locs la hP hS hla
  have h := k hE ht (ok_cons (v := mI _) (inR_toInt _) (ok_tl (ok_tl hst))) hls H locs la hP hS hla
  simp only [List.map_cons, mval, Int32.ofInt_toInt] at h
  exact lv_iand hE.1 hE.2.1 hd h
theorem G_ior {a b : Int} (hd : decode cc pc = .ok (.ior, 1)) (k : G E cc own ret d (pc + 1) ls (mI (Int32.ofInt a ||| Int32.ofInt b).toInt :: st) t Q) : G E cc own ret d pc ls (mI b :: mI a :: st) t Q := by
  obtain ⟨⟨p, l, e, R, s⟩, ⟨m, args, below, meth, c⟩, ⟨D, cy, ad⟩⟩ := E
  intro hE ht hst hls H locs la hP hS hla
  have h := k hE ht (ok_cons (v := mI _) (inR_toInt _) (ok_tl (ok_tl hst))) hls H locs la hP hS hla
  simp only [List.map_cons, mval, Int32.ofInt_toInt] at h
  exact lv_ior hE.1 hE.2.1 hd h
theorem G_ishl {a b : Int} (hd : decode cc pc = .ok (.ishl, 1)) (k : G E cc own ret d (pc + 1) ls (mI (Int32.ofInt a <<< (Int32.ofInt b &&& 31)).toInt :: st) t Q) : G E cc own ret d pc ls (mI b :: mI a :: st) t Q := by
  obtain ⟨⟨p, l, e, R, s⟩, ⟨m, args, below, meth, c⟩, ⟨D, cy, ad⟩⟩ := E
  intro hE ht hst hls H locs la hP hS hla
  have h := k hE ht (ok_cons (v := mI _) (inR_toInt _) (ok_tl (ok_tl hst))) hls H locs la hP hS hla
  simp only [List.map_cons, mval, Int32.ofInt_toInt] at h
  exact lv_ishl hE.1 hE.2.1 hd h
theorem G_ishr {a b : Int} (hd : decode cc pc = .ok (.ishr, 1)) (k : G E cc own ret d (pc + 1) ls (mI (Int32.ofInt a >>> (Int32.ofInt b &&& 31)).toInt :: st) t Q) : G E cc own ret d pc ls (mI b :: mI a :: st) t Q := by
  obtain ⟨⟨p, l, e, R, s⟩, ⟨m, args, below, meth, c⟩, ⟨D, cy, ad⟩⟩ := E
  intro hE ht hst hls H locs la hP hS hla
  have h := k hE ht (ok_cons (v := mI _) (inR_toInt _) (ok_tl (ok_tl hst))) hls H locs la hP hS hla
  simp only [List.map_cons, mval, Int32.ofInt_toInt] at h
  exact lv_ishr hE.1 hE.2.1 hd h
theorem G_dup {v : MV} (hd : decode cc pc = .ok (.dup, 1)) (hv : notLong (some (some v)) = true) (k : G E cc own ret d (pc + 1) ls (v :: v :: st) t Q) : G E cc own ret d pc ls (v :: st) t Q := by
  obtain ⟨⟨p, l, e, R, s⟩, ⟨m, args, below, meth, c⟩, ⟨D, cy, ad⟩⟩ := E
  intro hE ht hst hls H locs la hP hS hla
  exact lv_dup hE.1 hE.2.1 hd (mval_cat hv) (k hE ht (ok_cons (ok_hd hst) hst) hls H locs la hP hS hla)
theorem G_dup_x1 {v w : MV} (hd : decode cc pc = .ok (.dup_x1, 1)) (hv : notLong (some (some v)) = true) (hw : notLong (some (some w)) = true) (k : G E cc own ret d (pc + 1) ls (v :: w :: v :: st) t Q) : G E cc own ret d pc ls (v :: w :: st) t Q := by
  obtain ⟨⟨p, l, e, R, s⟩, ⟨m, args, below, meth, c⟩, ⟨D, cy, ad⟩⟩ := E
  intro hE ht hst hls H locs la hP hS hla
  exact lv_dup_x1 hE.1 hE.2.1 hd (mval_cat hv) (mval_cat hw) (k hE ht (ok_cons (ok_hd hst) (ok_cons (ok_hd (ok_tl hst)) (ok_cons (ok_hd hst) (ok_tl (ok_tl hst))))) hls H locs la hP hS hla)
theorem G_dup2 {v w : MV} (hd : decode cc pc = .ok (.dup2, 1)) (hv : notLong (some (some v)) = true) (hw : notLong (some (some w)) = true) (k : G E cc own ret d (pc + 1) ls (v :: w :: v :: w :: st) t Q) : G E cc own ret d pc ls (v :: w :: st) t Q := by
  obtain ⟨⟨p, l, e, R, s⟩, ⟨m, args, below, meth, c⟩, ⟨D, cy, ad⟩⟩ := E
  intro hE ht hst hls H locs la hP hS hla
  exact lv_dup2_11 hE.1 hE.2.1 hd (mval_cat hv) (mval_cat hw) (k hE ht (ok_cons (ok_hd hst) (ok_cons (ok_hd (ok_tl hst)) hst)) hls H locs la hP hS hla)
theorem G_pop {v : MV} (hd : decode cc pc = .ok (.pop, 1)) (hv : notLong (some (some v)) = true) (k : G E cc own ret d (pc + 1) ls st t Q) : G E cc own ret d pc ls (v :: st) t Q := by
  obtain ⟨⟨p, l, e, R, s⟩, ⟨m, args, below, meth, c⟩, ⟨D, cy, ad⟩⟩ := E
  intro hE ht hst hls H locs la hP hS hla
  exact lv_pop hE.1 hE.2.1 hd (mval_cat hv) (k hE ht (ok_tl hst) hls H locs la hP hS hla)
theorem G_goto {off : Int} {tgt : Nat} (hd : decode cc pc = .ok (.goto off, 3)) (htg : (pc : Int) + off = (tgt : Int)) (k : G E cc own ret d tgt ls st t Q) : G E cc own ret d pc ls st t Q := by
  obtain ⟨⟨p, l, e, R, s⟩, ⟨m, args, below, meth, c⟩, ⟨D, cy, ad⟩⟩ := E
  intro hE ht hst hls H locs la hP hS hla
  exact lv_goto hE.1 hE.2.1 hd htg (k hE ht hst hls H locs la hP hS hla)
theorem G_icmp_eq {a b : Int} {off : Int} {tgt : Nat} (hd : decode cc pc = .ok (.if_icmp .eq off, 3)) (htg : (pc : Int) + off = (tgt : Int)) (kt : a = b → G E cc own ret d tgt ls st t Q) (kf : ¬ (a = b) → G E cc own ret d (pc + 3) ls st t Q) : G E cc own ret d pc ls (mI b :: mI a :: st) t Q := by
  obtain ⟨⟨p, l, e, R, s⟩, ⟨m, args, below, meth, c⟩, ⟨D, cy, ad⟩⟩ := E
  intro hE ht hst hls H locs la hP hS hla
  have ha : inR a := ok_hd (ok_tl hst)
  have hb : inR b := ok_hd hst
  exact lv_icmp_eq hE.1 hE.2.1 hd htg (fun h => kt ((io_eq ha hb).mp h) hE ht (ok_tl (ok_tl hst)) hls H locs la hP hS hla) (fun h => kf (fun q => h ((io_eq ha hb).mpr q)) hE ht (ok_tl (ok_tl hst)) hls H locs la hP hS hla)
theorem G_icmp_ne {a b : Int} {off : Int} {tgt : Nat} (hd : decode cc pc = .ok (.if_icmp .ne off, 3)) (htg : (pc : Int) + off = (tgt : Int)) (kt : a ≠ b → G E cc own ret d tgt ls st t Q) (kf : a = b → G E cc own ret d (pc + 3) ls st t Q) : G E cc own ret d pc ls (mI b :: mI a :: st) t Q := by
  obtain ⟨⟨p, l, e, R, s⟩, ⟨m, args, below, meth, c⟩, ⟨D, cy, ad⟩⟩ := E
  intro hE ht hst hls H locs la hP hS hla
  have ha : inR a := ok_hd (ok_tl hst)
  have hb : inR b := ok_hd hst
  exact lv_icmp_ne hE.1 hE.2.1 hd htg (fun h => kt ((not_congr (io_eq ha hb)).mp h) hE ht (ok_tl (ok_tl hst)) hls H locs la hP hS hla) (fun h => kf ((io_eq ha hb).mp h) hE ht (ok_tl (ok_tl hst)) hls H locs la hP hS hla)
theorem G_icmp_lt {a b : Int} {off : Int} {tgt : Nat} (hd : decode cc pc = .ok (.if_icmp .lt off, 3)) (htg : (pc : Int) + off = (tgt : Int)) (kt : a < b → G E cc own ret d tgt ls st t Q) (kf : ¬ (a < b) → G E cc own ret d (pc + 3) ls st t Q) : G E cc own ret d pc ls (mI b :: mI a :: st) t Q := by
  obtain ⟨⟨p, l, e, R, s⟩, ⟨m, args, below, meth, c⟩, ⟨D, cy, ad⟩⟩ := E
  intro hE ht hst hls H locs la hP hS hla
  have ha : inR a := ok_hd (ok_tl hst)
  have hb : inR b := ok_hd hst
  exact lv_icmp_lt hE.1 hE.2.1 hd htg (fun h => kt ((io_lt ha hb).mp h) hE ht (ok_tl (ok_tl hst)) hls H locs la hP hS hla) (fun h => kf (fun q => h ((io_lt ha hb).mpr q)) hE ht (ok_tl (ok_tl hst)) hls H locs la hP hS hla)
theorem G_icmp_le {a b : Int} {off : Int} {tgt : Nat} (hd : decode cc pc = .ok (.if_icmp .le off, 3)) (htg : (pc : Int) + off = (tgt : Int)) (kt : a ≤ b → G E cc own ret d tgt ls st t Q) (kf : ¬ (a ≤ b) → G E cc own ret d (pc + 3) ls st t Q) : G E cc own ret d pc ls (mI b :: mI a :: st) t Q := by
  obtain ⟨⟨p, l, e, R, s⟩, ⟨m, args, below, meth, c⟩, ⟨D, cy, ad⟩⟩ := E
  intro hE ht hst hls H locs la hP hS hla
  have ha : inR a := ok_hd (ok_tl hst)
  have hb : inR b := ok_hd hst
  exact lv_icmp_le hE.1 hE.2.1 hd htg (fun h => kt ((io_le ha hb).mp h) hE ht (ok_tl (ok_tl hst)) hls H locs la hP hS hla) (fun h => kf (fun q => h ((io_le ha hb).mpr q)) hE ht (ok_tl (ok_tl hst)) hls H locs la hP hS hla)
theorem G_icmp_gt {a b : Int} {off : Int} {tgt : Nat} (hd : decode cc pc = .ok (.if_icmp .gt off, 3)) (htg : (pc : Int) + off = (tgt : Int)) (kt : b < a → G E cc own ret d tgt ls st t Q) (kf : ¬ (b < a) → G E cc own ret d (pc + 3) ls st t Q) : G E cc own ret d pc ls (mI b :: mI a :: st) t Q := by
  obtain ⟨⟨p, l, e, R, s⟩, ⟨m, args, below, meth, c⟩, ⟨D, cy, ad⟩⟩ := E
  intro hE ht hst hls H locs la hP hS hla
  have ha : inR a := ok_hd (ok_tl hst)
  have hb : inR b := ok_hd hst
  exact lv_icmp_gt hE.1 hE.2.1 hd htg (fun h => kt ((io_lt hb ha).mp h) hE ht (ok_tl (ok_tl hst)) hls H locs la hP hS hla) (fun h => kf (fun q => h ((io_lt hb ha).mpr q)) hE ht (ok_tl (ok_tl hst)) hls H locs la hP hS hla)
theorem G_icmp_ge {a b : Int} {off : Int} {tgt : Nat} (hd : decode cc pc = .ok (.if_icmp .ge off, 3)) (htg : (pc : Int) + off = (tgt : Int)) (kt : b ≤ a → G E cc own ret d tgt ls st t Q) (kf : ¬ (b ≤ a) → G E cc own ret d (pc + 3) ls st t Q) : G E cc own ret d pc ls (mI b :: mI a :: st) t Q := by
  obtain ⟨⟨p, l, e, R, s⟩, ⟨m, args, below, meth, c⟩, ⟨D, cy, ad⟩⟩ := E
  intro hE ht hst hls H locs la hP hS hla
  have ha : inR a := ok_hd (ok_tl hst)
  have hb : inR b := ok_hd hst
  exact lv_icmp_ge hE.1 hE.2.1 hd htg (fun h => kt ((io_le hb ha).mp h) hE ht (ok_tl (ok_tl hst)) hls H locs la hP hS hla) (fun h => kf (fun q => h ((io_le hb ha).mpr q)) hE ht (ok_tl (ok_tl hst)) hls H locs la hP hS hla)
theorem G_if_eq {a : Int} {off : Int} {tgt : Nat} (hd : decode cc pc = .ok (.ifCond .eq off, 3)) (htg : (pc : Int) + off = (tgt : Int)) (kt : a = 0 → G E cc own ret d tgt ls st t Q) (kf : ¬ (a = 0) → G E cc own ret d (pc + 3) ls st t Q) : G E cc own ret d pc ls (mI a :: st) t Q := by
  obtain ⟨⟨p, l, e, R, s⟩, ⟨m, args, below, meth, c⟩, ⟨D, cy, ad⟩⟩ := E
  intro hE ht hst hls H locs la hP hS hla
  have ha : inR a := ok_hd hst
  exact lv_if_eq hE.1 hE.2.1 hd htg (fun h => kt ((io_eq ha inR_0).mp h) hE ht (ok_tl hst) hls H locs la hP hS hla) (fun h => kf (fun q => h ((io_eq ha inR_0).mpr q)) hE ht (ok_tl hst) hls H locs la hP hS hla)
theorem G_if_ne {a : Int} {off : Int} {tgt : Nat} (hd : decode cc pc = .ok (.ifCond .ne off, 3)) (htg : (pc : Int) + off = (tgt : Int)) (kt : a ≠ 0 → G E cc own ret d tgt ls st t Q) (kf : a = 0 → G E cc own ret d (pc + 3) ls st t Q) : G E cc own ret d pc ls (mI a :: st) t Q := by
  obtain ⟨⟨p, l, e, R, s⟩, ⟨m, args, below, meth, c⟩, ⟨D, cy, ad⟩⟩ := E
  intro hE ht hst hls H locs la hP hS hla
  have ha : inR a := ok_hd hst
  exact lv_if_ne hE.1 hE.2.1 hd htg (fun h => kt ((not_congr (io_eq ha inR_0)).mp h) hE ht (ok_tl hst) hls H locs la hP hS hla) (fun h => kf ((io_eq ha inR_0).mp h) hE ht (ok_tl hst) hls H locs la hP hS hla)
theorem G_if_lt {a : Int} {off : Int} {tgt : Nat} (hd : decode cc pc = .ok (.ifCond .lt off, 3)) (htg : (pc : Int) + off = (tgt : Int)) (kt : a < 0 → G E cc own ret d tgt ls st t Q) (kf : ¬ (a < 0) → G E cc own ret d (pc + 3) ls st t Q) : G E cc own ret d pc ls (mI a :: st) t Q := by
  obtain ⟨⟨p, l, e, R, s⟩, ⟨m, args, below, meth, c⟩, ⟨D, cy, ad⟩⟩ := E
  intro hE ht hst hls H locs la hP hS hla
  have ha : inR a := ok_hd hst
  exact lv_if_lt hE.1 hE.2.1 hd htg (fun h => kt ((io_lt ha inR_0).mp h) hE ht (ok_tl hst) hls H locs la hP hS hla) (fun h => kf (fun q => h ((io_lt ha inR_0).mpr q)) hE ht (ok_tl hst) hls H locs la hP hS hla)
theorem G_if_le {a : Int} {off : Int} {tgt : Nat} (hd : decode cc pc = .ok (.ifCond .le off, 3)) (htg : (pc : Int) + off = (tgt : Int)) (kt : a ≤ 0 → G E cc own ret d tgt ls st t Q) (kf : ¬ (a ≤ 0) → G E cc own ret d (pc + 3) ls st t Q) : G E cc own ret d pc ls (mI a :: st) t Q := by
  obtain ⟨⟨p, l, e, R, s⟩, ⟨m, args, below, meth, c⟩, ⟨D, cy, ad⟩⟩ := E
  intro hE ht hst hls H locs la hP hS hla
  have ha : inR a := ok_hd hst
  exact lv_if_le hE.1 hE.2.1 hd htg (fun h => kt ((io_le ha inR_0).mp h) hE ht (ok_tl hst) hls H locs la hP hS hla) (fun h => kf (fun q => h ((io_le ha inR_0).mpr q)) hE ht (ok_tl hst) hls H locs la hP hS hla)
theorem G_if_gt {a : Int} {off : Int} {tgt : Nat} (hd : decode cc pc = .ok (.ifCond .gt off, 3)) (htg : (pc : Int) + off = (tgt : Int)) (kt : 0 < a → G E cc own ret d tgt ls st t Q) (kf : ¬ (0 < a) → G E cc own ret d (pc + 3) ls st t Q) : G E cc own ret d pc ls (mI a :: st) t Q := by
  obtain ⟨⟨p, l, e, R, s⟩, ⟨m, args, below, meth, c⟩, ⟨D, cy, ad⟩⟩ := E
  intro hE ht hst hls H locs la hP hS hla
  have ha : inR a := ok_hd hst
  exact lv_if_gt hE.1 hE.2.1 hd htg (fun h => kt ((io_lt inR_0 ha).mp h) hE ht (ok_tl hst) hls H locs la hP hS hla) (fun h => kf (fun q => h ((io_lt inR_0 ha).mpr q)) hE ht (ok_tl hst) hls H locs la hP hS hla)
theorem G_if_ge {a : Int} {off : Int} {tgt : Nat} (hd : decode cc pc = .ok (.ifCond .ge off, 3)) (htg : (pc : Int) + off = (tgt : Int)) (kt : 0 ≤ a → G E cc own ret d tgt ls st t Q) (kf : ¬ (0 ≤ a) → G E cc own ret d (pc + 3) ls st t Q) : G E cc own ret d pc ls (mI a :: st) t Q := by
  obtain ⟨⟨p, l, e, R, s⟩, ⟨m, args, below, meth, c⟩, ⟨D, cy, ad⟩⟩ := E
  intro hE ht hst hls H locs la hP hS hla
  have ha : inR a := ok_hd hst
  exact lv_if_ge hE.1 hE.2.1 hd htg (fun h => kt ((io_le inR_0 ha).mp h) hE ht (ok_tl hst) hls H locs la hP hS hla) (fun h => kf (fun q => h ((io_le inR_0 ha).mpr q)) hE ht (ok_tl hst) hls H locs la hP hS hla)
end RULES
