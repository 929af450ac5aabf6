/-! RULES of longs, switches, Math; short forms of calls -/
section RULES4
variable {E : Ev} {cc : ByteArray} {own : String} {ret : Option FieldType} {d pc : Nat} {ls : List (Option MV)} {st : List MV} {t : Sto} {Q : Option MV → Sto → Prop}
theorem jo_toInt {x : Int} (h : inL x) : (Int64.ofInt x).toInt = x := Int64.toInt_ofInt_of_le (by unfold inL at h; omega) (by unfold inL at h; omega)
theorem inL_of {x : Int} (h : inR x) : inL x := ⟨by unfold inR at h; omega, by unfold inR at h; omega⟩
theorem G_i2l {a : Int} (hd : decode cc pc = .ok (.i2l, 1)) (k : G E cc own ret d (pc + 1) ls (mL a :: st) t Q) : G E cc own ret d pc ls (mI a :: st) t Q := by
  obtain ⟨⟨p, l, e, R, s⟩, ⟨m, args, below, meth, c⟩, ⟨D, cy, ad⟩⟩ := E
  intro hE ht hst hls H locs la hP hS hla
  have ha : inR a := ok_hd hst
  have h := k hE ht (ok_cons (v := mL a) (inL_of ha) (ok_tl hst)) hls H locs la hP hS hla
  refine lv_i2l hE.1 hE.2.1 hd ?_ h
  apply Int64.toInt_inj.mp
  rw [Int32.toInt_toInt64, io_toInt ha, jo_toInt (inL_of ha)]
theorem G_lmul {a b : Int} (hd : decode cc pc = .ok (.lmul, 1)) (hr : -9223372036854775808 ≤ a * b ∧ a * b ≤ 9223372036854775807) (k : G E cc own ret d (pc + 1) ls (mL (a * b) :: st) t Q) : G E cc own ret d pc ls (mL b :: mL a :: st) t Q := by
  obtain ⟨⟨p, l, e, R, s⟩, ⟨m, args, below, meth, c⟩, ⟨D, cy, ad⟩⟩ := E
  intro hE ht hst hls H locs la hP hS hla
  have h := k hE ht (ok_cons (v := mL (a * b)) hr (ok_tl (ok_tl hst))) hls H locs la hP hS hla
  simp only [List.map_cons, mval, Int64.ofInt_mul] at h
  exact lv_lmul hE.1 hE.2.1 hd h
theorem G_lsub {a b : Int} (hd : decode cc pc = .ok (.lsub, 1)) (hr : -9223372036854775808 ≤ a - b ∧ a - b ≤ 9223372036854775807) (k : G E cc own ret d (pc + 1) ls (mL (a - b) :: st) t Q) : G E cc own ret d pc ls (mL b :: mL a :: st) t Q := by
  obtain ⟨⟨p, l, e, R, s⟩, ⟨m, args, below, meth, c⟩, ⟨D, cy, ad⟩⟩ := E
  intro hE ht hst hls H locs la hP hS hla
  have h := k hE ht (ok_cons (v := mL (a - b)) hr (ok_tl (ok_tl hst))) hls H locs la hP hS hla
  simp only [List.map_cons, mval, Int64.ofInt_sub] at h
  exact lv_lsub hE.1 hE.2.1 hd h
theorem G_lconst {n : Fin 2} {x : Int} (hd : decode cc pc = .ok (.lconst n, 1)) (hx : Int64.ofNat (n : Nat) = Int64.ofInt x) (hr : -9223372036854775808 ≤ x ∧ x ≤ 9223372036854775807) (k : G E cc own ret d (pc + 1) ls (mL x :: st) t Q) : G E cc own ret d pc ls st t Q := by
  obtain ⟨⟨p, l, e, R, s⟩, ⟨m, args, below, meth, c⟩, ⟨D, cy, ad⟩⟩ := E
  intro hE ht hst hls H locs la hP hS hla
  exact lv_lconst hE.1 hE.2.1 hd hx (k hE ht (ok_cons (v := mL x) hr hst) hls H locs la hP hS hla)
theorem G_ldc2 {n : Nat} {x : Int} (hd : decode cc pc = .ok (.ldc2_w n, 3)) (hw : Cond.constantLong own n (Int64.ofInt x) ∈ gw) (hr : -9223372036854775808 ≤ x ∧ x ≤ 9223372036854775807) (k : G E cc own ret d (pc + 3) ls (mL x :: st) t Q) : G E cc own ret d pc ls st t Q := by
  obtain ⟨⟨p, l, e, R, s⟩, ⟨m, args, below, meth, c⟩, ⟨D, cy, ad⟩⟩ := E
  intro hE ht hst hls H locs la hP hS hla
  exact W.ldc2 hE.1 hE.2.1 hE.2.2.2.2.1 (hE.2.2.2.2.2.1 _ hw) rfl hd (k hE ht (ok_cons (v := mL x) hr hst) hls H locs la hP hS hla)
def lcmpI (a b : Int) : Int := if b < a then 1 else if a = b then 0 else -1
theorem jo_eq {x y : Int} (hx : inL x) (hy : inL y) : Int64.ofInt x = Int64.ofInt y ↔ x = y := by
  constructor
  · intro h
    rw [← jo_toInt hx, ← jo_toInt hy, h]
  · intro h; rw [h]
theorem jo_lt {x y : Int} (hx : inL x) (hy : inL y) : Int64.ofInt x < Int64.ofInt y ↔ x < y := by
  rw [Int64.lt_iff_toInt_lt, jo_toInt hx, jo_toInt hy]
theorem G_lcmp {a b : Int} (hd : decode cc pc = .ok (.lcmp, 1)) (k : G E cc own ret d (pc + 1) ls (mI (lcmpI a b) :: st) t Q) : G E cc own ret d pc ls (mL b :: mL a :: st) t Q := by
  obtain ⟨⟨p, l, e, R, s⟩, ⟨m, args, below, meth, c⟩, ⟨D, cy, ad⟩⟩ := E
  intro hE ht hst hls H locs la hP hS hla
  have ha : inL a := ok_hd (ok_tl hst)
  have hb : inL b := ok_hd hst
  have hr : inR (lcmpI a b) := by
    unfold lcmpI inR
    split
    · omega
    · split <;> omega
  have h := k hE ht (ok_cons (v := mI (lcmpI a b)) hr (ok_tl (ok_tl hst))) hls H locs la hP hS hla
  have e1 : lg_cmp (Int64.ofInt a) (Int64.ofInt b) = Int32.ofInt (lcmpI a b) := by
    unfold lg_cmp lcmpI
    simp only [gt_iff_lt, jo_lt hb ha, jo_eq ha hb]
    split
    · rfl
    · split <;> rfl
  refine W.lcmp hE.1 hE.2.1 hd ?_
  rw [e1]
  exact h
theorem lok.putL {la : Array Slot} {nL : Nat} {ad : Nat → Nat} {ls : List (Option MV)} (h : lok la nL ad ls) {i : Nat} (x : Int) (hi : i + 1 < ls.length) (hb : (i == 0 || notLong ls[i-1]?) = true) {lv : List (Nat × Value)} (hin : ∀ n v, ls[n]? = some (some v) → (n, mval ad v) ∈ lv) {la' : Array Slot} (h' : lv_has la' nL ((i, mval ad (mL x)) :: lv.filter (fun q => !(q.1 == i) && (!(q.1 == i + 1) && !(q.1 + 1 == i && q.2.category == 2))))) : lok la' nL ad ((ls.set i (some (mL x))).set (i + 1) none) := by
  obtain ⟨-, -, hlen, -⟩ := h
  refine ⟨_, h', by simpa using hlen, fun n w hn => ?_⟩
  rw [List.getElem?_set] at hn
  by_cases e1 : i + 1 = n
  · rw [if_pos e1] at hn
    split at hn
    · cases hn
    · cases hn
  · rw [if_neg e1, List.getElem?_set] at hn
    by_cases e : i = n
    · subst e
      have hi2 : i < ls.length := by omega
      simp only [hi2, if_true] at hn
      cases hn
      exact List.mem_cons_self
    · rw [if_neg e] at hn
      refine List.mem_cons_of_mem _ (List.mem_filter.mpr ⟨hin n w hn, ?_⟩)
      simp only [Bool.and_eq_true, Bool.not_eq_true', beq_eq_false_iff_ne, ne_eq, Bool.and_eq_false_iff]
      refine ⟨fun e2 => e e2.symm, fun e2 => e1 e2.symm, ?_⟩
      by_cases e3 : n + 1 = i
      · right
        have hb2 : notLong ls[i-1]? = true := by
          rcases Bool.or_eq_true_iff.mp hb with z | z
          · have : i = 0 := by simpa using z
            omega
          · exact z
        have e4 : i - 1 = n := by omega
        rw [e4, hn] at hb2
        rw [mval_cat hb2]
        decide
      · left
        exact e3
theorem G_lstore {n : Nat} {v : Int} (hd : decode cc pc = .ok (.lstore n, 2)) (hi : n + 1 < ls.length) (hb : (n == 0 || notLong ls[n-1]?) = true) (k : G E cc own ret d (pc + 2) ((ls.set n (some (mL v))).set (n + 1) none) st t Q) : G E cc own ret d pc ls (mL v :: st) t Q := by
  obtain ⟨⟨p, l, e, R, s⟩, ⟨m, args, below, meth, c⟩, ⟨D, cy, ad⟩⟩ := E
  intro hE ht hst hls H locs la hP hS hla
  obtain ⟨lv, h1, h2, h3⟩ := id hla
  refine lv_lstore hE.1 hE.2.1 hd h1 (Nat.lt_of_lt_of_le hi h2) rfl (fun la' h' => k hE ht (ok_tl hst) ?_ H locs la' hP hS (hla.putL v hi hb h3 h'))
  intro w hw
  rcases List.mem_or_eq_of_mem_set hw with e | e
  · exact ok_set hls (ok_hd hst) w e
  · cases e
theorem G_tableAt {dflt lo hi x off : Int} {offs : Array Int} {len tgt : Nat} (hd : decode cc pc = .ok (.tableswitch dflt lo hi offs, len)) (h1 : lo ≤ x ∧ x ≤ hi) (ho : offs[(x - lo).toNat]? = some off) (htg : (pc : Int) + off = (tgt : Int)) (k : G E cc own ret d tgt ls st t Q) : G E cc own ret d pc ls (mI x :: st) t Q := by
  obtain ⟨⟨p, l, e, R, s⟩, ⟨m, args, below, meth, c⟩, ⟨D, cy, ad⟩⟩ := E
  intro hE ht hst hls H locs la hP hS hla
  have ha : inR x := ok_hd hst
  exact lv_tableIn hE.1 hE.2.1 hd (by rw [io_toInt ha]; omega) (by rw [io_toInt ha]; omega) (by rw [io_toInt ha]; exact ho) htg (k hE ht (ok_tl hst) hls H locs la hP hS hla)
theorem G_tableOut {dflt lo hi x : Int} {offs : Array Int} {len tgt : Nat} (hd : decode cc pc = .ok (.tableswitch dflt lo hi offs, len)) (h1 : x < lo ∨ hi < x) (htg : (pc : Int) + dflt = (tgt : Int)) (k : G E cc own ret d tgt ls st t Q) : G E cc own ret d pc ls (mI x :: st) t Q := by
  obtain ⟨⟨p, l, e, R, s⟩, ⟨m, args, below, meth, c⟩, ⟨D, cy, ad⟩⟩ := E
  intro hE ht hst hls H locs la hP hS hla
  have ha : inR x := ok_hd hst
  exact lv_tableOut hE.1 hE.2.1 hd (by rw [io_toInt ha]; exact h1) htg (k hE ht (ok_tl hst) hls H locs la hP hS hla)
theorem G_lookup {dflt x off : Int} {ps : Array (Int × Int)} {len tgt : Nat} (hd : decode cc pc = .ok (.lookupswitch dflt ps, len)) (hp : (ps.toList.zip (ps.toList.drop 1)).all (fun (a, next) => a.1 < next.1) = true) (ho : Op.lookupswitch.offset ps.toList dflt x = off) (htg : (pc : Int) + off = (tgt : Int)) (k : G E cc own ret d tgt ls st t Q) : G E cc own ret d pc ls (mI x :: st) t Q := by
  obtain ⟨⟨p, l, e, R, s⟩, ⟨m, args, below, meth, c⟩, ⟨D, cy, ad⟩⟩ := E
  intro hE ht hst hls H locs la hP hS hla
  have ha : inR x := ok_hd hst
  exact lv_lookup hE.1 hE.2.1 hd hp (by rw [io_toInt ha]; exact ho) htg (k hE ht (ok_tl hst) hls H locs la hP hS hla)
def MthL (own : String) (idx : Nat) (y : MethodName) (cc : ByteArray) (nL : Nat) : Prop := Cond.methodLink own idx y ∈ gw ∧ Cond.static y ∈ gw ∧ Cond.initialized "java/lang/Math" ∈ gw ∧ Cond.code y cc nL (some .int) ∈ gw
theorem rest_le {ad : Nat → Nat} {rest : List MV} (h : (rest.map catS).sum ≤ 8) {d : Nat} {R : Room} (hd : 1 ≤ d) (hR : 64 * d ≤ R.locals) : ((rest.map (mval ad)).map fun v => v.category).sum + 13 ≤ R.locals := by
  rw [cat_sum]; omega
theorem G_min {a b : Int} {idx : Nat} (hd : decode cc pc = .ok (.invokestatic idx, 3)) (hl : MthL own idx Lib.Math.min.name Lib.Math.min.code 2) (hdep : 1 ≤ d) (hcat : (st.map catS).sum ≤ 8) (k : G E cc own ret d (pc + 3) ls (mI (if b < a then b else a) :: st) t Q) : G E cc own ret d pc ls (mI b :: mI a :: st) t Q := by
  obtain ⟨⟨p, l, e, R, s⟩, ⟨m, args, below, meth, c⟩, ⟨D, cy, ad⟩⟩ := E
  intro hE ht hst hls H locs la hP hS hla
  obtain ⟨hx, hb, hret, hlk, hown, hts, hap, hK, hfr, hlo⟩ := id hE
  have ha : inR a := ok_hd (ok_tl hst)
  have hb2 : inR b := ok_hd hst
  have hr : okV (mI (if b < a then b else a)) := by
    show inR _
    split
    · exact hb2
    · exact ha
  have h := k hE ht (ok_cons hr (ok_tl (ok_tl hst))) hls H locs la hP hS hla
  refine va_mmin hx hb hla.size.symm hown (hts _ hl.1) (hts _ hl.2.1) (hts _ hl.2.2.1) (hts _ hl.2.2.2) (Nat.le_trans hdep hfr) (rest_le hcat hdep hlo) (Nat.zero_le _) (Nat.zero_le _) hd ?_
  rw [show (if Int32.ofInt b < Int32.ofInt a then Int32.ofInt b else Int32.ofInt a) = Int32.ofInt (if b < a then b else a) by simp only [io_lt hb2 ha]; split <;> rfl]
  exact h
theorem G_max {a b : Int} {idx : Nat} (hd : decode cc pc = .ok (.invokestatic idx, 3)) (hl : MthL own idx Lib.Math.max.name Lib.Math.max.code 2) (hdep : 1 ≤ d) (hcat : (st.map catS).sum ≤ 8) (k : G E cc own ret d (pc + 3) ls (mI (if a < b then b else a) :: st) t Q) : G E cc own ret d pc ls (mI b :: mI a :: st) t Q := by
  obtain ⟨⟨p, l, e, R, s⟩, ⟨m, args, below, meth, c⟩, ⟨D, cy, ad⟩⟩ := E
  intro hE ht hst hls H locs la hP hS hla
  obtain ⟨hx, hb, hret, hlk, hown, hts, hap, hK, hfr, hlo⟩ := id hE
  have ha : inR a := ok_hd (ok_tl hst)
  have hb2 : inR b := ok_hd hst
  have hr : okV (mI (if a < b then b else a)) := by
    show inR _
    split
    · exact hb2
    · exact ha
  have h := k hE ht (ok_cons hr (ok_tl (ok_tl hst))) hls H locs la hP hS hla
  refine va_mmax hx hb hla.size.symm hown (hts _ hl.1) (hts _ hl.2.1) (hts _ hl.2.2.1) (hts _ hl.2.2.2) (Nat.le_trans hdep hfr) (rest_le hcat hdep hlo) (Nat.zero_le _) (Nat.zero_le _) hd ?_
  rw [show (if Int32.ofInt a < Int32.ofInt b then Int32.ofInt b else Int32.ofInt a) = Int32.ofInt (if a < b then b else a) by simp only [io_lt ha hb2]; split <;> rfl]
  exact h
theorem G_abs {a : Int} {idx : Nat} (hd : decode cc pc = .ok (.invokestatic idx, 3)) (hl : MthL own idx Lib.Math.abs.name Lib.Math.abs.code 1) (hdep : 1 ≤ d) (hcat : (st.map catS).sum ≤ 8) (hr : -2147483647 ≤ a) (k : G E cc own ret d (pc + 3) ls (mI (if 0 ≤ a then a else -a) :: st) t Q) : G E cc own ret d pc ls (mI a :: st) t Q := by
  obtain ⟨⟨p, l, e, R, s⟩, ⟨m, args, below, meth, c⟩, ⟨D, cy, ad⟩⟩ := E
  intro hE ht hst hls H locs la hP hS hla
  obtain ⟨hx, hb, hret, hlk, hown, hts, hap, hK, hfr, hlo⟩ := id hE
  have ha : inR a := ok_hd hst
  have hr : okV (mI (if 0 ≤ a then a else -a)) := by
    show inR _
    unfold inR at *
    split <;> omega
  have h := k hE ht (ok_cons hr (ok_tl hst)) hls H locs la hP hS hla
  refine va_mabs hx hb hla.size.symm hown (hts _ hl.1) (hts _ hl.2.1) (hts _ hl.2.2.1) (hts _ hl.2.2.2) (Nat.le_trans hdep hfr) (rest_le hcat hdep hlo) (Nat.zero_le _) (Nat.zero_le _) hd ?_
  rw [show (if 0 ≤ Int32.ofInt a then Int32.ofInt a else 0 - Int32.ofInt a) = Int32.ofInt (if 0 ≤ a then a else -a) by
    simp only [show ((0 : Int32) ≤ Int32.ofInt a) ↔ 0 ≤ a from io_le inR_0 ha]
    split
    · rfl
    · rw [Int32.ofInt_neg, Int32.zero_sub]]
  exact h
/-- a call whose answer and store are told outright -/
theorem G_callV' {y : MethodName} {cc' : ByteArray} {nL' : Nat} {ret' : Option FieldType} {d' idx q : Nat} {as rest : List MV} {r : Option MV} {t' : Sto} (hct : CT y cc' nL' ret' d' (mP q :: as) t (fun r1 t1 => r1 = r ∧ t1 = t')) (hd : decode cc pc = .ok (.invokevirtual idx, 3)) (hl : MLV own idx y (ocS q) cc' nL' ret' as.length) (hq : (decide (q < NP)) = true) (ha : arS q = none) (hst : st = as.reverse ++ mP q :: rest) (hdep : d' + 1 ≤ d) (hcat : (rest.map catS).sum ≤ 8)
    (k : G E cc own ret d (pc + 3) ls (r.toList ++ rest) t' Q) : G E cc own ret d pc ls st t Q :=
  G_callV hct hd hl hq ha hst hdep hcat (fun r1 t1 h => by rw [h.1, h.2]; exact k)
theorem G_callS' {y : MethodName} {cc' : ByteArray} {nL' : Nat} {ret' : Option FieldType} {d' idx : Nat} {as rest : List MV} {r : Option MV} {t' : Sto} (hct : CT y cc' nL' ret' d' as t (fun r1 t1 => r1 = r ∧ t1 = t')) (hd : decode cc pc = .ok (.invokestatic idx, 3)) (hl : MLS own idx y cc' nL' ret' as.length) (hst : st = as.reverse ++ rest) (hdep : d' + 1 ≤ d) (hcat : (rest.map catS).sum ≤ 8)
    (k : G E cc own ret d (pc + 3) ls (r.toList ++ rest) t' Q) : G E cc own ret d pc ls st t Q :=
  G_callS hct hd hl hst hdep hcat (fun r1 t1 h => by rw [h.1, h.2]; exact k)
end RULES4
section RULES5
variable {E : Ev} {cc : ByteArray} {own : String} {ret : Option FieldType} {d pc : Nat} {ls : List (Option MV)} {st : List MV} {t : Sto} {Q : Option MV → Sto → Prop}
theorem qeq {x y : Int} {t : Sto} (h : x = y) : some (mI x) = some (mI y) ∧ t = t := ⟨by rw [h], rfl⟩
theorem qeq' {x y : Int} {t t' : Sto} (h : x = y) (ht : t = t') : some (mI x) = some (mI y) ∧ t = t' := ⟨by rw [h], ht⟩
theorem G_join {P : Int → Prop} (J : Nat) (k : ∀ v, P v → G E cc own ret d J ls (mI v :: st) t Q) (h : (∀ v, P v → G E cc own ret d J ls (mI v :: st) t Q) → G E cc own ret d pc ls st t Q) : G E cc own ret d pc ls st t Q := h k
/-- a contract whose answer is an int -/
theorem G_cV1 {y : MethodName} {cc' : ByteArray} {nL' : Nat} {ret' : Option FieldType} {d' idx q : Nat} {as rest : List MV} {x : Int} {t' : Sto} (hct : CT y cc' nL' ret' d' (mP q :: as) t (fun r1 t1 => r1 = some (mI x) ∧ t1 = t')) (hd : decode cc pc = .ok (.invokevirtual idx, 3)) (hl : MLV own idx y (ocS q) cc' nL' ret' as.length) (hq : (decide (q < NP)) = true) (ha : arS q = none) (hst : st = as.reverse ++ mP q :: rest) (hdep : d' + 1 ≤ d) (hcat : (rest.map catS).sum ≤ 8)
    (k : G E cc own ret d (pc + 3) ls (mI x :: rest) t' Q) : G E cc own ret d pc ls st t Q :=
  G_callV hct hd hl hq ha hst hdep hcat (fun r1 t1 h => by rw [h.1, h.2]; exact k)
theorem G_cV0 {y : MethodName} {cc' : ByteArray} {nL' : Nat} {ret' : Option FieldType} {d' idx q : Nat} {as rest : List MV} {t' : Sto} (hct : CT y cc' nL' ret' d' (mP q :: as) t (fun r1 t1 => r1 = none ∧ t1 = t')) (hd : decode cc pc = .ok (.invokevirtual idx, 3)) (hl : MLV own idx y (ocS q) cc' nL' ret' as.length) (hq : (decide (q < NP)) = true) (ha : arS q = none) (hst : st = as.reverse ++ mP q :: rest) (hdep : d' + 1 ≤ d) (hcat : (rest.map catS).sum ≤ 8)
    (k : G E cc own ret d (pc + 3) ls rest t' Q) : G E cc own ret d pc ls st t Q :=
  G_callV hct hd hl hq ha hst hdep hcat (fun r1 t1 h => by rw [h.1, h.2]; exact k)
theorem G_cS1 {y : MethodName} {cc' : ByteArray} {nL' : Nat} {ret' : Option FieldType} {d' idx : Nat} {as rest : List MV} {x : Int} {t' : Sto} (hct : CT y cc' nL' ret' d' as t (fun r1 t1 => r1 = some (mI x) ∧ t1 = t')) (hd : decode cc pc = .ok (.invokestatic idx, 3)) (hl : MLS own idx y cc' nL' ret' as.length) (hst : st = as.reverse ++ rest) (hdep : d' + 1 ≤ d) (hcat : (rest.map catS).sum ≤ 8)
    (k : G E cc own ret d (pc + 3) ls (mI x :: rest) t' Q) : G E cc own ret d pc ls st t Q :=
  G_callS hct hd hl hst hdep hcat (fun r1 t1 h => by rw [h.1, h.2]; exact k)
/-- a contract whose answer is an int, told by a claim on answer and store -/
theorem G_cVg1 {y : MethodName} {cc' : ByteArray} {nL' : Nat} {ret' : Option FieldType} {d' idx q : Nat} {as rest : List MV} {Z : Int → Sto → Prop} (hct : CT y cc' nL' ret' d' (mP q :: as) t (fun r1 t1 => ∃ x, r1 = some (mI x) ∧ Z x t1)) (hd : decode cc pc = .ok (.invokevirtual idx, 3)) (hl : MLV own idx y (ocS q) cc' nL' ret' as.length) (hq : (decide (q < NP)) = true) (ha : arS q = none) (hst : st = as.reverse ++ mP q :: rest) (hdep : d' + 1 ≤ d) (hcat : (rest.map catS).sum ≤ 8)
    (k : ∀ x t', Z x t' → G E cc own ret d (pc + 3) ls (mI x :: rest) t' Q) : G E cc own ret d pc ls st t Q :=
  G_callV hct hd hl hq ha hst hdep hcat (fun r1 t1 h => by obtain ⟨x, h1, h2⟩ := h; rw [h1]; exact k x t1 h2)
theorem G_cVg0 {y : MethodName} {cc' : ByteArray} {nL' : Nat} {ret' : Option FieldType} {d' idx q : Nat} {as rest : List MV} {Z : Sto → Prop} (hct : CT y cc' nL' ret' d' (mP q :: as) t (fun r1 t1 => r1 = none ∧ Z t1)) (hd : decode cc pc = .ok (.invokevirtual idx, 3)) (hl : MLV own idx y (ocS q) cc' nL' ret' as.length) (hq : (decide (q < NP)) = true) (ha : arS q = none) (hst : st = as.reverse ++ mP q :: rest) (hdep : d' + 1 ≤ d) (hcat : (rest.map catS).sum ≤ 8)
    (k : ∀ t', Z t' → G E cc own ret d (pc + 3) ls rest t' Q) : G E cc own ret d pc ls st t Q :=
  G_callV hct hd hl hq ha hst hdep hcat (fun r1 t1 h => by rw [h.1]; exact k t1 h.2)
end RULES5
