/-! ALIKE: bits of things seen -/
theorem bit_get (S : Int32) (n : Nat) (hn : n < 10) : ((S >>> (Int32.ofNat n &&& 31)) &&& Int32.ofInt 1 = 1) ↔ S.toBitVec.getLsbD n = true := by
  rw [← Int32.toBitVec_inj, Int32.toBitVec_and, Int32.toBitVec_shiftRight]
  have e1 : (Int32.ofInt 1).toBitVec = 1#32 := rfl
  have e2 : (1 : Int32).toBitVec = 1#32 := rfl
  have e3 : (Int32.ofNat n &&& 31).toBitVec.smod 32 = BitVec.ofNat 32 n := by
    rcases (show n = 0 ∨ n = 1 ∨ n = 2 ∨ n = 3 ∨ n = 4 ∨ n = 5 ∨ n = 6 ∨ n = 7 ∨ n = 8 ∨ n = 9 by omega) with rfl | rfl | rfl | rfl | rfl | rfl | rfl | rfl | rfl | rfl <;> decide
  rw [e1, e2, e3, BitVec.sshiftRight_eq']
  have e4 : (BitVec.ofNat 32 n).toNat = n := by rw [BitVec.toNat_ofNat]; omega
  rw [e4]
  have e5 : ∀ Y : BitVec 32, (Y &&& 1#32 = 1#32) ↔ Y.getLsbD 0 = true := by
    intro Y
    constructor
    · intro h
      have := congrArg (fun z => z.getLsbD 0) h
      simpa using this
    · intro h
      apply BitVec.eq_of_getLsbD_eq
      intro i hi
      rw [BitVec.getLsbD_and, BitVec.getLsbD_one]
      by_cases hi0 : i = 0
      · subst hi0; simp [h]
      · simp [hi0]
  rw [e5, BitVec.getLsbD_sshiftRight]
  simp
  omega
def bitP (s x : Int) : Prop := (Int32.ofInt s).toBitVec.getLsbD x.toNat = true
theorem bit_test {s x : Int} (hx : 0 ≤ x ∧ x ≤ 9) : (Int32.ofInt ((Int32.ofInt s >>> (Int32.ofInt x &&& 31)).toInt) &&& Int32.ofInt 1).toInt = 1 ↔ bitP s x := by
  obtain ⟨n, rfl⟩ : ∃ n : Nat, x = n := ⟨x.toNat, by omega⟩
  rw [Int32.ofInt_toInt, Int32.ofInt_eq_ofNat]
  have h := bit_get (Int32.ofInt s) n (by omega)
  rw [← Int32.toInt_inj] at h
  exact h
theorem bit_zero {x : Int} (hx : 0 ≤ x ∧ x ≤ 9) : ¬ bitP 0 x := by
  unfold bitP
  have e : (Int32.ofInt 0).toBitVec = 0#32 := rfl
  rw [e]
  simp
theorem bit_or {s x y : Int} (hx : 0 ≤ x ∧ x ≤ 9) (hy : 0 ≤ y ∧ y ≤ 9) : bitP ((Int32.ofInt s ||| Int32.ofInt ((Int32.ofInt 1 <<< (Int32.ofInt y &&& 31)).toInt)).toInt) x ↔ bitP s x ∨ x = y := by
  unfold bitP
  rw [Int32.ofInt_toInt, Int32.ofInt_toInt, Int32.toBitVec_or, BitVec.getLsbD_or]
  have e : (Int32.ofInt 1 <<< (Int32.ofInt y &&& 31)).toBitVec.getLsbD x.toNat = decide (x = y) := by
    rcases dir_cases hx with rfl | rfl | rfl | rfl | rfl | rfl | rfl | rfl | rfl | rfl <;> rcases dir_cases hy with rfl | rfl | rfl | rfl | rfl | rfl | rfl | rfl | rfl | rfl <;> decide
  rw [e]
  simp
def alP (re th : Int → Int) (g r : Int) : Prop := re r = g ∧ (th r = -2 ∨ ∃ e, 0 ≤ e ∧ e < r ∧ re e = g ∧ th e = th r)
noncomputable def alikeS (n : Int) (re th : Int → Int) (g : Int) : Int := fst (alP re th g) 0 n
theorem c_X5_firstNotToldApart (t : Sto) (g : Int) (hn : 0 ≤ t 267 0 ∧ t 267 0 ≤ 24) (hth : ∀ r, 0 ≤ r → r < t 267 0 → t 12 r = -2 ∨ (0 ≤ t 12 r ∧ t 12 r ≤ 9)) : CT yX5_firstNotToldApart cX5_firstNotToldApart 4 (some .int) 0 [mP 1, mI g] t (fun a t' => a = some (mI (alikeS (t 267 0) (t 11) (t 12) g)) ∧ t' = t) := by
  refine CT_of rfl rfl (Nat.le_of_ble_eq_true rfl) (fun E ht has => ?_)
  have loop : ∀ r, r ≤ t 267 0 → ∀ s, 0 ≤ r → (∀ e, 0 ≤ e → e < r → t 11 e = g → t 12 e ≠ -2) → (∀ x, 0 ≤ x ∧ x ≤ 9 → (bitP s x ↔ ∃ e, 0 ≤ e ∧ e < r ∧ t 11 e = g ∧ t 12 e = x)) → fst (alP (t 11) (t 12) g) r (t 267 0) = alikeS (t 267 0) (t 11) (t 12) g → G E cX5_firstNotToldApart RX5 (some .int) 0 4 [some (mP 1), some (mI g), some (mI s), some (mI r)] [] t (fun a t' => a = some (mI (alikeS (t 267 0) (t 11) (t 12) g)) ∧ t' = t) := by
    refine up_ind (fun r hr ih s h0 hA hB hX => ?_)
    refine G_iload_n (pc := 4) dX5_firstNotToldApart_4 rfl ?_
    refine G_aload_n (pc := 5) dX5_firstNotToldApart_5 rfl ?_
    refine G_getI (pc := 6) dX5_firstNotToldApart_6 fk_X5_34 rfl rfl rfl ?_
    refine G_icmp_ge (pc := 9) (tgt := 66) dX5_firstNotToldApart_9 rfl (fun h_9 => ?_) (fun h_9 => ?_)
    · refine G_bipush (pc := 66) (x := (-2)) dX5_firstNotToldApart_66 rfl (by decide) ?_
      exact G_ireturn (pc := 68) dX5_firstNotToldApart_68 (qeq (by rw [← hX, fst_ge (by omega)]))
    · refine G_aload_n (pc := 12) dX5_firstNotToldApart_12 rfl ?_
      refine G_getP (pc := 13) dX5_firstNotToldApart_13 fk_X5_15 rfl rfl rfl ?_
      refine G_iload_n (pc := 16) dX5_firstNotToldApart_16 rfl ?_
      refine G_iaload (pc := 17) dX5_firstNotToldApart_17 rfl rfl (by omega) ?_
      refine G_iload_n (pc := 18) dX5_firstNotToldApart_18 rfl ?_
      refine G_icmp_ne (pc := 19) (tgt := 60) dX5_firstNotToldApart_19 rfl (fun h_19 => ?_) (fun h_19 => ?_)
      · have hN : ¬ alP (t 11) (t 12) g r := fun q => h_19 q.1
        refine G_iinc (pc := 60) dX5_firstNotToldApart_60 rfl rfl (by omega) ?_
        refine G_goto (pc := 63) (tgt := 4) dX5_firstNotToldApart_63 rfl ?_
        refine ih (by omega) s (by omega) (fun e h1 h2 h3 => ?_) (fun x hx => ?_) ((fst_neg (by omega) hN).symm.trans hX)
        · by_cases q : e = r
          · rw [q] at h3; exact absurd h3 h_19
          · exact hA e h1 (by omega) h3
        · rw [hB x hx]
          constructor
          · rintro ⟨e, h1, h2, h3, h4⟩; exact ⟨e, h1, by omega, h3, h4⟩
          · rintro ⟨e, h1, h2, h3, h4⟩
            by_cases q : e = r
            · rw [q] at h3; exact absurd h3 h_19
            · exact ⟨e, h1, by omega, h3, h4⟩
        skip
      · refine G_aload_n (pc := 22) dX5_firstNotToldApart_22 rfl ?_
        refine G_getP (pc := 23) dX5_firstNotToldApart_23 fk_X5_18 rfl rfl rfl ?_
        refine G_iload_n (pc := 26) dX5_firstNotToldApart_26 rfl ?_
        refine G_iaload (pc := 27) dX5_firstNotToldApart_27 rfl rfl (by omega) ?_
        refine G_bipush (pc := 28) (x := (-2)) dX5_firstNotToldApart_28 rfl (by decide) ?_
        refine G_icmp_eq (pc := 30) (tgt := 47) dX5_firstNotToldApart_30 rfl (fun h_30 => ?_) (fun h_30 => ?_)
        · have hP : alP (t 11) (t 12) g r := ⟨h_19, Or.inl h_30⟩
          refine G_iload_n (pc := 47) dX5_firstNotToldApart_47 rfl ?_
          exact G_ireturn (pc := 48) dX5_firstNotToldApart_48 (qeq (by rw [← hX, fst_pos (by omega) hP]))
        · have h9 : 0 ≤ t 12 r ∧ t 12 r ≤ 9 := by rcases hth r h0 (by omega) with q | q <;> omega
          refine G_iload_n (pc := 33) dX5_firstNotToldApart_33 rfl ?_
          refine G_aload_n (pc := 34) dX5_firstNotToldApart_34 rfl ?_
          refine G_getP (pc := 35) dX5_firstNotToldApart_35 fk_X5_18 rfl rfl rfl ?_
          refine G_iload_n (pc := 38) dX5_firstNotToldApart_38 rfl ?_
          refine G_iaload (pc := 39) dX5_firstNotToldApart_39 rfl rfl (by omega) ?_
          refine G_ishr (pc := 40) dX5_firstNotToldApart_40 ?_
          refine G_iconst (pc := 41) dX5_firstNotToldApart_41 (by decide) ?_
          refine G_iand (pc := 42) dX5_firstNotToldApart_42 ?_
          refine G_iconst (pc := 43) dX5_firstNotToldApart_43 (by decide) ?_
          refine G_icmp_ne (pc := 44) (tgt := 49) dX5_firstNotToldApart_44 rfl (fun h_44 => ?_) (fun h_44 => ?_)
          · rw [ne_eq, bit_test h9, hB _ h9] at h_44
            refine G_iload_n (pc := 49) dX5_firstNotToldApart_49 rfl ?_
            refine G_iconst (pc := 50) dX5_firstNotToldApart_50 (by decide) ?_
            refine G_aload_n (pc := 51) dX5_firstNotToldApart_51 rfl ?_
            refine G_getP (pc := 52) dX5_firstNotToldApart_52 fk_X5_18 rfl rfl rfl ?_
            refine G_iload_n (pc := 55) dX5_firstNotToldApart_55 rfl ?_
            refine G_iaload (pc := 56) dX5_firstNotToldApart_56 rfl rfl (by omega) ?_
            refine G_ishl (pc := 57) dX5_firstNotToldApart_57 ?_
            refine G_ior (pc := 58) dX5_firstNotToldApart_58 ?_
            refine G_istore_n (pc := 59) dX5_firstNotToldApart_59 (Nat.le_of_ble_eq_true rfl) rfl ?_
            refine G_iinc (pc := 60) dX5_firstNotToldApart_60 rfl rfl (by omega) ?_
            refine G_goto (pc := 63) (tgt := 4) dX5_firstNotToldApart_63 rfl ?_
            have hN : ¬ alP (t 11) (t 12) g r := fun q => q.2.elim (fun z => h_30 z) h_44
            refine ih (by omega) _ (by omega) (fun e h1 h2 h3 => ?_) (fun x hx => ?_) ((fst_neg (by omega) hN).symm.trans hX)
            · by_cases q : e = r
              · rw [q]; exact h_30
              · exact hA e h1 (by omega) h3
            · rw [bit_or hx h9, hB x hx]
              constructor
              · rintro (⟨e, h1, h2, h3, h4⟩ | q)
                · exact ⟨e, h1, by omega, h3, h4⟩
                · exact ⟨r, h0, by omega, h_19, q.symm⟩
              · rintro ⟨e, h1, h2, h3, h4⟩
                by_cases q : e = r
                · rw [q] at h4; exact Or.inr h4.symm
                · exact Or.inl ⟨e, h1, by omega, h3, h4⟩
          · rw [bit_test h9, hB _ h9] at h_44
            have hP : alP (t 11) (t 12) g r := ⟨h_19, Or.inr h_44⟩
            refine G_iload_n (pc := 47) dX5_firstNotToldApart_47 rfl ?_
            exact G_ireturn (pc := 48) dX5_firstNotToldApart_48 (qeq (by rw [← hX, fst_pos (by omega) hP]))
  refine G_iconst (pc := 0) dX5_firstNotToldApart_0 (by decide) ?_
  refine G_istore_n (pc := 1) dX5_firstNotToldApart_1 (Nat.le_of_ble_eq_true rfl) rfl ?_
  refine G_iconst (pc := 2) dX5_firstNotToldApart_2 (by decide) ?_
  refine G_istore_n (pc := 3) dX5_firstNotToldApart_3 (Nat.le_of_ble_eq_true rfl) rfl ?_
  refine loop 0 (by omega) 0 (by omega) (fun e h1 h2 => by omega) (fun x hx => ?_) rfl
  constructor
  · intro h; exact absurd h (bit_zero hx)
  · rintro ⟨e, h1, h2, h3, h4⟩; omega
noncomputable def alikeR (n : Int) (re th : Int → Int) (g : Int) : Int := if 0 ≤ g ∧ g ≤ 9 then alikeS n re th g else -1
theorem c_X8_alike (t : Sto) (g : Int) (hn : 0 ≤ t 267 0 ∧ t 267 0 ≤ 24) (hth : ∀ r, 0 ≤ r → r < t 267 0 → t 12 r = -2 ∨ (0 ≤ t 12 r ∧ t 12 r ≤ 9)) : CT yX8_alike cX8_alike 2 (some .int) 1 [mP 0, mI g] t (fun a t' => a = some (mI (alikeR (t 267 0) (t 11) (t 12) g)) ∧ t' = t) := by
  refine CT_of rfl rfl (Nat.le_of_ble_eq_true rfl) (fun E ht has => ?_)
  refine G_iload_n (pc := 0) dX8_alike_0 rfl ?_
  refine G_cS1 (pc := 1) (c_X8_isKind _ _) dX8_alike_1 ml_X8_57 rfl (by decide) (Nat.le_of_ble_eq_true rfl) ?_
  refine G_if_eq (pc := 4) (tgt := 18) dX8_alike_4 rfl (fun h_4 => ?_) (fun h_4 => ?_)
  · try simp only [bq0, ne_eq, Classical.not_not] at h_4
    refine G_iconst (pc := 18) dX8_alike_18 (by decide) ?_
    exact G_ireturn (pc := 19) dX8_alike_19 (qeq (by unfold alikeR; grind))
  · try simp only [bq0, ne_eq, Classical.not_not] at h_4
    refine G_aload_n (pc := 7) dX8_alike_7 rfl ?_
    refine G_getP (pc := 8) dX8_alike_8 fk_X8_10 rfl rfl rfl ?_
    refine G_iload_n (pc := 11) dX8_alike_11 rfl ?_
    refine G_cV1 (pc := 12) (c_X5_firstNotToldApart _ _ (by omega) (by exact hth)) dX8_alike_12 ml_X8_113 rfl rfl rfl (by decide) (Nat.le_of_ble_eq_true rfl) ?_
    refine G_goto (pc := 15) (tgt := 19) dX8_alike_15 rfl ?_
    exact G_ireturn (pc := 19) dX8_alike_19 (qeq (by unfold alikeR; grind))
theorem c_X9_alike (t : Sto) (g : Int) (hn : 0 ≤ t 2184 0 ∧ t 2184 0 ≤ 24) : CT yX9_alike cX9_alike 5 (some .int) 1 [mP 31, mI g] t (fun a t' => a = some (mI (alikeR (t 2184 0) (t 33) (t 34) g)) ∧ t' = t) := by
  refine CT_of rfl rfl (Nat.le_of_ble_eq_true rfl) (fun E ht has => ?_)
  have inner : ∀ r, 0 ≤ r → r < t 2184 0 → (∀ b : Int, (b = 0 ∨ b = 1) → (b = 1 ↔ (t 34 r = -2 ∨ ∃ e, 0 ≤ e ∧ e < r ∧ t 33 e = g ∧ t 34 e = t 34 r)) → G E cX9_alike RX9 (some .int) 1 104 [some (mP 31), some (mI g), some (mI r), some (mI b), some (mI r)] [] t (fun a t' => a = some (mI (alikeS (t 2184 0) (t 33) (t 34) g)) ∧ t' = t)) →
      ∀ e, e ≤ r → ∀ b : Int, 0 ≤ e → (b = 0 ∨ b = 1) → (b = 1 ↔ (t 34 r = -2 ∨ ∃ e', 0 ≤ e' ∧ e' < e ∧ t 33 e' = g ∧ t 34 e' = t 34 r)) → G E cX9_alike RX9 (some .int) 1 55 [some (mP 31), some (mI g), some (mI r), some (mI b), some (mI e)] [] t (fun a t' => a = some (mI (alikeS (t 2184 0) (t 33) (t 34) g)) ∧ t' = t) := by
    intro r hr0 hrn hend
    refine up_ind (fun e he ih b he0 hb01 hb => ?_)
    refine G_iload (pc := 55) dX9_alike_55 rfl ?_
    refine G_iload_n (pc := 57) dX9_alike_57 rfl ?_
    refine G_icmp_ge (pc := 58) (tgt := 104) dX9_alike_58 rfl (fun h_58 => ?_) (fun h_58 => ?_)
    · have hee : e = r := by omega
      subst hee
      exact hend b hb01 hb
    · refine G_join (pc := 61) (P := fun v => v = @ite Int (b = 1 ∨ (t 33 e = g ∧ t 34 e = t 34 r)) (Classical.propDecidable _) 1 0) 97 (fun v_97 hv_97 => ?_) (fun j_97 => ?_)
      · refine G_istore_n (pc := 97) dX9_alike_97 (Nat.le_of_ble_eq_true rfl) rfl ?_
        refine G_iinc (pc := 98) dX9_alike_98 rfl rfl (by omega) ?_
        refine G_goto (pc := 101) (tgt := 55) dX9_alike_101 rfl ?_
        refine ih (by omega) v_97 (by omega) (by rw [hv_97]; split <;> simp) ?_
        rw [hv_97]
        constructor
        · intro q
          by_cases hq : b = 1 ∨ (t 33 e = g ∧ t 34 e = t 34 r)
          · rcases hq with q1 | q1
            · rcases hb.mp q1 with q2 | ⟨e', h1, h2, h3⟩
              · exact Or.inl q2
              · exact Or.inr ⟨e', h1, by omega, h3⟩
            · exact Or.inr ⟨e, he0, by omega, q1⟩
          · rw [if_neg hq] at q; omega
        · intro q
          rw [if_pos]
          rcases q with q1 | ⟨e', h1, h2, h3⟩
          · exact Or.inl (hb.mpr (Or.inl q1))
          · by_cases hq : e' = e
            · rw [hq] at h3; exact Or.inr h3
            · exact Or.inl (hb.mpr (Or.inr ⟨e', h1, by omega, h3⟩))
      · refine G_iload_n (pc := 61) dX9_alike_61 rfl ?_
        refine G_if_ne (pc := 62) (tgt := 92) dX9_alike_62 rfl (fun h_62 => ?_) (fun h_62 => ?_)
        · try simp only [bq0, ne_eq, Classical.not_not] at h_62
          refine G_iconst (pc := 92) dX9_alike_92 (by decide) ?_
          refine G_goto (pc := 93) (tgt := 97) dX9_alike_93 rfl ?_
          exact j_97 _ (by rcases hb01 with rfl | rfl <;> simp_all)
        · try simp only [bq0, ne_eq, Classical.not_not] at h_62
          refine G_aload_n (pc := 65) dX9_alike_65 rfl ?_
          refine G_getP (pc := 66) dX9_alike_66 fk_X9_13 rfl rfl rfl ?_
          refine G_iload (pc := 69) dX9_alike_69 rfl ?_
          refine G_iaload (pc := 71) dX9_alike_71 rfl rfl (by omega) ?_
          refine G_iload_n (pc := 72) dX9_alike_72 rfl ?_
          refine G_icmp_ne (pc := 73) (tgt := 96) dX9_alike_73 rfl (fun h_73 => ?_) (fun h_73 => ?_)
          · refine G_iconst (pc := 96) dX9_alike_96 (by decide) ?_
            exact j_97 _ (by rcases hb01 with rfl | rfl <;> simp_all)
          · refine G_aload_n (pc := 76) dX9_alike_76 rfl ?_
            refine G_getP (pc := 77) dX9_alike_77 fk_X9_16 rfl rfl rfl ?_
            refine G_iload (pc := 80) dX9_alike_80 rfl ?_
            refine G_iaload (pc := 82) dX9_alike_82 rfl rfl (by omega) ?_
            refine G_aload_n (pc := 83) dX9_alike_83 rfl ?_
            refine G_getP (pc := 84) dX9_alike_84 fk_X9_16 rfl rfl rfl ?_
            refine G_iload_n (pc := 87) dX9_alike_87 rfl ?_
            refine G_iaload (pc := 88) dX9_alike_88 rfl rfl (by omega) ?_
            refine G_icmp_ne (pc := 89) (tgt := 96) dX9_alike_89 rfl (fun h_89 => ?_) (fun h_89 => ?_)
            · refine G_iconst (pc := 96) dX9_alike_96 (by decide) ?_
              exact j_97 _ (by rcases hb01 with rfl | rfl <;> simp_all)
            · refine G_iconst (pc := 92) dX9_alike_92 (by decide) ?_
              refine G_goto (pc := 93) (tgt := 97) dX9_alike_93 rfl ?_
              exact j_97 _ (by rcases hb01 with rfl | rfl <;> simp_all)
  have loop : ∀ r, r ≤ t 2184 0 → ∀ o3 o4 : Option MV, 0 ≤ r → fst (alP (t 33) (t 34) g) r (t 2184 0) = alikeS (t 2184 0) (t 33) (t 34) g → G E cX9_alike RX9 (some .int) 1 14 [some (mP 31), some (mI g), some (mI r), o3, o4] [] t (fun a t' => a = some (mI (alikeS (t 2184 0) (t 33) (t 34) g)) ∧ t' = t) := by
    refine up_ind (fun r hr ih o3 o4 h0 hX => ?_)
    refine G_iload_n (pc := 14) dX9_alike_14 rfl ?_
    refine G_aload_n (pc := 15) dX9_alike_15 rfl ?_
    refine G_getI (pc := 16) dX9_alike_16 fk_X9_86 rfl rfl rfl ?_
    refine G_icmp_ge (pc := 19) (tgt := 116) dX9_alike_19 rfl (fun h_19 => ?_) (fun h_19 => ?_)
    · refine G_bipush (pc := 116) (x := (-2)) dX9_alike_116 rfl (by decide) ?_
      exact G_ireturn (pc := 118) dX9_alike_118 (qeq (by rw [← hX, fst_ge (by omega)]))
    · refine G_aload_n (pc := 22) dX9_alike_22 rfl ?_
      refine G_getP (pc := 23) dX9_alike_23 fk_X9_13 rfl rfl rfl ?_
      refine G_iload_n (pc := 26) dX9_alike_26 rfl ?_
      refine G_iaload (pc := 27) dX9_alike_27 rfl rfl (by omega) ?_
      refine G_iload_n (pc := 28) dX9_alike_28 rfl ?_
      refine G_icmp_eq (pc := 29) (tgt := 35) dX9_alike_29 rfl (fun h_29 => ?_) (fun h_29 => ?_)
      · refine G_join (pc := 35) (P := fun v => v = (if t 34 r = -2 then (1 : Int) else 0)) 51 (fun v_51 hv_51 => ?_) (fun j_51 => ?_)
        · refine G_istore_n (pc := 51) dX9_alike_51 (Nat.le_of_ble_eq_true rfl) rfl ?_
          refine G_iconst (pc := 52) dX9_alike_52 (by decide) ?_
          refine G_istore (pc := 53) dX9_alike_53 (Nat.le_of_ble_eq_true rfl) rfl ?_
          refine inner r h0 (by omega) ?_ 0 (by omega) v_51 (by omega) (by rw [hv_51]; exact bqr) ?_
          · intro b hb01 hb
            refine G_iload_n (pc := 104) dX9_alike_104 rfl ?_
            refine G_if_eq (pc := 105) (tgt := 110) dX9_alike_105 rfl (fun h_105 => ?_) (fun h_105 => ?_)
            · refine G_iinc (pc := 110) dX9_alike_110 rfl rfl (by omega) ?_
              refine G_goto (pc := 113) (tgt := 14) dX9_alike_113 rfl ?_
              exact ih (by omega) _ _ (by omega) ((fst_neg (by omega) (fun q => by have := hb.mpr q.2; omega)).symm.trans hX)
            · refine G_iload_n (pc := 108) dX9_alike_108 rfl ?_
              exact G_ireturn (pc := 109) dX9_alike_109 (qeq (by rw [← hX, fst_pos (by omega) ⟨h_29, hb.mp (by omega)⟩]))
          · rw [hv_51, bq1]
            constructor
            · intro q; exact Or.inl q
            · rintro (q | ⟨e, h1, h2, -⟩)
              · exact q
              · omega
        · refine G_aload_n (pc := 35) dX9_alike_35 rfl ?_
          refine G_getP (pc := 36) dX9_alike_36 fk_X9_16 rfl rfl rfl ?_
          refine G_iload_n (pc := 39) dX9_alike_39 rfl ?_
          refine G_iaload (pc := 40) dX9_alike_40 rfl rfl (by omega) ?_
          refine G_bipush (pc := 41) (x := (-2)) dX9_alike_41 rfl (by decide) ?_
          refine G_icmp_ne (pc := 43) (tgt := 50) dX9_alike_43 rfl (fun h_43 => ?_) (fun h_43 => ?_)
          · refine G_iconst (pc := 50) dX9_alike_50 (by decide) ?_
            exact j_51 _ (by simp_all)
          · refine G_iconst (pc := 46) dX9_alike_46 (by decide) ?_
            refine G_goto (pc := 47) (tgt := 51) dX9_alike_47 rfl ?_
            exact j_51 _ (by simp_all)
      · refine G_goto (pc := 32) (tgt := 110) dX9_alike_32 rfl ?_
        refine G_iinc (pc := 110) dX9_alike_110 rfl rfl (by omega) ?_
        refine G_goto (pc := 113) (tgt := 14) dX9_alike_113 rfl ?_
        exact ih (by omega) _ _ (by omega) ((fst_neg (by omega) (fun q => h_29 q.1)).symm.trans hX)
  refine G_iload_n (pc := 0) dX9_alike_0 rfl ?_
  refine G_iconst (pc := 1) dX9_alike_1 (by decide) ?_
  refine G_bipush (pc := 2) (x := 9) dX9_alike_2 rfl (by decide) ?_
  refine G_cS1 (pc := 4) (c_X9_in _ _ _ _) dX9_alike_4 ml_X9_90 rfl (by decide) (Nat.le_of_ble_eq_true rfl) ?_
  refine G_if_ne (pc := 7) (tgt := 12) dX9_alike_7 rfl (fun h_7 => ?_) (fun h_7 => ?_)
  · try simp only [bq0, ne_eq, Classical.not_not] at h_7
    refine G_iconst (pc := 12) dX9_alike_12 (by decide) ?_
    refine G_istore_n (pc := 13) dX9_alike_13 (Nat.le_of_ble_eq_true rfl) rfl ?_
    unfold alikeR
    rw [if_pos h_7]
    exact loop 0 (by omega) _ _ (by omega) rfl
  · try simp only [bq0, ne_eq, Classical.not_not] at h_7
    refine G_iconst (pc := 10) dX9_alike_10 (by decide) ?_
    exact G_ireturn (pc := 11) dX9_alike_11 (qeq (by unfold alikeR; grind))
