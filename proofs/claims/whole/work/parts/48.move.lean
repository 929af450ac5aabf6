/-! MOVING A PART: the words, and the class -/
def mnO (c : Int) (o f : Int → Int) : Int := itr (fun (i m : Int) => if f (o i) < m then f (o i) else m) 1 c (f (o 0))
def mxO (c : Int) (o f : Int → Int) : Int := itr (fun (i m : Int) => if m < f (o i) then f (o i) else m) 1 c (f (o 0))
theorem mnO_b {c B : Int} {o f : Int → Int} (hc : 1 ≤ c) (h : ∀ i, 0 ≤ i → i < c → -B ≤ f (o i) ∧ f (o i) ≤ B) {l : Int} (l0 : 1 ≤ l) (l1 : l ≤ c) {m : Int} (hm : -B ≤ m ∧ m ≤ B) : -B ≤ itr (fun (i m : Int) => if f (o i) < m then f (o i) else m) l c m ∧ itr (fun (i m : Int) => if f (o i) < m then f (o i) else m) l c m ≤ B :=
  itr_inv (F := fun (i m : Int) => if f (o i) < m then f (o i) else m) (P := fun m => -B ≤ m ∧ m ≤ B) (l0 := 1) (fun i m i0 i1 hm => by
    have := h i (by omega) i1
    show -B ≤ (if f (o i) < m then f (o i) else m) ∧ (if f (o i) < m then f (o i) else m) ≤ B
    split <;> omega) l l1 m l0 hm
theorem mxO_b {c B : Int} {o f : Int → Int} (hc : 1 ≤ c) (h : ∀ i, 0 ≤ i → i < c → -B ≤ f (o i) ∧ f (o i) ≤ B) {l : Int} (l0 : 1 ≤ l) (l1 : l ≤ c) {m : Int} (hm : -B ≤ m ∧ m ≤ B) : -B ≤ itr (fun (i m : Int) => if m < f (o i) then f (o i) else m) l c m ∧ itr (fun (i m : Int) => if m < f (o i) then f (o i) else m) l c m ≤ B :=
  itr_inv (F := fun (i m : Int) => if m < f (o i) then f (o i) else m) (P := fun m => -B ≤ m ∧ m ≤ B) (l0 := 1) (fun i m i0 i1 hm => by
    have := h i (by omega) i1
    show -B ≤ (if m < f (o i) then f (o i) else m) ∧ (if m < f (o i) then f (o i) else m) ≤ B
    split <;> omega) l l1 m l0 hm
noncomputable def mvS (t : Sto) (i dx ly : Int) : Sto := sv (sv t 18 (onR i (t 26) (fun q => t 18 q + dx) (t 18))) 19 (onR i (t 26) (fun q => t 19 q - ly) (t 19))
theorem mvS_ne (t : Sto) (i dx ly : Int) {w : Nat} (h : w ≠ 18 ∧ w ≠ 19) : mvS t i dx ly w = t w := by
  unfold mvS
  rw [sv_ne h.2, sv_ne h.1]
theorem mvS_at (t : Sto) (i dx ly : Int) : mvS t i dx ly 18 = onR i (t 26) (fun q => t 18 q + dx) (t 18) ∧ mvS t i dx ly 19 = onR i (t 26) (fun q => t 19 q - ly) (t 19) := by
  unfold mvS
  exact ⟨by rw [sv_ne (by decide), sv_at], by rw [sv_at]⟩
theorem mvS_0 (t : Sto) (dx ly : Int) : mvS t 0 dx ly = t := by
  unfold mvS
  rw [onR_0 (Int.le_refl _), onR_0 (Int.le_refl _)]
  have h : ∀ (v : Nat) (u : Sto), u = t → sv u v (t v) = t := fun v u e => by rw [e, sv_id]
  exact h 19 _ (h 18 _ rfl)
theorem onR_new {i c : Int} {o f g : Int → Int} (hi : i < c) (h0 : 0 ≤ i) (hj : ∀ a b, 0 ≤ a → a < c → 0 ≤ b → b < c → o a = o b → a = b) : onR i o f g (o i) = g (o i) := by
  unfold onR
  rw [if_neg]
  rintro ⟨j, j0, j1, j2⟩
  have := hj j i j0 (by omega) h0 hi j2
  omega
theorem mvS_step (t : Sto) {i c dx ly : Int} (hi : i < c) (h0 : 0 ≤ i) (hj : ∀ a b, 0 ≤ a → a < c → 0 ≤ b → b < c → t 26 a = t 26 b → a = b) : su (su (mvS t i dx ly) 18 (t 26 i) (t 18 (t 26 i) + dx)) 19 (t 26 i) (t 19 (t 26 i) - ly) = mvS t (i + 1) dx ly := by
  obtain ⟨a1, a2⟩ := mvS_at t i dx ly
  obtain ⟨b1, b2⟩ := mvS_at t (i + 1) dx ly
  have s1 := onR_step h0 (t 26) (fun q => t 18 q + dx) (t 18)
  have s2 := onR_step h0 (t 26) (fun q => t 19 q - ly) (t 19)
  funext w
  by_cases h2 : w = 19
  · subst h2; rw [su_row, sv_at, su_ne (by decide), a2, b2, s2]
  · rw [su_ne h2]
    by_cases h1 : w = 18
    · subst h1; rw [su_row, sv_at, a1, b1, s1]
    · rw [su_ne h1, mvS_ne t _ _ _ ⟨h1, h2⟩, mvS_ne t _ _ _ ⟨h1, h2⟩]
theorem c_X3_moveBehind (t : Sto) (east : Int) (hc : 1 ≤ t 527 0 ∧ t 527 0 ≤ 24) (ho : ∀ i, 0 ≤ i → i < t 527 0 → 0 ≤ t 26 i ∧ t 26 i < 24) (hj : ∀ a b, 0 ≤ a → a < t 527 0 → 0 ≤ b → b < t 527 0 → t 26 a = t 26 b → a = b) (hv : ∀ i, 0 ≤ i → i < t 527 0 → (-1000 ≤ t 18 (t 26 i) ∧ t 18 (t 26 i) ≤ 1000) ∧ (-1000 ≤ t 19 (t 26 i) ∧ t 19 (t 26 i) ≤ 1000)) (he : 0 ≤ east ∧ east ≤ 100000) : CT yX3_moveBehind cX3_moveBehind 6 (some .int) 1 [mP 5, mI east] t (fun a t' => a = some (mI (mxO (t 527 0) (t 26) (t 18) + east - mnO (t 527 0) (t 26) (t 18))) ∧ t' = mvS t (t 527 0) (east - mnO (t 527 0) (t 26) (t 18)) (mnO (t 527 0) (t 26) (t 19))) := by
  refine CT_of rfl rfl (Nat.le_of_ble_eq_true rfl) (fun E ht has => ?_)
  have v0 := hv 0 (by omega) (by omega)
  have o0 := ho 0 (by omega) (by omega)
  have bx := mnO_b (c := t 527 0) (B := 1000) (o := t 26) (f := t 18) hc.1 (fun i i0 i1 => (hv i i0 i1).1) (l := 1) (by omega) (by omega) v0.1
  have bg := mxO_b (c := t 527 0) (B := 1000) (o := t 26) (f := t 18) hc.1 (fun i i0 i1 => (hv i i0 i1).1) (l := 1) (by omega) (by omega) v0.1
  have bY := mnO_b (c := t 527 0) (B := 1000) (o := t 26) (f := t 19) hc.1 (fun i i0 i1 => (hv i i0 i1).2) (l := 1) (by omega) (by omega) v0.2
  have dX : mnO (t 527 0) (t 26) (t 18) = itr (fun (i m : Int) => if t 18 (t 26 i) < m then t 18 (t 26 i) else m) 1 (t 527 0) (t 18 (t 26 0)) := rfl
  have dG : mxO (t 527 0) (t 26) (t 18) = itr (fun (i m : Int) => if m < t 18 (t 26 i) then t 18 (t 26 i) else m) 1 (t 527 0) (t 18 (t 26 0)) := rfl
  have dY : mnO (t 527 0) (t 26) (t 19) = itr (fun (i m : Int) => if t 19 (t 26 i) < m then t 19 (t 26 i) else m) 1 (t 527 0) (t 19 (t 26 0)) := rfl
  rw [← dX] at bx
  rw [← dG] at bg
  rw [← dY] at bY
  generalize mnO (t 527 0) (t 26) (t 18) = LX at *
  generalize mxO (t 527 0) (t 26) (t 18) = GX at *
  generalize mnO (t 527 0) (t 26) (t 19) = LY at *
  have loop2 : ∀ i, i ≤ t 527 0 → 0 ≤ i → G E cX3_moveBehind RX3 (some .int) 1 116 [some (mP 5), some (mI east), some (mI LX), some (mI LY), some (mI GX), some (mI i)] [] (mvS t i (east - LX) LY) (fun a t' => a = some (mI (GX + east - LX)) ∧ t' = mvS t (t 527 0) (east - LX) LY) := by
    refine up_ind (fun i hi ih h0 => ?_)
    have p1 := mvS_ne t i (east - LX) LY (w := 527) (by decide)
    have p2 := mvS_ne t i (east - LX) LY (w := 26) (by decide)
    obtain ⟨p3, p4⟩ := mvS_at t i (east - LX) LY
    have n1 : i < t 527 0 → mvS t i (east - LX) LY 18 (t 26 i) = t 18 (t 26 i) := fun hlt => by rw [p3, onR_new hlt h0 hj]
    have n2 : i < t 527 0 → mvS t i (east - LX) LY 19 (t 26 i) = t 19 (t 26 i) := fun hlt => by rw [p4, onR_new hlt h0 hj]
    refine G_iload (pc := 116) dX3_moveBehind_116 rfl ?_
    refine G_aload_n (pc := 118) dX3_moveBehind_118 rfl ?_
    refine G_getI (pc := 119) dX3_moveBehind_119 fk_X3_103 rfl rfl rfl ?_
    rw [p1]
    refine G_icmp_ge (pc := 122) (tgt := 171) dX3_moveBehind_122 rfl (fun h_122 => ?_) (fun h_122 => ?_)
    · refine G_iload (pc := 171) dX3_moveBehind_171 rfl ?_
      refine G_iload_n (pc := 173) dX3_moveBehind_173 rfl ?_
      refine G_iadd (pc := 174) dX3_moveBehind_174 (by omega) ?_
      refine G_iload_n (pc := 175) dX3_moveBehind_175 rfl ?_
      refine G_isub (pc := 176) dX3_moveBehind_176 (by omega) ?_
      exact G_ireturn (pc := 177) dX3_moveBehind_177 (qeq' rfl (by rw [show i = t 527 0 by omega]))
    · have hr := ho i h0 (by omega)
      have hvi := hv i h0 (by omega)
      refine G_aload_n (pc := 125) dX3_moveBehind_125 rfl ?_
      refine G_getP (pc := 126) dX3_moveBehind_126 fk_X3_34 rfl rfl rfl ?_
      refine G_getP (pc := 129) dX3_moveBehind_129 fk_X3_114 rfl rfl rfl ?_
      refine G_aload_n (pc := 132) dX3_moveBehind_132 rfl ?_
      refine G_getP (pc := 133) dX3_moveBehind_133 fk_X3_18 rfl rfl rfl ?_
      refine G_iload (pc := 136) dX3_moveBehind_136 rfl ?_
      refine G_iaload (pc := 138) dX3_moveBehind_138 rfl rfl (by omega) ?_
      rw [p2]
      refine G_dup2 (pc := 139) dX3_moveBehind_139 rfl rfl ?_
      refine G_iaload (pc := 140) dX3_moveBehind_140 rfl rfl (by omega) ?_
      rw [n1 (by omega)]
      refine G_iload_n (pc := 141) dX3_moveBehind_141 rfl ?_
      refine G_iload_n (pc := 142) dX3_moveBehind_142 rfl ?_
      refine G_isub (pc := 143) dX3_moveBehind_143 (by omega) ?_
      refine G_iadd (pc := 144) dX3_moveBehind_144 (by omega) ?_
      refine G_iastore (pc := 145) dX3_moveBehind_145 rfl rfl (by omega) ?_
      refine G_aload_n (pc := 146) dX3_moveBehind_146 rfl ?_
      refine G_getP (pc := 147) dX3_moveBehind_147 fk_X3_34 rfl rfl rfl ?_
      refine G_getP (pc := 150) dX3_moveBehind_150 fk_X3_176 rfl rfl rfl ?_
      refine G_aload_n (pc := 153) dX3_moveBehind_153 rfl ?_
      refine G_getP (pc := 154) dX3_moveBehind_154 fk_X3_18 rfl rfl rfl ?_
      refine G_iload (pc := 157) dX3_moveBehind_157 rfl ?_
      refine G_iaload (pc := 159) dX3_moveBehind_159 rfl rfl (by omega) ?_
      try simp (disch := decide) only [su_ne, su_at, su_same, sv_ne, sv_at]
      try rw [p2]
      refine G_dup2 (pc := 160) dX3_moveBehind_160 rfl rfl ?_
      refine G_iaload (pc := 161) dX3_moveBehind_161 rfl rfl (by omega) ?_
      try simp (disch := decide) only [su_ne, su_at, su_same, sv_ne, sv_at]
      try rw [n2 (by omega)]
      refine G_iload_n (pc := 162) dX3_moveBehind_162 rfl ?_
      refine G_isub (pc := 163) dX3_moveBehind_163 (by omega) ?_
      refine G_iastore (pc := 164) dX3_moveBehind_164 rfl rfl (by omega) ?_
      rw [mvS_step t (show i < t 527 0 by omega) h0 hj]
      refine G_iinc (pc := 165) dX3_moveBehind_165 rfl rfl (by omega) ?_
      refine G_goto (pc := 168) (tgt := 116) dX3_moveBehind_168 rfl ?_
      exact ih (by omega) (by omega)
  have loop1 : ∀ i, i ≤ t 527 0 → ∀ a b g : Int, 1 ≤ i → (-1000 ≤ a ∧ a ≤ 1000) → (-1000 ≤ b ∧ b ≤ 1000) → (-1000 ≤ g ∧ g ≤ 1000) → itr (fun (i m : Int) => if t 18 (t 26 i) < m then t 18 (t 26 i) else m) i (t 527 0) a = LX → itr (fun (i m : Int) => if t 19 (t 26 i) < m then t 19 (t 26 i) else m) i (t 527 0) b = LY → itr (fun (i m : Int) => if m < t 18 (t 26 i) then t 18 (t 26 i) else m) i (t 527 0) g = GX → G E cX3_moveBehind RX3 (some .int) 1 36 [some (mP 5), some (mI east), some (mI a), some (mI b), some (mI g), some (mI i)] [] t (fun a t' => a = some (mI (GX + east - LX)) ∧ t' = mvS t (t 527 0) (east - LX) LY) := by
    refine up_ind (fun i hi ih a b g h0 ha hb hg hA hB hG => ?_)
    refine G_iload (pc := 36) dX3_moveBehind_36 rfl ?_
    refine G_aload_n (pc := 38) dX3_moveBehind_38 rfl ?_
    refine G_getI (pc := 39) dX3_moveBehind_39 fk_X3_103 rfl rfl rfl ?_
    refine G_icmp_ge (pc := 42) (tgt := 113) dX3_moveBehind_42 rfl (fun h_42 => ?_) (fun h_42 => ?_)
    · rw [itr_ge (by omega)] at hA hB hG
      subst hA hB hG
      refine G_iconst (pc := 113) dX3_moveBehind_113 (by decide) ?_
      refine G_istore (pc := 114) dX3_moveBehind_114 (Nat.le_of_ble_eq_true rfl) rfl ?_
      have h := loop2 0 (by omega) (by omega)
      rw [mvS_0] at h
      exact h
    · have hr := ho i (by omega) (by omega)
      have hvi := hv i (by omega) (by omega)
      rw [itr_lt (by omega)] at hA hB hG
      refine G_iload_n (pc := 45) dX3_moveBehind_45 rfl ?_
      refine G_aload_n (pc := 46) dX3_moveBehind_46 rfl ?_
      refine G_getP (pc := 47) dX3_moveBehind_47 fk_X3_34 rfl rfl rfl ?_
      refine G_getP (pc := 50) dX3_moveBehind_50 fk_X3_114 rfl rfl rfl ?_
      refine G_aload_n (pc := 53) dX3_moveBehind_53 rfl ?_
      refine G_getP (pc := 54) dX3_moveBehind_54 fk_X3_18 rfl rfl rfl ?_
      refine G_iload (pc := 57) dX3_moveBehind_57 rfl ?_
      refine G_iaload (pc := 59) dX3_moveBehind_59 rfl rfl (by omega) ?_
      refine G_iaload (pc := 60) dX3_moveBehind_60 rfl rfl (by omega) ?_
      refine G_min (pc := 61) dX3_moveBehind_61 ml_X3_180 (by decide) (Nat.le_of_ble_eq_true rfl) ?_
      refine G_istore_n (pc := 64) dX3_moveBehind_64 (Nat.le_of_ble_eq_true rfl) rfl ?_
      refine G_iload (pc := 65) dX3_moveBehind_65 rfl ?_
      refine G_aload_n (pc := 67) dX3_moveBehind_67 rfl ?_
      refine G_getP (pc := 68) dX3_moveBehind_68 fk_X3_34 rfl rfl rfl ?_
      refine G_getP (pc := 71) dX3_moveBehind_71 fk_X3_114 rfl rfl rfl ?_
      refine G_aload_n (pc := 74) dX3_moveBehind_74 rfl ?_
      refine G_getP (pc := 75) dX3_moveBehind_75 fk_X3_18 rfl rfl rfl ?_
      refine G_iload (pc := 78) dX3_moveBehind_78 rfl ?_
      refine G_iaload (pc := 80) dX3_moveBehind_80 rfl rfl (by omega) ?_
      refine G_iaload (pc := 81) dX3_moveBehind_81 rfl rfl (by omega) ?_
      refine G_max (pc := 82) dX3_moveBehind_82 ml_X3_186 (by decide) (Nat.le_of_ble_eq_true rfl) ?_
      refine G_istore (pc := 85) dX3_moveBehind_85 (Nat.le_of_ble_eq_true rfl) rfl ?_
      refine G_iload_n (pc := 87) dX3_moveBehind_87 rfl ?_
      refine G_aload_n (pc := 88) dX3_moveBehind_88 rfl ?_
      refine G_getP (pc := 89) dX3_moveBehind_89 fk_X3_34 rfl rfl rfl ?_
      refine G_getP (pc := 92) dX3_moveBehind_92 fk_X3_176 rfl rfl rfl ?_
      refine G_aload_n (pc := 95) dX3_moveBehind_95 rfl ?_
      refine G_getP (pc := 96) dX3_moveBehind_96 fk_X3_18 rfl rfl rfl ?_
      refine G_iload (pc := 99) dX3_moveBehind_99 rfl ?_
      refine G_iaload (pc := 101) dX3_moveBehind_101 rfl rfl (by omega) ?_
      refine G_iaload (pc := 102) dX3_moveBehind_102 rfl rfl (by omega) ?_
      refine G_min (pc := 103) dX3_moveBehind_103 ml_X3_180 (by decide) (Nat.le_of_ble_eq_true rfl) ?_
      refine G_istore_n (pc := 106) dX3_moveBehind_106 (Nat.le_of_ble_eq_true rfl) rfl ?_
      refine G_iinc (pc := 107) dX3_moveBehind_107 rfl rfl (by omega) ?_
      refine G_goto (pc := 110) (tgt := 36) dX3_moveBehind_110 rfl ?_
      refine ih (by omega) _ _ _ (by omega) ?_ ?_ ?_ hA hB hG
      · split <;> omega
      · split <;> omega
      · split <;> omega
  refine G_aload_n (pc := 0) dX3_moveBehind_0 rfl ?_
  refine G_getP (pc := 1) dX3_moveBehind_1 fk_X3_34 rfl rfl rfl ?_
  refine G_getP (pc := 4) dX3_moveBehind_4 fk_X3_114 rfl rfl rfl ?_
  refine G_aload_n (pc := 7) dX3_moveBehind_7 rfl ?_
  refine G_getP (pc := 8) dX3_moveBehind_8 fk_X3_18 rfl rfl rfl ?_
  refine G_iconst (pc := 11) dX3_moveBehind_11 (by decide) ?_
  refine G_iaload (pc := 12) dX3_moveBehind_12 rfl rfl (by omega) ?_
  refine G_iaload (pc := 13) dX3_moveBehind_13 rfl rfl (by omega) ?_
  refine G_istore_n (pc := 14) dX3_moveBehind_14 (Nat.le_of_ble_eq_true rfl) rfl ?_
  refine G_aload_n (pc := 15) dX3_moveBehind_15 rfl ?_
  refine G_getP (pc := 16) dX3_moveBehind_16 fk_X3_34 rfl rfl rfl ?_
  refine G_getP (pc := 19) dX3_moveBehind_19 fk_X3_176 rfl rfl rfl ?_
  refine G_aload_n (pc := 22) dX3_moveBehind_22 rfl ?_
  refine G_getP (pc := 23) dX3_moveBehind_23 fk_X3_18 rfl rfl rfl ?_
  refine G_iconst (pc := 26) dX3_moveBehind_26 (by decide) ?_
  refine G_iaload (pc := 27) dX3_moveBehind_27 rfl rfl (by omega) ?_
  refine G_iaload (pc := 28) dX3_moveBehind_28 rfl rfl (by omega) ?_
  refine G_istore_n (pc := 29) dX3_moveBehind_29 (Nat.le_of_ble_eq_true rfl) rfl ?_
  refine G_iload_n (pc := 30) dX3_moveBehind_30 rfl ?_
  refine G_istore (pc := 31) dX3_moveBehind_31 (Nat.le_of_ble_eq_true rfl) rfl ?_
  refine G_iconst (pc := 33) dX3_moveBehind_33 (by decide) ?_
  refine G_istore (pc := 34) dX3_moveBehind_34 (Nat.le_of_ble_eq_true rfl) rfl ?_
  exact loop1 1 (by omega) _ _ _ (by omega) v0.1 v0.2 v0.1 dX.symm dY.symm dG.symm
