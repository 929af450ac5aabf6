/-! CHANCES: the words, and the class -/
def othE (fr to : Int → Int) (r l : Int) : Int := if fr l = r then to l else fr l
def sgE (fr : Int → Int) (r l : Int) : Int := if fr l = r then -1 else 1
def chX (fr di to xs : Int → Int) (r m : Int) : Int := xs (othE fr to r (m / 3)) + sgE fr r (m / 3) * (m % 3 + 1) * eaI (di (m / 3))
def chY (fr di to ys : Int → Int) (r m : Int) : Int := ys (othE fr to r (m / 3)) + sgE fr r (m / 3) * (m % 3 + 1) * soI (di (m / 3))
def chL (fr di to ls : Int → Int) (r m : Int) : Int := ls (othE fr to r (m / 3)) + sgE fr r (m / 3) * (m % 3 + 1) * riI (di (m / 3))
/-- m is a chance of r: link m / 3, distance m % 3 + 1 -/
def candM (n : Int) (fr di to ps xs ys ls : Int → Int) (r m : Int) : Prop := (incP fr to r (m / 3) ∧ ps (othE fr to r (m / 3)) ≠ 0 ∧ (di (m / 3) < 8 ∨ m % 3 = 0)) ∧ atS n ps xs ys ls (chX fr di to xs r m) (chY fr di to ys r m) (chL fr di to ls r m) < 0
noncomputable def firstM (n k : Int) (fr di to ps xs ys ls : Int → Int) (r : Int) : Int := fst (candM n fr di to ps xs ys ls r) 0 (3 * k)
def nbP (fr to ps : Int → Int) (r l : Int) : Prop := incP fr to r l ∧ ps (othE fr to r l) ≠ 0
/-- the first placed room that a link joins with r; -2 -/
noncomputable def nbS (k : Int) (fr to ps : Int → Int) (r : Int) : Int := if fst (nbP fr to ps r) 0 k < 0 then -2 else othE fr to r (fst (nbP fr to ps r) 0 k)
/-- the i-th link of a room in the order of the ties, spread over three distances -/
def muT (F L : Int → Int) (r c : Int) : Int := 3 * L (F r + c / 3) + c % 3
theorem mu_ok {n k : Int} {fr to F L : Int → Int} (hT : TIf n k fr to F L) {r : Int} (h0 : 0 ≤ r) (h1 : r < n) : (∀ c, 0 ≤ c → c < 3 * (F (r + 1) - F r) → (0 ≤ muT F L r c ∧ muT F L r c < 3 * k) ∧ muT F L r c / 3 = L (F r + c / 3) ∧ muT F L r c % 3 = c % 3 ∧ incP fr to r (muT F L r c / 3)) ∧ (∀ c c', 0 ≤ c → c < c' → c' < 3 * (F (r + 1) - F r) → muT F L r c < muT F L r c') ∧ (∀ m, 0 ≤ m → m < 3 * k → incP fr to r (m / 3) → ∃ c, 0 ≤ c ∧ c < 3 * (F (r + 1) - F r) ∧ muT F L r c = m) := by
  obtain ⟨hF, hs1, hs2, hs3⟩ := hT r h0 h1
  unfold muT
  refine ⟨fun c c0 c1 => ?_, fun c c' c0 c1 c2 => ?_, fun m m0 m1 hm => ?_⟩
  · have h := hs1 (F r + c / 3) (by omega) (by omega)
    have e : (3 * L (F r + c / 3) + c % 3) / 3 = L (F r + c / 3) := by omega
    rw [e]
    exact ⟨by omega, rfl, by omega, h.2⟩
  · by_cases e : c / 3 = c' / 3
    · rw [e]; omega
    · have := hs2 (F r + c / 3) (F r + c' / 3) (by omega) (by omega) (by omega)
      omega
  · obtain ⟨i, i1, i2, i3⟩ := hs3 (m / 3) (by omega) (by omega) hm
    refine ⟨3 * (i - F r) + m % 3, by omega, by omega, ?_⟩
    rw [show (3 * (i - F r) + m % 3) / 3 = i - F r by omega, show F r + (i - F r) = i by omega, i3]
    omega
theorem fst_mu {P : Int → Prop} {μ : Int → Int} {B K : Int} (hm : ∀ c, 0 ≤ c → c < B → 0 ≤ μ c ∧ μ c < K) (hinc : ∀ c c', 0 ≤ c → c < c' → c' < B → μ c < μ c') (hcov : ∀ m, 0 ≤ m → m < K → P m → ∃ c, 0 ≤ c ∧ c < B ∧ μ c = m) : (0 ≤ fst (fun c => P (μ c)) 0 B → fst P 0 K = μ (fst (fun c => P (μ c)) 0 B)) ∧ (fst (fun c => P (μ c)) 0 B < 0 → fst P 0 K = -2) := by
  rcases fst_spec (fun c => P (μ c)) 0 B with ⟨a, b⟩ | ⟨a, b, c, e⟩
  · refine ⟨fun h => by omega, fun _ => fst_none (fun m m0 m1 hP => ?_)⟩
    obtain ⟨c, c0, c1, c2⟩ := hcov m m0 m1 hP
    exact b c c0 c1 (by show P (μ c); rw [c2]; exact hP)
  · refine ⟨fun _ => ?_, fun h => by omega⟩
    have h1 := hm _ a b
    rcases fst_spec P 0 K with ⟨a', b'⟩ | ⟨a', b', c', e'⟩
    · exact absurd c (b' _ h1.1 h1.2)
    · obtain ⟨d, d0, d1, d2⟩ := hcov _ a' b' c'
      rcases Int.lt_trichotomy d (fst (fun c => P (μ c)) 0 B) with q | q | q
      · exact absurd (by show P (μ d); rw [d2]; exact c') (e d d0 q)
      · rw [← q, d2]
      · have h2 := hinc _ d a q d1
        rw [d2] at h2
        exact absurd c (e' _ h1.1 h2)
theorem itr_mu {α : Type} {F : Int → α → α} {μ : Int → Int} {B K : Int} (hm : ∀ c, 0 ≤ c → c < B → 0 ≤ μ c ∧ μ c < K) (hinc : ∀ c c', 0 ≤ c → c < c' → c' < B → μ c < μ c') (hB : 0 ≤ B) (hskip : ∀ m, 0 ≤ m → m < K → (∀ c, 0 ≤ c → c < B → μ c ≠ m) → ∀ a, F m a = a) : ∀ lo, lo ≤ K → ∀ c a, 0 ≤ lo → 0 ≤ c → c ≤ B → (∀ d, 0 ≤ d → d < c → μ d < lo) → (∀ d, c ≤ d → d < B → lo ≤ μ d) → itr F lo K a = itr (fun c => F (μ c)) c B a := by
  refine up_ind (fun lo hlo ih c a h0 hc0 hcB h1 h2 => ?_)
  rcases Int.lt_or_le lo K with h | h
  · rw [itr_lt h]
    by_cases hc : c < B ∧ μ c = lo
    · rw [itr_lt hc.1]
      rw [hc.2]
      exact ih h (c + 1) _ (by omega) (by omega) (by omega) (fun d d0 d1 => by
        by_cases e : d = c
        · rw [e, hc.2]; omega
        · have := h1 d d0 (by omega); omega) (fun d d0 d1 => by
        have := hinc c d hc0 (by omega) d1
        omega)
    · rw [hskip lo h0 h (fun d d0 d1 e => by
        rcases Int.lt_or_le d c with q | q
        · have := h1 d d0 q; omega
        · by_cases e2 : d = c
          · subst e2; exact hc ⟨d1, e⟩
          · have := hinc c d hc0 (by omega) d1
            have := h2 c (Int.le_refl _) (by omega)
            omega) a]
      exact ih h c a (by omega) hc0 hcB (fun d d0 d1 => by have := h1 d d0 d1; omega) (fun d d0 d1 => by
        have h3 := h2 d d0 d1
        by_cases e2 : μ d = lo
        · by_cases e3 : d = c
          · subst e3; exact absurd ⟨d1, e2⟩ hc
          · have := hinc c d hc0 (by omega) d1
            have := h2 c (Int.le_refl _) (by omega)
            omega
        · omega)
  · rw [itr_ge h]
    have : c = B := by
      rcases Int.lt_or_le c B with q | q
      · have := h2 c (Int.le_refl _) q
        have := hm c hc0 q
        omega
      · omega
    subst this
    rw [itr_ge (Int.le_refl _)]
def pos3 (t : Sto) (a b c : Int) : Sto := su (su (su t 650 0 a) 651 0 b) 652 0 c
theorem pos3_ne (t : Sto) (a b c : Int) {w : Nat} (h : w ≠ 650 ∧ w ≠ 651 ∧ w ≠ 652) : pos3 t a b c w = t w := by
  unfold pos3
  rw [su_ne h.2.2, su_ne h.2.1, su_ne h.1]
theorem pos3_at (t : Sto) (a b c : Int) : pos3 t a b c 650 0 = a ∧ pos3 t a b c 651 0 = b ∧ pos3 t a b c 652 0 = c := by
  unfold pos3
  refine ⟨?_, ?_, ?_⟩
  · rw [su_ne (by decide), su_ne (by decide), su_at]
  · rw [su_ne (by decide), su_at]
  · rw [su_at]
theorem pos3_id (t : Sto) : pos3 t (t 650 0) (t 651 0) (t 652 0) = t := by
  unfold pos3
  rw [su_id]
  have e : ∀ (u : Sto), u = t → su (su u 651 0 (t 651 0)) 652 0 (t 652 0) = t := fun u hu => by rw [hu, su_id, su_id]
  exact e t rfl
theorem pos3_pos3 (t : Sto) (a b c a' b' c' : Int) : pos3 (pos3 t a b c) a' b' c' = pos3 t a' b' c' := by
  unfold pos3
  funext w j
  unfold su
  by_cases h1 : w = 650
  · subst h1; by_cases hj : j = 0 <;> simp [hj]
  · by_cases h2 : w = 651
    · subst h2; by_cases hj : j = 0 <;> simp [hj]
    · by_cases h3 : w = 652
      · subst h3; by_cases hj : j = 0 <;> simp [hj]
      · simp [h1, h2, h3]
abbrev TIC (t : Sto) : Prop := TIf (t 267 0) (t 272 0) (t 13) (t 15) (t 28) (t 29)
theorem mul3_r {s e B : Int} (he : e = -1 ∨ e = 0 ∨ e = 1) (hs : -B ≤ s ∧ s ≤ B) : -B ≤ s * e ∧ s * e ≤ B := mul_r he hs
set_option maxHeartbeats 1000000 in
theorem c_X0_lookAtChance_3 (t : Sto) (r c : Int) (hS : SC t) (hT : TIC t) (hr : 0 ≤ r ∧ r < t 267 0) (hc : 0 ≤ c ∧ c < 3 * (t 28 (r + 1) - t 28 r)) (hX : BD (t 18)) (hY : BD (t 19)) (hL : BD (t 20)) : CT yX0_lookAtChance cX0_lookAtChance 9 (some .boolean) 1 [mP 7, mP 3, mI r, mI c] t (fun a t' => ∃ x, a = some (mI x) ∧ ((x = 0 ∨ x = 1) ∧ (x = 1 ↔ candM (t 267 0) (t 13) (t 14) (t 15) (t 21) (t 18) (t 19) (t 20) r (muT (t 28) (t 29) r c)) ∧ ∃ px py pl, t' = pos3 t px py pl ∧ (x = 1 → px = chX (t 13) (t 14) (t 15) (t 18) r (muT (t 28) (t 29) r c) ∧ py = chY (t 13) (t 14) (t 15) (t 19) r (muT (t 28) (t 29) r c) ∧ pl = chL (t 13) (t 14) (t 15) (t 20) r (muT (t 28) (t 29) r c)))) := by
  refine CT_of rfl rfl (Nat.le_of_ble_eq_true rfl) (fun E ht has => ?_)
  have hb := hS.1
  have hseg := hT r hr.1 hr.2
  obtain ⟨hm1, hm2, hm3, hm4⟩ := (mu_ok hT hr.1 hr.2).1 c hc.1 hc.2
  have hl9 := hseg.2.1 (t 28 r + c / 3) (by omega) (by omega)
  have ediv : c.tdiv 3 = c / 3 := Int.tdiv_eq_ediv_of_nonneg hc.1
  have emod : c.tmod 3 = c % 3 := Int.tmod_eq_emod_of_nonneg hc.1
  generalize hmm : muT (t 28) (t 29) r c = m at *
  rw [← hm2] at hl9
  generalize hll : m / 3 = l at *
  obtain ⟨hfr, hto, hdi, -⟩ := hS.2 l hl9.1.1 hl9.1.2
  have ho : 0 ≤ othE (t 13) (t 15) r l ∧ othE (t 13) (t 15) r l < t 267 0 := by unfold othE; split <;> assumption
  have hsg : (if t 15 l = r then c % 3 + 1 else -(c % 3 + 1)) = sgE (t 13) r l * (c % 3 + 1) := by
    unfold sgE
    rcases hm4 with ⟨h1, h2⟩
    by_cases e : t 13 l = r
    · rw [if_pos e, if_neg (fun z => h2 (by rw [e, z]))]; omega
    · rw [if_neg e, if_pos (h1.resolve_left e)]; omega
  have hsgr : -3 ≤ sgE (t 13) r l * (c % 3 + 1) ∧ sgE (t 13) r l * (c % 3 + 1) ≤ 3 := by rw [← hsg]; split <;> omega
  have m1 := mul_r (eaI_r hdi) hsgr
  have m2 := mul_r (soI_r hdi) hsgr
  have m3 := mul_r (riI_r hdi) hsgr
  have bx := hX (othE (t 13) (t 15) r l)
  have bY := hY (othE (t 13) (t 15) r l)
  have bl := hL (othE (t 13) (t 15) r l)
  have eX : chX (t 13) (t 14) (t 15) (t 18) r m = t 18 (othE (t 13) (t 15) r l) + sgE (t 13) r l * (c % 3 + 1) * eaI (t 14 l) := by unfold chX; rw [hll, hm3]
  have eY : chY (t 13) (t 14) (t 15) (t 19) r m = t 19 (othE (t 13) (t 15) r l) + sgE (t 13) r l * (c % 3 + 1) * soI (t 14 l) := by unfold chY; rw [hll, hm3]
  have eL : chL (t 13) (t 14) (t 15) (t 20) r m = t 20 (othE (t 13) (t 15) r l) + sgE (t 13) r l * (c % 3 + 1) * riI (t 14 l) := by unfold chL; rw [hll, hm3]
  have hcd : candM (t 267 0) (t 13) (t 14) (t 15) (t 21) (t 18) (t 19) (t 20) r m ↔ ((t 21 (othE (t 13) (t 15) r l) ≠ 0 ∧ (t 14 l < 8 ∨ c % 3 = 0)) ∧ atS (t 267 0) (t 21) (t 18) (t 19) (t 20) (chX (t 13) (t 14) (t 15) (t 18) r m) (chY (t 13) (t 14) (t 15) (t 19) r m) (chL (t 13) (t 14) (t 15) (t 20) r m) < 0) := by
    unfold candM
    rw [hll, hm3]
    exact ⟨fun z => ⟨z.1.2, z.2⟩, fun z => ⟨⟨hm4, z.1⟩, z.2⟩⟩
  generalize chX (t 13) (t 14) (t 15) (t 18) r m = cX at *
  generalize chY (t 13) (t 14) (t 15) (t 19) r m = cY at *
  generalize chL (t 13) (t 14) (t 15) (t 20) r m = cL at *
  generalize candM (t 267 0) (t 13) (t 14) (t 15) (t 21) (t 18) (t 19) (t 20) r m = CM at *
  refine G_aload_n (pc := 0) dX0_lookAtChance_0 rfl ?_
  refine G_getP (pc := 1) dX0_lookAtChance_1 fk_X0_15 rfl rfl rfl ?_
  refine G_iload_n (pc := 4) dX0_lookAtChance_4 rfl ?_
  refine G_iload_n (pc := 5) dX0_lookAtChance_5 rfl ?_
  refine G_iconst (pc := 6) dX0_lookAtChance_6 (by decide) ?_
  refine G_idiv (pc := 7) dX0_lookAtChance_7 (by decide) ?_
  rw [ediv]
  refine G_cV1 (pc := 8) (c_X6_get _ _ _ (by omega)) dX0_lookAtChance_8 ml_X0_35 rfl rfl rfl (by decide) (Nat.le_of_ble_eq_true rfl) ?_
  rw [← hm2]
  refine G_istore (pc := 11) dX0_lookAtChance_11 (Nat.le_of_ble_eq_true rfl) rfl ?_
  refine G_iload_n (pc := 13) dX0_lookAtChance_13 rfl ?_
  refine G_iconst (pc := 14) dX0_lookAtChance_14 (by decide) ?_
  refine G_irem (pc := 15) dX0_lookAtChance_15 (by decide) ?_
  rw [emod]
  refine G_iconst (pc := 16) dX0_lookAtChance_16 (by decide) ?_
  refine G_iadd (pc := 17) dX0_lookAtChance_17 (by omega) ?_
  refine G_istore (pc := 18) dX0_lookAtChance_18 (Nat.le_of_ble_eq_true rfl) rfl ?_
  refine G_aload_n (pc := 20) dX0_lookAtChance_20 rfl ?_
  refine G_getP (pc := 21) dX0_lookAtChance_21 fk_X0_9 rfl rfl rfl ?_
  refine G_getP (pc := 24) dX0_lookAtChance_24 fk_X0_39 rfl rfl rfl ?_
  refine G_iload (pc := 27) dX0_lookAtChance_27 rfl ?_
  refine G_iaload (pc := 29) dX0_lookAtChance_29 rfl rfl (by omega) ?_
  refine G_istore (pc := 30) dX0_lookAtChance_30 (Nat.le_of_ble_eq_true rfl) rfl ?_
  refine G_aload_n (pc := 32) dX0_lookAtChance_32 rfl ?_
  refine G_getP (pc := 33) dX0_lookAtChance_33 fk_X0_9 rfl rfl rfl ?_
  refine G_iload (pc := 36) dX0_lookAtChance_36 rfl ?_
  refine G_iload_n (pc := 38) dX0_lookAtChance_38 rfl ?_
  refine G_cV1 (pc := 39) (c_X5_otherEnd _ _ _ (by omega)) dX0_lookAtChance_39 ml_X0_45 rfl rfl rfl (by decide) (Nat.le_of_ble_eq_true rfl) ?_
  change G E cX0_lookAtChance RX0 (some .boolean) 1 (39 + 3) _ [mI (othE (t 13) (t 15) r l)] t _
  refine G_istore (pc := 42) dX0_lookAtChance_42 (Nat.le_of_ble_eq_true rfl) rfl ?_
  refine G_aload_n (pc := 44) dX0_lookAtChance_44 rfl ?_
  refine G_getP (pc := 45) dX0_lookAtChance_45 fk_X0_48 rfl rfl rfl ?_
  refine G_iload (pc := 48) dX0_lookAtChance_48 rfl ?_
  refine G_baload (pc := 50) dX0_lookAtChance_50 rfl rfl (by omega) ?_
  refine G_if_eq (pc := 51) (tgt := 67) dX0_lookAtChance_51 rfl (fun h_51 => ?_) (fun h_51 => ?_)
  · try simp only [bq0, ne_eq, Classical.not_not] at h_51
    refine G_iconst (pc := 67) dX0_lookAtChance_67 (by decide) ?_
    exact G_zreturn (pc := 68) dX0_lookAtChance_68 (by first | exact Or.inl rfl | exact Or.inr rfl | omega | (split <;> first | exact Or.inl rfl | exact Or.inr rfl)) ⟨0, rfl, Or.inl rfl, ⟨fun z => by omega, fun z => by have := hcd.mp z; omega⟩, t 650 0, t 651 0, t 652 0, (pos3_id t).symm, fun z => by omega⟩
  · try simp only [bq0, ne_eq, Classical.not_not] at h_51
    refine G_iload (pc := 54) dX0_lookAtChance_54 rfl ?_
    refine G_bipush (pc := 56) (x := 8) dX0_lookAtChance_56 rfl (by decide) ?_
    refine G_icmp_lt (pc := 58) (tgt := 69) dX0_lookAtChance_58 rfl (fun h_58 => ?_) (fun h_58 => ?_)
    · refine G_join (pc := 69) (P := fun v => v = sgE (t 13) r l * (c % 3 + 1)) 91 (fun v_91 hv_91 => ?_) (fun j_91 => ?_)
      · rw [hv_91]
        refine G_istore (pc := 91) dX0_lookAtChance_91 (Nat.le_of_ble_eq_true rfl) rfl ?_
        refine G_aload_n (pc := 93) dX0_lookAtChance_93 rfl ?_
        refine G_aload_n (pc := 94) dX0_lookAtChance_94 rfl ?_
        refine G_getP (pc := 95) dX0_lookAtChance_95 fk_X0_57 rfl rfl rfl ?_
        refine G_iload (pc := 98) dX0_lookAtChance_98 rfl ?_
        refine G_iaload (pc := 100) dX0_lookAtChance_100 rfl rfl (by omega) ?_
        refine G_iload (pc := 101) dX0_lookAtChance_101 rfl ?_
        refine G_getstatic (pc := 103) dX0_lookAtChance_103 sk_X0_59 ?_
        refine G_iload (pc := 106) dX0_lookAtChance_106 rfl ?_
        refine G_sl1 (pc := 108) dX0_lookAtChance_108 (by omega) ?_
        refine G_imul (pc := 109) dX0_lookAtChance_109 (by omega) ?_
        refine G_iadd (pc := 110) dX0_lookAtChance_110 (by omega) ?_
        rw [← eX]
        refine G_put (pc := 111) dX0_lookAtChance_111 fk_X0_25 fw_X0_2 rfl rfl rfl (fun h => absurd h (by decide)) ?_
        refine G_aload_n (pc := 114) dX0_lookAtChance_114 rfl ?_
        refine G_aload_n (pc := 115) dX0_lookAtChance_115 rfl ?_
        refine G_getP (pc := 116) dX0_lookAtChance_116 fk_X0_62 rfl rfl rfl ?_
        refine G_iload (pc := 119) dX0_lookAtChance_119 rfl ?_
        refine G_iaload (pc := 121) dX0_lookAtChance_121 rfl rfl (by omega) ?_
        try simp (disch := decide) only [su_ne, su_at, su_same, sv_ne, sv_at]
        refine G_iload (pc := 122) dX0_lookAtChance_122 rfl ?_
        refine G_getstatic (pc := 124) dX0_lookAtChance_124 sk_X0_64 ?_
        refine G_iload (pc := 127) dX0_lookAtChance_127 rfl ?_
        refine G_sl2 (pc := 129) dX0_lookAtChance_129 (by omega) ?_
        refine G_imul (pc := 130) dX0_lookAtChance_130 (by omega) ?_
        refine G_iadd (pc := 131) dX0_lookAtChance_131 (by omega) ?_
        rw [← eY]
        refine G_put (pc := 132) dX0_lookAtChance_132 fk_X0_29 fw_X0_3 rfl rfl rfl (fun h => absurd h (by decide)) ?_
        refine G_aload_n (pc := 135) dX0_lookAtChance_135 rfl ?_
        refine G_aload_n (pc := 136) dX0_lookAtChance_136 rfl ?_
        refine G_getP (pc := 137) dX0_lookAtChance_137 fk_X0_67 rfl rfl rfl ?_
        refine G_iload (pc := 140) dX0_lookAtChance_140 rfl ?_
        refine G_iaload (pc := 142) dX0_lookAtChance_142 rfl rfl (by omega) ?_
        try simp (disch := decide) only [su_ne, su_at, su_same, sv_ne, sv_at]
        refine G_iload (pc := 143) dX0_lookAtChance_143 rfl ?_
        refine G_getstatic (pc := 145) dX0_lookAtChance_145 sk_X0_69 ?_
        refine G_iload (pc := 148) dX0_lookAtChance_148 rfl ?_
        refine G_sl3 (pc := 150) dX0_lookAtChance_150 (by omega) ?_
        refine G_imul (pc := 151) dX0_lookAtChance_151 (by omega) ?_
        refine G_iadd (pc := 152) dX0_lookAtChance_152 (by omega) ?_
        rw [← eL]
        refine G_put (pc := 153) dX0_lookAtChance_153 fk_X0_32 fw_X0_4 rfl rfl rfl (fun h => absurd h (by decide)) ?_
        change G E cX0_lookAtChance RX0 (some .boolean) 1 (153 + 3) _ _ (pos3 t cX cY cL) _
        have p267 := pos3_ne t cX cY cL (w := 267) (by decide)
        have pX := pos3_ne t cX cY cL (w := 18) (by decide)
        have pY := pos3_ne t cX cY cL (w := 19) (by decide)
        have pL := pos3_ne t cX cY cL (w := 20) (by decide)
        have pP := pos3_ne t cX cY cL (w := 21) (by decide)
        obtain ⟨pa, pb, pc⟩ := pos3_at t cX cY cL
        refine G_aload_n (pc := 156) dX0_lookAtChance_156 rfl ?_
        refine G_aload_n (pc := 157) dX0_lookAtChance_157 rfl ?_
        refine G_getI (pc := 158) dX0_lookAtChance_158 fk_X0_25 rfl rfl rfl ?_
        try simp (disch := decide) only [su_ne, su_at, su_same, sv_ne, sv_at]
        refine G_aload_n (pc := 161) dX0_lookAtChance_161 rfl ?_
        refine G_getI (pc := 162) dX0_lookAtChance_162 fk_X0_29 rfl rfl rfl ?_
        try simp (disch := decide) only [su_ne, su_at, su_same, sv_ne, sv_at]
        refine G_aload_n (pc := 165) dX0_lookAtChance_165 rfl ?_
        refine G_getI (pc := 166) dX0_lookAtChance_166 fk_X0_32 rfl rfl rfl ?_
        try simp (disch := decide) only [su_ne, su_at, su_same, sv_ne, sv_at]
        rw [pa, pb, pc]
        refine G_cV1 (pc := 169) (c_X2_isFree_3 _ _ _ _ (by rw [p267]; omega)) dX0_lookAtChance_169 ml_X0_72 rfl rfl rfl (by decide) (Nat.le_of_ble_eq_true rfl) ?_
        rw [p267, pX, pY, pL, pP]
        exact G_zreturn (pc := 172) dX0_lookAtChance_172 (by exact bqr) ⟨_, rfl, bqr, by rw [bq1, hcd]; exact ⟨fun z => ⟨⟨h_51, by omega⟩, z⟩, fun z => z.2⟩, cX, cY, cL, rfl, fun _ => ⟨rfl, rfl, rfl⟩⟩
      · refine G_aload_n (pc := 69) dX0_lookAtChance_69 rfl ?_
        refine G_getP (pc := 70) dX0_lookAtChance_70 fk_X0_9 rfl rfl rfl ?_
        refine G_getP (pc := 73) dX0_lookAtChance_73 fk_X0_54 rfl rfl rfl ?_
        refine G_iload (pc := 76) dX0_lookAtChance_76 rfl ?_
        refine G_iaload (pc := 78) dX0_lookAtChance_78 rfl rfl (by omega) ?_
        try simp (disch := decide) only [su_ne, su_at, su_same, sv_ne, sv_at]
        refine G_iload_n (pc := 79) dX0_lookAtChance_79 rfl ?_
        refine G_icmp_ne (pc := 80) (tgt := 88) dX0_lookAtChance_80 rfl (fun h_80 => ?_) (fun h_80 => ?_)
        · refine G_iload (pc := 88) dX0_lookAtChance_88 rfl ?_
          refine G_ineg (pc := 90) dX0_lookAtChance_90 (by omega) ?_
          exact j_91 _ (by rw [← hsg]; first | rw [if_pos h_80] | rw [if_neg h_80])
        · refine G_iload (pc := 83) dX0_lookAtChance_83 rfl ?_
          refine G_goto (pc := 85) (tgt := 91) dX0_lookAtChance_85 rfl ?_
          exact j_91 _ (by rw [← hsg]; first | rw [if_pos h_80] | rw [if_neg h_80])
    · refine G_iload (pc := 61) dX0_lookAtChance_61 rfl ?_
      refine G_iconst (pc := 63) dX0_lookAtChance_63 (by decide) ?_
      refine G_icmp_le (pc := 64) (tgt := 69) dX0_lookAtChance_64 rfl (fun h_64 => ?_) (fun h_64 => ?_)
      · refine G_join (pc := 69) (P := fun v => v = sgE (t 13) r l * (c % 3 + 1)) 91 (fun v_91 hv_91 => ?_) (fun j_91 => ?_)
        · rw [hv_91]
          refine G_istore (pc := 91) dX0_lookAtChance_91 (Nat.le_of_ble_eq_true rfl) rfl ?_
          refine G_aload_n (pc := 93) dX0_lookAtChance_93 rfl ?_
          refine G_aload_n (pc := 94) dX0_lookAtChance_94 rfl ?_
          refine G_getP (pc := 95) dX0_lookAtChance_95 fk_X0_57 rfl rfl rfl ?_
          refine G_iload (pc := 98) dX0_lookAtChance_98 rfl ?_
          refine G_iaload (pc := 100) dX0_lookAtChance_100 rfl rfl (by omega) ?_
          refine G_iload (pc := 101) dX0_lookAtChance_101 rfl ?_
          refine G_getstatic (pc := 103) dX0_lookAtChance_103 sk_X0_59 ?_
          refine G_iload (pc := 106) dX0_lookAtChance_106 rfl ?_
          refine G_sl1 (pc := 108) dX0_lookAtChance_108 (by omega) ?_
          refine G_imul (pc := 109) dX0_lookAtChance_109 (by omega) ?_
          refine G_iadd (pc := 110) dX0_lookAtChance_110 (by omega) ?_
          rw [← eX]
          refine G_put (pc := 111) dX0_lookAtChance_111 fk_X0_25 fw_X0_2 rfl rfl rfl (fun h => absurd h (by decide)) ?_
          refine G_aload_n (pc := 114) dX0_lookAtChance_114 rfl ?_
          refine G_aload_n (pc := 115) dX0_lookAtChance_115 rfl ?_
          refine G_getP (pc := 116) dX0_lookAtChance_116 fk_X0_62 rfl rfl rfl ?_
          refine G_iload (pc := 119) dX0_lookAtChance_119 rfl ?_
          refine G_iaload (pc := 121) dX0_lookAtChance_121 rfl rfl (by omega) ?_
          try simp (disch := decide) only [su_ne, su_at, su_same, sv_ne, sv_at]
          refine G_iload (pc := 122) dX0_lookAtChance_122 rfl ?_
          refine G_getstatic (pc := 124) dX0_lookAtChance_124 sk_X0_64 ?_
          refine G_iload (pc := 127) dX0_lookAtChance_127 rfl ?_
          refine G_sl2 (pc := 129) dX0_lookAtChance_129 (by omega) ?_
          refine G_imul (pc := 130) dX0_lookAtChance_130 (by omega) ?_
          refine G_iadd (pc := 131) dX0_lookAtChance_131 (by omega) ?_
          rw [← eY]
          refine G_put (pc := 132) dX0_lookAtChance_132 fk_X0_29 fw_X0_3 rfl rfl rfl (fun h => absurd h (by decide)) ?_
          refine G_aload_n (pc := 135) dX0_lookAtChance_135 rfl ?_
          refine G_aload_n (pc := 136) dX0_lookAtChance_136 rfl ?_
          refine G_getP (pc := 137) dX0_lookAtChance_137 fk_X0_67 rfl rfl rfl ?_
          refine G_iload (pc := 140) dX0_lookAtChance_140 rfl ?_
          refine G_iaload (pc := 142) dX0_lookAtChance_142 rfl rfl (by omega) ?_
          try simp (disch := decide) only [su_ne, su_at, su_same, sv_ne, sv_at]
          refine G_iload (pc := 143) dX0_lookAtChance_143 rfl ?_
          refine G_getstatic (pc := 145) dX0_lookAtChance_145 sk_X0_69 ?_
          refine G_iload (pc := 148) dX0_lookAtChance_148 rfl ?_
          refine G_sl3 (pc := 150) dX0_lookAtChance_150 (by omega) ?_
          refine G_imul (pc := 151) dX0_lookAtChance_151 (by omega) ?_
          refine G_iadd (pc := 152) dX0_lookAtChance_152 (by omega) ?_
          rw [← eL]
          refine G_put (pc := 153) dX0_lookAtChance_153 fk_X0_32 fw_X0_4 rfl rfl rfl (fun h => absurd h (by decide)) ?_
          change G E cX0_lookAtChance RX0 (some .boolean) 1 (153 + 3) _ _ (pos3 t cX cY cL) _
          have p267 := pos3_ne t cX cY cL (w := 267) (by decide)
          have pX := pos3_ne t cX cY cL (w := 18) (by decide)
          have pY := pos3_ne t cX cY cL (w := 19) (by decide)
          have pL := pos3_ne t cX cY cL (w := 20) (by decide)
          have pP := pos3_ne t cX cY cL (w := 21) (by decide)
          obtain ⟨pa, pb, pc⟩ := pos3_at t cX cY cL
          refine G_aload_n (pc := 156) dX0_lookAtChance_156 rfl ?_
          refine G_aload_n (pc := 157) dX0_lookAtChance_157 rfl ?_
          refine G_getI (pc := 158) dX0_lookAtChance_158 fk_X0_25 rfl rfl rfl ?_
          try simp (disch := decide) only [su_ne, su_at, su_same, sv_ne, sv_at]
          refine G_aload_n (pc := 161) dX0_lookAtChance_161 rfl ?_
          refine G_getI (pc := 162) dX0_lookAtChance_162 fk_X0_29 rfl rfl rfl ?_
          try simp (disch := decide) only [su_ne, su_at, su_same, sv_ne, sv_at]
          refine G_aload_n (pc := 165) dX0_lookAtChance_165 rfl ?_
          refine G_getI (pc := 166) dX0_lookAtChance_166 fk_X0_32 rfl rfl rfl ?_
          try simp (disch := decide) only [su_ne, su_at, su_same, sv_ne, sv_at]
          rw [pa, pb, pc]
          refine G_cV1 (pc := 169) (c_X2_isFree_3 _ _ _ _ (by rw [p267]; omega)) dX0_lookAtChance_169 ml_X0_72 rfl rfl rfl (by decide) (Nat.le_of_ble_eq_true rfl) ?_
          rw [p267, pX, pY, pL, pP]
          exact G_zreturn (pc := 172) dX0_lookAtChance_172 (by exact bqr) ⟨_, rfl, bqr, by rw [bq1, hcd]; exact ⟨fun z => ⟨⟨h_51, by omega⟩, z⟩, fun z => z.2⟩, cX, cY, cL, rfl, fun _ => ⟨rfl, rfl, rfl⟩⟩
        · refine G_aload_n (pc := 69) dX0_lookAtChance_69 rfl ?_
          refine G_getP (pc := 70) dX0_lookAtChance_70 fk_X0_9 rfl rfl rfl ?_
          refine G_getP (pc := 73) dX0_lookAtChance_73 fk_X0_54 rfl rfl rfl ?_
          refine G_iload (pc := 76) dX0_lookAtChance_76 rfl ?_
          refine G_iaload (pc := 78) dX0_lookAtChance_78 rfl rfl (by omega) ?_
          try simp (disch := decide) only [su_ne, su_at, su_same, sv_ne, sv_at]
          refine G_iload_n (pc := 79) dX0_lookAtChance_79 rfl ?_
          refine G_icmp_ne (pc := 80) (tgt := 88) dX0_lookAtChance_80 rfl (fun h_80 => ?_) (fun h_80 => ?_)
          · refine G_iload (pc := 88) dX0_lookAtChance_88 rfl ?_
            refine G_ineg (pc := 90) dX0_lookAtChance_90 (by omega) ?_
            exact j_91 _ (by rw [← hsg]; first | rw [if_pos h_80] | rw [if_neg h_80])
          · refine G_iload (pc := 83) dX0_lookAtChance_83 rfl ?_
            refine G_goto (pc := 85) (tgt := 91) dX0_lookAtChance_85 rfl ?_
            exact j_91 _ (by rw [← hsg]; first | rw [if_pos h_80] | rw [if_neg h_80])
      · refine G_iconst (pc := 67) dX0_lookAtChance_67 (by decide) ?_
        exact G_zreturn (pc := 68) dX0_lookAtChance_68 (by first | exact Or.inl rfl | exact Or.inr rfl | omega | (split <;> first | exact Or.inl rfl | exact Or.inr rfl)) ⟨0, rfl, Or.inl rfl, ⟨fun z => by omega, fun z => by have := hcd.mp z; omega⟩, t 650 0, t 651 0, t 652 0, (pos3_id t).symm, fun z => by omega⟩
set_option maxHeartbeats 1000000 in
theorem c_X0_lookAtChance_4 (t : Sto) (r c : Int) (hS : SC t) (hT : TIC t) (hr : 0 ≤ r ∧ r < t 267 0) (hc : 0 ≤ c ∧ c < 3 * (t 28 (r + 1) - t 28 r)) (hX : BD (t 22)) (hY : BD (t 23)) (hL : BD (t 24)) : CT yX0_lookAtChance cX0_lookAtChance 9 (some .boolean) 1 [mP 7, mP 4, mI r, mI c] t (fun a t' => ∃ x, a = some (mI x) ∧ ((x = 0 ∨ x = 1) ∧ (x = 1 ↔ candM (t 267 0) (t 13) (t 14) (t 15) (t 25) (t 22) (t 23) (t 24) r (muT (t 28) (t 29) r c)) ∧ ∃ px py pl, t' = pos3 t px py pl ∧ (x = 1 → px = chX (t 13) (t 14) (t 15) (t 22) r (muT (t 28) (t 29) r c) ∧ py = chY (t 13) (t 14) (t 15) (t 23) r (muT (t 28) (t 29) r c) ∧ pl = chL (t 13) (t 14) (t 15) (t 24) r (muT (t 28) (t 29) r c)))) := by
  refine CT_of rfl rfl (Nat.le_of_ble_eq_true rfl) (fun E ht has => ?_)
  have hb := hS.1
  have hseg := hT r hr.1 hr.2
  obtain ⟨hm1, hm2, hm3, hm4⟩ := (mu_ok hT hr.1 hr.2).1 c hc.1 hc.2
  have hl9 := hseg.2.1 (t 28 r + c / 3) (by omega) (by omega)
  have ediv : c.tdiv 3 = c / 3 := Int.tdiv_eq_ediv_of_nonneg hc.1
  have emod : c.tmod 3 = c % 3 := Int.tmod_eq_emod_of_nonneg hc.1
  generalize hmm : muT (t 28) (t 29) r c = m at *
  rw [← hm2] at hl9
  generalize hll : m / 3 = l at *
  obtain ⟨hfr, hto, hdi, -⟩ := hS.2 l hl9.1.1 hl9.1.2
  have ho : 0 ≤ othE (t 13) (t 15) r l ∧ othE (t 13) (t 15) r l < t 267 0 := by unfold othE; split <;> assumption
  have hsg : (if t 15 l = r then c % 3 + 1 else -(c % 3 + 1)) = sgE (t 13) r l * (c % 3 + 1) := by
    unfold sgE
    rcases hm4 with ⟨h1, h2⟩
    by_cases e : t 13 l = r
    · rw [if_pos e, if_neg (fun z => h2 (by rw [e, z]))]; omega
    · rw [if_neg e, if_pos (h1.resolve_left e)]; omega
  have hsgr : -3 ≤ sgE (t 13) r l * (c % 3 + 1) ∧ sgE (t 13) r l * (c % 3 + 1) ≤ 3 := by rw [← hsg]; split <;> omega
  have m1 := mul_r (eaI_r hdi) hsgr
  have m2 := mul_r (soI_r hdi) hsgr
  have m3 := mul_r (riI_r hdi) hsgr
  have bx := hX (othE (t 13) (t 15) r l)
  have bY := hY (othE (t 13) (t 15) r l)
  have bl := hL (othE (t 13) (t 15) r l)
  have eX : chX (t 13) (t 14) (t 15) (t 22) r m = t 22 (othE (t 13) (t 15) r l) + sgE (t 13) r l * (c % 3 + 1) * eaI (t 14 l) := by unfold chX; rw [hll, hm3]
  have eY : chY (t 13) (t 14) (t 15) (t 23) r m = t 23 (othE (t 13) (t 15) r l) + sgE (t 13) r l * (c % 3 + 1) * soI (t 14 l) := by unfold chY; rw [hll, hm3]
  have eL : chL (t 13) (t 14) (t 15) (t 24) r m = t 24 (othE (t 13) (t 15) r l) + sgE (t 13) r l * (c % 3 + 1) * riI (t 14 l) := by unfold chL; rw [hll, hm3]
  have hcd : candM (t 267 0) (t 13) (t 14) (t 15) (t 25) (t 22) (t 23) (t 24) r m ↔ ((t 25 (othE (t 13) (t 15) r l) ≠ 0 ∧ (t 14 l < 8 ∨ c % 3 = 0)) ∧ atS (t 267 0) (t 25) (t 22) (t 23) (t 24) (chX (t 13) (t 14) (t 15) (t 22) r m) (chY (t 13) (t 14) (t 15) (t 23) r m) (chL (t 13) (t 14) (t 15) (t 24) r m) < 0) := by
    unfold candM
    rw [hll, hm3]
    exact ⟨fun z => ⟨z.1.2, z.2⟩, fun z => ⟨⟨hm4, z.1⟩, z.2⟩⟩
  generalize chX (t 13) (t 14) (t 15) (t 22) r m = cX at *
  generalize chY (t 13) (t 14) (t 15) (t 23) r m = cY at *
  generalize chL (t 13) (t 14) (t 15) (t 24) r m = cL at *
  generalize candM (t 267 0) (t 13) (t 14) (t 15) (t 25) (t 22) (t 23) (t 24) r m = CM at *
  refine G_aload_n (pc := 0) dX0_lookAtChance_0 rfl ?_
  refine G_getP (pc := 1) dX0_lookAtChance_1 fk_X0_15 rfl rfl rfl ?_
  refine G_iload_n (pc := 4) dX0_lookAtChance_4 rfl ?_
  refine G_iload_n (pc := 5) dX0_lookAtChance_5 rfl ?_
  refine G_iconst (pc := 6) dX0_lookAtChance_6 (by decide) ?_
  refine G_idiv (pc := 7) dX0_lookAtChance_7 (by decide) ?_
  rw [ediv]
  refine G_cV1 (pc := 8) (c_X6_get _ _ _ (by omega)) dX0_lookAtChance_8 ml_X0_35 rfl rfl rfl (by decide) (Nat.le_of_ble_eq_true rfl) ?_
  rw [← hm2]
  refine G_istore (pc := 11) dX0_lookAtChance_11 (Nat.le_of_ble_eq_true rfl) rfl ?_
  refine G_iload_n (pc := 13) dX0_lookAtChance_13 rfl ?_
  refine G_iconst (pc := 14) dX0_lookAtChance_14 (by decide) ?_
  refine G_irem (pc := 15) dX0_lookAtChance_15 (by decide) ?_
  rw [emod]
  refine G_iconst (pc := 16) dX0_lookAtChance_16 (by decide) ?_
  refine G_iadd (pc := 17) dX0_lookAtChance_17 (by omega) ?_
  refine G_istore (pc := 18) dX0_lookAtChance_18 (Nat.le_of_ble_eq_true rfl) rfl ?_
  refine G_aload_n (pc := 20) dX0_lookAtChance_20 rfl ?_
  refine G_getP (pc := 21) dX0_lookAtChance_21 fk_X0_9 rfl rfl rfl ?_
  refine G_getP (pc := 24) dX0_lookAtChance_24 fk_X0_39 rfl rfl rfl ?_
  refine G_iload (pc := 27) dX0_lookAtChance_27 rfl ?_
  refine G_iaload (pc := 29) dX0_lookAtChance_29 rfl rfl (by omega) ?_
  refine G_istore (pc := 30) dX0_lookAtChance_30 (Nat.le_of_ble_eq_true rfl) rfl ?_
  refine G_aload_n (pc := 32) dX0_lookAtChance_32 rfl ?_
  refine G_getP (pc := 33) dX0_lookAtChance_33 fk_X0_9 rfl rfl rfl ?_
  refine G_iload (pc := 36) dX0_lookAtChance_36 rfl ?_
  refine G_iload_n (pc := 38) dX0_lookAtChance_38 rfl ?_
  refine G_cV1 (pc := 39) (c_X5_otherEnd _ _ _ (by omega)) dX0_lookAtChance_39 ml_X0_45 rfl rfl rfl (by decide) (Nat.le_of_ble_eq_true rfl) ?_
  change G E cX0_lookAtChance RX0 (some .boolean) 1 (39 + 3) _ [mI (othE (t 13) (t 15) r l)] t _
  refine G_istore (pc := 42) dX0_lookAtChance_42 (Nat.le_of_ble_eq_true rfl) rfl ?_
  refine G_aload_n (pc := 44) dX0_lookAtChance_44 rfl ?_
  refine G_getP (pc := 45) dX0_lookAtChance_45 fk_X0_48 rfl rfl rfl ?_
  refine G_iload (pc := 48) dX0_lookAtChance_48 rfl ?_
  refine G_baload (pc := 50) dX0_lookAtChance_50 rfl rfl (by omega) ?_
  refine G_if_eq (pc := 51) (tgt := 67) dX0_lookAtChance_51 rfl (fun h_51 => ?_) (fun h_51 => ?_)
  · try simp only [bq0, ne_eq, Classical.not_not] at h_51
    refine G_iconst (pc := 67) dX0_lookAtChance_67 (by decide) ?_
    exact G_zreturn (pc := 68) dX0_lookAtChance_68 (by first | exact Or.inl rfl | exact Or.inr rfl | omega | (split <;> first | exact Or.inl rfl | exact Or.inr rfl)) ⟨0, rfl, Or.inl rfl, ⟨fun z => by omega, fun z => by have := hcd.mp z; omega⟩, t 650 0, t 651 0, t 652 0, (pos3_id t).symm, fun z => by omega⟩
  · try simp only [bq0, ne_eq, Classical.not_not] at h_51
    refine G_iload (pc := 54) dX0_lookAtChance_54 rfl ?_
    refine G_bipush (pc := 56) (x := 8) dX0_lookAtChance_56 rfl (by decide) ?_
    refine G_icmp_lt (pc := 58) (tgt := 69) dX0_lookAtChance_58 rfl (fun h_58 => ?_) (fun h_58 => ?_)
    · refine G_join (pc := 69) (P := fun v => v = sgE (t 13) r l * (c % 3 + 1)) 91 (fun v_91 hv_91 => ?_) (fun j_91 => ?_)
      · rw [hv_91]
        refine G_istore (pc := 91) dX0_lookAtChance_91 (Nat.le_of_ble_eq_true rfl) rfl ?_
        refine G_aload_n (pc := 93) dX0_lookAtChance_93 rfl ?_
        refine G_aload_n (pc := 94) dX0_lookAtChance_94 rfl ?_
        refine G_getP (pc := 95) dX0_lookAtChance_95 fk_X0_57 rfl rfl rfl ?_
        refine G_iload (pc := 98) dX0_lookAtChance_98 rfl ?_
        refine G_iaload (pc := 100) dX0_lookAtChance_100 rfl rfl (by omega) ?_
        refine G_iload (pc := 101) dX0_lookAtChance_101 rfl ?_
        refine G_getstatic (pc := 103) dX0_lookAtChance_103 sk_X0_59 ?_
        refine G_iload (pc := 106) dX0_lookAtChance_106 rfl ?_
        refine G_sl1 (pc := 108) dX0_lookAtChance_108 (by omega) ?_
        refine G_imul (pc := 109) dX0_lookAtChance_109 (by omega) ?_
        refine G_iadd (pc := 110) dX0_lookAtChance_110 (by omega) ?_
        rw [← eX]
        refine G_put (pc := 111) dX0_lookAtChance_111 fk_X0_25 fw_X0_2 rfl rfl rfl (fun h => absurd h (by decide)) ?_
        refine G_aload_n (pc := 114) dX0_lookAtChance_114 rfl ?_
        refine G_aload_n (pc := 115) dX0_lookAtChance_115 rfl ?_
        refine G_getP (pc := 116) dX0_lookAtChance_116 fk_X0_62 rfl rfl rfl ?_
        refine G_iload (pc := 119) dX0_lookAtChance_119 rfl ?_
        refine G_iaload (pc := 121) dX0_lookAtChance_121 rfl rfl (by omega) ?_
        try simp (disch := decide) only [su_ne, su_at, su_same, sv_ne, sv_at]
        refine G_iload (pc := 122) dX0_lookAtChance_122 rfl ?_
        refine G_getstatic (pc := 124) dX0_lookAtChance_124 sk_X0_64 ?_
        refine G_iload (pc := 127) dX0_lookAtChance_127 rfl ?_
        refine G_sl2 (pc := 129) dX0_lookAtChance_129 (by omega) ?_
        refine G_imul (pc := 130) dX0_lookAtChance_130 (by omega) ?_
        refine G_iadd (pc := 131) dX0_lookAtChance_131 (by omega) ?_
        rw [← eY]
        refine G_put (pc := 132) dX0_lookAtChance_132 fk_X0_29 fw_X0_3 rfl rfl rfl (fun h => absurd h (by decide)) ?_
        refine G_aload_n (pc := 135) dX0_lookAtChance_135 rfl ?_
        refine G_aload_n (pc := 136) dX0_lookAtChance_136 rfl ?_
        refine G_getP (pc := 137) dX0_lookAtChance_137 fk_X0_67 rfl rfl rfl ?_
        refine G_iload (pc := 140) dX0_lookAtChance_140 rfl ?_
        refine G_iaload (pc := 142) dX0_lookAtChance_142 rfl rfl (by omega) ?_
        try simp (disch := decide) only [su_ne, su_at, su_same, sv_ne, sv_at]
        refine G_iload (pc := 143) dX0_lookAtChance_143 rfl ?_
        refine G_getstatic (pc := 145) dX0_lookAtChance_145 sk_X0_69 ?_
        refine G_iload (pc := 148) dX0_lookAtChance_148 rfl ?_
        refine G_sl3 (pc := 150) dX0_lookAtChance_150 (by omega) ?_
        refine G_imul (pc := 151) dX0_lookAtChance_151 (by omega) ?_
        refine G_iadd (pc := 152) dX0_lookAtChance_152 (by omega) ?_
        rw [← eL]
        refine G_put (pc := 153) dX0_lookAtChance_153 fk_X0_32 fw_X0_4 rfl rfl rfl (fun h => absurd h (by decide)) ?_
        change G E cX0_lookAtChance RX0 (some .boolean) 1 (153 + 3) _ _ (pos3 t cX cY cL) _
        have p267 := pos3_ne t cX cY cL (w := 267) (by decide)
        have pX := pos3_ne t cX cY cL (w := 22) (by decide)
        have pY := pos3_ne t cX cY cL (w := 23) (by decide)
        have pL := pos3_ne t cX cY cL (w := 24) (by decide)
        have pP := pos3_ne t cX cY cL (w := 25) (by decide)
        obtain ⟨pa, pb, pc⟩ := pos3_at t cX cY cL
        refine G_aload_n (pc := 156) dX0_lookAtChance_156 rfl ?_
        refine G_aload_n (pc := 157) dX0_lookAtChance_157 rfl ?_
        refine G_getI (pc := 158) dX0_lookAtChance_158 fk_X0_25 rfl rfl rfl ?_
        try simp (disch := decide) only [su_ne, su_at, su_same, sv_ne, sv_at]
        refine G_aload_n (pc := 161) dX0_lookAtChance_161 rfl ?_
        refine G_getI (pc := 162) dX0_lookAtChance_162 fk_X0_29 rfl rfl rfl ?_
        try simp (disch := decide) only [su_ne, su_at, su_same, sv_ne, sv_at]
        refine G_aload_n (pc := 165) dX0_lookAtChance_165 rfl ?_
        refine G_getI (pc := 166) dX0_lookAtChance_166 fk_X0_32 rfl rfl rfl ?_
        try simp (disch := decide) only [su_ne, su_at, su_same, sv_ne, sv_at]
        rw [pa, pb, pc]
        refine G_cV1 (pc := 169) (c_X2_isFree_4 _ _ _ _ (by rw [p267]; omega)) dX0_lookAtChance_169 ml_X0_72 rfl rfl rfl (by decide) (Nat.le_of_ble_eq_true rfl) ?_
        rw [p267, pX, pY, pL, pP]
        exact G_zreturn (pc := 172) dX0_lookAtChance_172 (by exact bqr) ⟨_, rfl, bqr, by rw [bq1, hcd]; exact ⟨fun z => ⟨⟨h_51, by omega⟩, z⟩, fun z => z.2⟩, cX, cY, cL, rfl, fun _ => ⟨rfl, rfl, rfl⟩⟩
      · refine G_aload_n (pc := 69) dX0_lookAtChance_69 rfl ?_
        refine G_getP (pc := 70) dX0_lookAtChance_70 fk_X0_9 rfl rfl rfl ?_
        refine G_getP (pc := 73) dX0_lookAtChance_73 fk_X0_54 rfl rfl rfl ?_
        refine G_iload (pc := 76) dX0_lookAtChance_76 rfl ?_
        refine G_iaload (pc := 78) dX0_lookAtChance_78 rfl rfl (by omega) ?_
        try simp (disch := decide) only [su_ne, su_at, su_same, sv_ne, sv_at]
        refine G_iload_n (pc := 79) dX0_lookAtChance_79 rfl ?_
        refine G_icmp_ne (pc := 80) (tgt := 88) dX0_lookAtChance_80 rfl (fun h_80 => ?_) (fun h_80 => ?_)
        · refine G_iload (pc := 88) dX0_lookAtChance_88 rfl ?_
          refine G_ineg (pc := 90) dX0_lookAtChance_90 (by omega) ?_
          exact j_91 _ (by rw [← hsg]; first | rw [if_pos h_80] | rw [if_neg h_80])
        · refine G_iload (pc := 83) dX0_lookAtChance_83 rfl ?_
          refine G_goto (pc := 85) (tgt := 91) dX0_lookAtChance_85 rfl ?_
          exact j_91 _ (by rw [← hsg]; first | rw [if_pos h_80] | rw [if_neg h_80])
    · refine G_iload (pc := 61) dX0_lookAtChance_61 rfl ?_
      refine G_iconst (pc := 63) dX0_lookAtChance_63 (by decide) ?_
      refine G_icmp_le (pc := 64) (tgt := 69) dX0_lookAtChance_64 rfl (fun h_64 => ?_) (fun h_64 => ?_)
      · refine G_join (pc := 69) (P := fun v => v = sgE (t 13) r l * (c % 3 + 1)) 91 (fun v_91 hv_91 => ?_) (fun j_91 => ?_)
        · rw [hv_91]
          refine G_istore (pc := 91) dX0_lookAtChance_91 (Nat.le_of_ble_eq_true rfl) rfl ?_
          refine G_aload_n (pc := 93) dX0_lookAtChance_93 rfl ?_
          refine G_aload_n (pc := 94) dX0_lookAtChance_94 rfl ?_
          refine G_getP (pc := 95) dX0_lookAtChance_95 fk_X0_57 rfl rfl rfl ?_
          refine G_iload (pc := 98) dX0_lookAtChance_98 rfl ?_
          refine G_iaload (pc := 100) dX0_lookAtChance_100 rfl rfl (by omega) ?_
          refine G_iload (pc := 101) dX0_lookAtChance_101 rfl ?_
          refine G_getstatic (pc := 103) dX0_lookAtChance_103 sk_X0_59 ?_
          refine G_iload (pc := 106) dX0_lookAtChance_106 rfl ?_
          refine G_sl1 (pc := 108) dX0_lookAtChance_108 (by omega) ?_
          refine G_imul (pc := 109) dX0_lookAtChance_109 (by omega) ?_
          refine G_iadd (pc := 110) dX0_lookAtChance_110 (by omega) ?_
          rw [← eX]
          refine G_put (pc := 111) dX0_lookAtChance_111 fk_X0_25 fw_X0_2 rfl rfl rfl (fun h => absurd h (by decide)) ?_
          refine G_aload_n (pc := 114) dX0_lookAtChance_114 rfl ?_
          refine G_aload_n (pc := 115) dX0_lookAtChance_115 rfl ?_
          refine G_getP (pc := 116) dX0_lookAtChance_116 fk_X0_62 rfl rfl rfl ?_
          refine G_iload (pc := 119) dX0_lookAtChance_119 rfl ?_
          refine G_iaload (pc := 121) dX0_lookAtChance_121 rfl rfl (by omega) ?_
          try simp (disch := decide) only [su_ne, su_at, su_same, sv_ne, sv_at]
          refine G_iload (pc := 122) dX0_lookAtChance_122 rfl ?_
          refine G_getstatic (pc := 124) dX0_lookAtChance_124 sk_X0_64 ?_
          refine G_iload (pc := 127) dX0_lookAtChance_127 rfl ?_
          refine G_sl2 (pc := 129) dX0_lookAtChance_129 (by omega) ?_
          refine G_imul (pc := 130) dX0_lookAtChance_130 (by omega) ?_
          refine G_iadd (pc := 131) dX0_lookAtChance_131 (by omega) ?_
          rw [← eY]
          refine G_put (pc := 132) dX0_lookAtChance_132 fk_X0_29 fw_X0_3 rfl rfl rfl (fun h => absurd h (by decide)) ?_
          refine G_aload_n (pc := 135) dX0_lookAtChance_135 rfl ?_
          refine G_aload_n (pc := 136) dX0_lookAtChance_136 rfl ?_
          refine G_getP (pc := 137) dX0_lookAtChance_137 fk_X0_67 rfl rfl rfl ?_
          refine G_iload (pc := 140) dX0_lookAtChance_140 rfl ?_
          refine G_iaload (pc := 142) dX0_lookAtChance_142 rfl rfl (by omega) ?_
          try simp (disch := decide) only [su_ne, su_at, su_same, sv_ne, sv_at]
          refine G_iload (pc := 143) dX0_lookAtChance_143 rfl ?_
          refine G_getstatic (pc := 145) dX0_lookAtChance_145 sk_X0_69 ?_
          refine G_iload (pc := 148) dX0_lookAtChance_148 rfl ?_
          refine G_sl3 (pc := 150) dX0_lookAtChance_150 (by omega) ?_
          refine G_imul (pc := 151) dX0_lookAtChance_151 (by omega) ?_
          refine G_iadd (pc := 152) dX0_lookAtChance_152 (by omega) ?_
          rw [← eL]
          refine G_put (pc := 153) dX0_lookAtChance_153 fk_X0_32 fw_X0_4 rfl rfl rfl (fun h => absurd h (by decide)) ?_
          change G E cX0_lookAtChance RX0 (some .boolean) 1 (153 + 3) _ _ (pos3 t cX cY cL) _
          have p267 := pos3_ne t cX cY cL (w := 267) (by decide)
          have pX := pos3_ne t cX cY cL (w := 22) (by decide)
          have pY := pos3_ne t cX cY cL (w := 23) (by decide)
          have pL := pos3_ne t cX cY cL (w := 24) (by decide)
          have pP := pos3_ne t cX cY cL (w := 25) (by decide)
          obtain ⟨pa, pb, pc⟩ := pos3_at t cX cY cL
          refine G_aload_n (pc := 156) dX0_lookAtChance_156 rfl ?_
          refine G_aload_n (pc := 157) dX0_lookAtChance_157 rfl ?_
          refine G_getI (pc := 158) dX0_lookAtChance_158 fk_X0_25 rfl rfl rfl ?_
          try simp (disch := decide) only [su_ne, su_at, su_same, sv_ne, sv_at]
          refine G_aload_n (pc := 161) dX0_lookAtChance_161 rfl ?_
          refine G_getI (pc := 162) dX0_lookAtChance_162 fk_X0_29 rfl rfl rfl ?_
          try simp (disch := decide) only [su_ne, su_at, su_same, sv_ne, sv_at]
          refine G_aload_n (pc := 165) dX0_lookAtChance_165 rfl ?_
          refine G_getI (pc := 166) dX0_lookAtChance_166 fk_X0_32 rfl rfl rfl ?_
          try simp (disch := decide) only [su_ne, su_at, su_same, sv_ne, sv_at]
          rw [pa, pb, pc]
          refine G_cV1 (pc := 169) (c_X2_isFree_4 _ _ _ _ (by rw [p267]; omega)) dX0_lookAtChance_169 ml_X0_72 rfl rfl rfl (by decide) (Nat.le_of_ble_eq_true rfl) ?_
          rw [p267, pX, pY, pL, pP]
          exact G_zreturn (pc := 172) dX0_lookAtChance_172 (by exact bqr) ⟨_, rfl, bqr, by rw [bq1, hcd]; exact ⟨fun z => ⟨⟨h_51, by omega⟩, z⟩, fun z => z.2⟩, cX, cY, cL, rfl, fun _ => ⟨rfl, rfl, rfl⟩⟩
        · refine G_aload_n (pc := 69) dX0_lookAtChance_69 rfl ?_
          refine G_getP (pc := 70) dX0_lookAtChance_70 fk_X0_9 rfl rfl rfl ?_
          refine G_getP (pc := 73) dX0_lookAtChance_73 fk_X0_54 rfl rfl rfl ?_
          refine G_iload (pc := 76) dX0_lookAtChance_76 rfl ?_
          refine G_iaload (pc := 78) dX0_lookAtChance_78 rfl rfl (by omega) ?_
          try simp (disch := decide) only [su_ne, su_at, su_same, sv_ne, sv_at]
          refine G_iload_n (pc := 79) dX0_lookAtChance_79 rfl ?_
          refine G_icmp_ne (pc := 80) (tgt := 88) dX0_lookAtChance_80 rfl (fun h_80 => ?_) (fun h_80 => ?_)
          · refine G_iload (pc := 88) dX0_lookAtChance_88 rfl ?_
            refine G_ineg (pc := 90) dX0_lookAtChance_90 (by omega) ?_
            exact j_91 _ (by rw [← hsg]; first | rw [if_pos h_80] | rw [if_neg h_80])
          · refine G_iload (pc := 83) dX0_lookAtChance_83 rfl ?_
            refine G_goto (pc := 85) (tgt := 91) dX0_lookAtChance_85 rfl ?_
            exact j_91 _ (by rw [← hsg]; first | rw [if_pos h_80] | rw [if_neg h_80])
      · refine G_iconst (pc := 67) dX0_lookAtChance_67 (by decide) ?_
        exact G_zreturn (pc := 68) dX0_lookAtChance_68 (by first | exact Or.inl rfl | exact Or.inr rfl | omega | (split <;> first | exact Or.inl rfl | exact Or.inr rfl)) ⟨0, rfl, Or.inl rfl, ⟨fun z => by omega, fun z => by have := hcd.mp z; omega⟩, t 650 0, t 651 0, t 652 0, (pos3_id t).symm, fun z => by omega⟩
