/-! THE ORDER: the reference, walked -/
def keptO (w : Nat) : Prop := w ≠ 50 ∧ w ≠ 51 ∧ w ≠ 2210
def FOq (e : SE) (i : Int) (t u : Sto) : Prop := u 2210 0 = (oz e (rho (lsE e) e.n i)).2.2 ∧ (∀ j, 0 ≤ j → j < (oz e (rho (lsE e) e.n i)).2.2 → u 50 j = (oz e (rho (lsE e) e.n i)).2.1 j) ∧ EOK (eO e (u 50) (u 2210 0)) ∧ (∀ w, keptO w → u w = t w)
set_option maxHeartbeats 1000000 in
theorem c_X9_findOrder (t : Sto) (i : Int) (e : SE) (hM : EM e t) (hS : SOE e) (hi : 0 ≤ i ∧ i < cntS e.n e.k e.fr e.to) (hp : ∀ q, 0 ≤ q → q < e.n → t 45 q = parS e.n e.k e.fr e.to q) : CT yX9_findOrder cX9_findOrder 4 none 1 [mP 31, mI i] t (fun a t' => a = none ∧ FOq e i t t') := by
  refine CT_of rfl rfl (Nat.le_of_ble_eq_true rfl) (fun E ht has => ?_)
  have hn24 := hS.1
  have hn : t 2184 0 = e.n := hM.1
  obtain ⟨a1, a2, a3⟩ := rho_ok (A := lsE e) hS.1.1 hi.1 hi.2
  generalize hroot : rho (lsE e) e.n i = root at *
  -- one round
  have rnd : ∀ s : Sto, (∀ w, keptO w → s w = t w) → ∀ c, c = s 2210 0 → (0 ≤ c ∧ c ≤ 24) → ∀ Z, fst (scP e (t 45) (s 51) i c) 0 e.n = Z → (0 ≤ Z → c < 24) →
      (∀ (o3 : Option MV), 0 ≤ Z → G E cX9_findOrder RX9 none 1 30 [some (mP 31), some (mI i), some (mI 1), o3] [] (su (su (su s 50 c Z) 51 Z 1) 2210 0 (c + 1)) (fun a t' => a = none ∧ FOq e i t t')) →
      (Z < 0 → FOq e i t s) → ∀ o3 : Option MV, G E cX9_findOrder RX9 none 1 30 [some (mP 31), some (mI i), some (mI 1), o3] [] s (fun a t' => a = none ∧ FOq e i t t') := by
    intro s hw c hc hcb Z hZ hcZ k1 k2 o3
    have s2184 : s 2184 0 = e.n := by rw [hw 2184 (by unfold keptO; decide)]; exact hn
    have s45 : s 45 = t 45 := hw 45 (by unfold keptO; decide)
    have hMs : EM e s := by
      unfold EM
      rw [hw 2184 (by unfold keptO; decide), hw 2188 (by unfold keptO; decide), hw 35 (by unfold keptO; decide), hw 36 (by unfold keptO; decide), hw 37 (by unfold keptO; decide), hw 38 (by unfold keptO; decide)]
      exact hM
    have hSM := EM_SM hS hMs
    have hjn : ∀ r, fst (jnP (s 35) (s 37) (s 51) r) 0 (s 2188 0) = fst (jnP e.fr e.to (s 51) r) 0 e.k := fun r => by rw [hMs.2.1, hMs.2.2.1, hMs.2.2.2.2.1]
    -- the end of a round that found none
    have e0 : Z < 0 → ∀ o3 : Option MV, G E cX9_findOrder RX9 none 1 30 [some (mP 31), some (mI i), some (mI 0), o3] [] s (fun a t' => a = none ∧ FOq e i t t') := by
      intro hz o3
      refine G_iload_n (pc := 30) dX9_findOrder_30 rfl ?_
      refine G_if_eq (pc := 31) (tgt := 122) dX9_findOrder_31 rfl (fun h_31 => ?_) (fun h_31 => ?_)
      · try simp only [bq0, ne_eq, Classical.not_not] at h_31
        exact G_return (pc := 122) dX9_findOrder_122 ⟨rfl, k2 hz⟩
      · try simp only [bq0, ne_eq, Classical.not_not] at h_31
        exact absurd trivial h_31
    have e1 : 0 ≤ Z → ∀ r, G E cX9_findOrder RX9 none 1 38 [some (mP 31), some (mI i), some (mI 1), some (mI r)] [] (su (su (su s 50 c Z) 51 Z 1) 2210 0 (c + 1)) (fun a t' => a = none ∧ FOq e i t t') := by
      intro hz r
      have q : su (su (su s 50 c Z) 51 Z 1) 2210 0 (c + 1) 2184 = s 2184 := by rw [su_ne (by decide), su_ne (by decide), su_ne (by decide)]
      refine G_iload_n (pc := 38) dX9_findOrder_38 rfl ?_
      refine G_aload_n (pc := 39) dX9_findOrder_39 rfl ?_
      refine G_getI (pc := 40) dX9_findOrder_40 fk_X9_86 rfl rfl rfl ?_
      refine G_icmp_ge (pc := 43) (tgt := 119) dX9_findOrder_43 rfl (fun h_43 => ?_) (fun h_43 => ?_)
      · refine G_goto (pc := 119) (tgt := 30) dX9_findOrder_119 rfl ?_
        exact k1 _ hz
      · refine G_iload_n (pc := 46) dX9_findOrder_46 rfl ?_
        refine G_if_ne (pc := 47) (tgt := 119) dX9_findOrder_47 rfl (fun h_47 => ?_) (fun h_47 => ?_)
        · try simp only [bq0, ne_eq, Classical.not_not] at h_47
          refine G_goto (pc := 119) (tgt := 30) dX9_findOrder_119 rfl ?_
          exact k1 _ hz
        · try simp only [bq0, ne_eq, Classical.not_not] at h_47
          exact absurd h_47 (by decide)
    have scan : ∀ r, r ≤ e.n → 0 ≤ r → fst (scP e (t 45) (s 51) i c) r e.n = Z → G E cX9_findOrder RX9 none 1 38 [some (mP 31), some (mI i), some (mI 0), some (mI r)] [] s (fun a t' => a = none ∧ FOq e i t t') := by
      refine up_ind (fun r hr ih r0 hX => ?_)
      have hnx : r < e.n → ¬ scP e (t 45) (s 51) i c r → fst (scP e (t 45) (s 51) i c) (r + 1) e.n = Z := fun h1 h2 => by rw [fst_neg h1 h2] at hX; exact hX
      have hyx : r < e.n → scP e (t 45) (s 51) i c r → Z = r := fun h1 h2 => by rw [fst_pos h1 h2] at hX; exact hX.symm
      have take : r < e.n → scP e (t 45) (s 51) i c r → G E cX9_findOrder RX9 none 1 84 [some (mP 31), some (mI i), some (mI 0), some (mI r)] [] s (fun a t' => a = none ∧ FOq e i t t') := by
        intro h1 h2
        have hz := hyx h1 h2
        have hc24 := hcZ (by omega)
        subst hz
        refine G_aload_n (pc := 84) dX9_findOrder_84 rfl ?_
        refine G_getP (pc := 85) dX9_findOrder_85 fk_X9_65 rfl rfl rfl ?_
        refine G_aload_n (pc := 88) dX9_findOrder_88 rfl ?_
        refine G_getI (pc := 89) dX9_findOrder_89 fk_X9_175 rfl rfl rfl ?_
        rw [← hc]
        refine G_iload_n (pc := 92) dX9_findOrder_92 rfl ?_
        refine G_iastore (pc := 93) dX9_findOrder_93 rfl rfl (by omega) ?_
        refine G_aload_n (pc := 94) dX9_findOrder_94 rfl ?_
        refine G_getP (pc := 95) dX9_findOrder_95 fk_X9_68 rfl rfl rfl ?_
        refine G_iload_n (pc := 98) dX9_findOrder_98 rfl ?_
        refine G_iconst (pc := 99) dX9_findOrder_99 (by decide) ?_
        refine G_bastore (pc := 100) dX9_findOrder_100 rfl rfl (by omega) (by first | exact Or.inl rfl | exact Or.inr rfl | omega) ?_
        refine G_aload_n (pc := 101) dX9_findOrder_101 rfl ?_
        refine G_dup (pc := 102) dX9_findOrder_102 rfl ?_
        refine G_getI (pc := 103) dX9_findOrder_103 fk_X9_175 rfl rfl rfl ?_
        try simp (disch := decide) only [su_ne, su_at, su_same, sv_ne, sv_at]
        try rw [← hc]
        refine G_iconst (pc := 106) dX9_findOrder_106 (by decide) ?_
        refine G_iadd (pc := 107) dX9_findOrder_107 (by omega) ?_
        refine G_put (pc := 108) dX9_findOrder_108 fk_X9_175 fw_X9_26 rfl rfl rfl (fun h => absurd h (by decide)) ?_
        refine G_iconst (pc := 111) dX9_findOrder_111 (by decide) ?_
        refine G_istore_n (pc := 112) dX9_findOrder_112 (Nat.le_of_ble_eq_true rfl) rfl ?_
        refine G_iinc (pc := 113) dX9_findOrder_113 rfl rfl (by omega) ?_
        refine G_goto (pc := 116) (tgt := 38) dX9_findOrder_116 rfl ?_
        exact e1 (by omega) _
      refine G_iload_n (pc := 38) dX9_findOrder_38 rfl ?_
      refine G_aload_n (pc := 39) dX9_findOrder_39 rfl ?_
      refine G_getI (pc := 40) dX9_findOrder_40 fk_X9_86 rfl rfl rfl ?_
      rw [s2184]
      refine G_icmp_ge (pc := 43) (tgt := 119) dX9_findOrder_43 rfl (fun h_43 => ?_) (fun h_43 => ?_)
      · rw [fst_ge (by omega)] at hX
        refine G_goto (pc := 119) (tgt := 30) dX9_findOrder_119 rfl ?_
        exact e0 (by omega) _
      · refine G_iload_n (pc := 46) dX9_findOrder_46 rfl ?_
        refine G_if_ne (pc := 47) (tgt := 119) dX9_findOrder_47 rfl (fun h_47 => ?_) (fun h_47 => ?_)
        · try simp only [bq0, ne_eq, Classical.not_not] at h_47
          exact absurd trivial h_47
        · try simp only [bq0, ne_eq, Classical.not_not] at h_47
          refine G_aload_n (pc := 50) dX9_findOrder_50 rfl ?_
          refine G_getP (pc := 51) dX9_findOrder_51 fk_X9_50 rfl rfl rfl ?_
          refine G_iload_n (pc := 54) dX9_findOrder_54 rfl ?_
          refine G_iaload (pc := 55) dX9_findOrder_55 rfl rfl (by omega) ?_
          rw [s45]
          refine G_iload_n (pc := 56) dX9_findOrder_56 rfl ?_
          refine G_icmp_ne (pc := 57) (tgt := 113) dX9_findOrder_57 rfl (fun h_57 => ?_) (fun h_57 => ?_)
          · refine G_iinc (pc := 113) dX9_findOrder_113 rfl rfl (by omega) ?_
            refine G_goto (pc := 116) (tgt := 38) dX9_findOrder_116 rfl ?_
            first | exact ih (by omega) (by omega) (hnx (by omega) (fun y => h_57 y.1)) | exact ih (by omega) (by omega) (hnx (by omega) (fun y => h_66 y.2.1)) | exact ih (by omega) (by omega) (hnx (by omega) (fun y => by rcases y.2.2 with x | x; (exact h_73 x); (rw [← hjn] at x; exact h_81 x)))
          · refine G_aload_n (pc := 60) dX9_findOrder_60 rfl ?_
            refine G_getP (pc := 61) dX9_findOrder_61 fk_X9_68 rfl rfl rfl ?_
            refine G_iload_n (pc := 64) dX9_findOrder_64 rfl ?_
            refine G_baload (pc := 65) dX9_findOrder_65 rfl rfl (by omega) ?_
            refine G_if_ne (pc := 66) (tgt := 113) dX9_findOrder_66 rfl (fun h_66 => ?_) (fun h_66 => ?_)
            · try simp only [bq0, ne_eq, Classical.not_not] at h_66
              refine G_iinc (pc := 113) dX9_findOrder_113 rfl rfl (by omega) ?_
              refine G_goto (pc := 116) (tgt := 38) dX9_findOrder_116 rfl ?_
              first | exact ih (by omega) (by omega) (hnx (by omega) (fun y => h_57 y.1)) | exact ih (by omega) (by omega) (hnx (by omega) (fun y => h_66 y.2.1)) | exact ih (by omega) (by omega) (hnx (by omega) (fun y => by rcases y.2.2 with x | x; (exact h_73 x); (rw [← hjn] at x; exact h_81 x)))
            · try simp only [bq0, ne_eq, Classical.not_not] at h_66
              refine G_aload_n (pc := 69) dX9_findOrder_69 rfl ?_
              refine G_getI (pc := 70) dX9_findOrder_70 fk_X9_175 rfl rfl rfl ?_
              rw [← hc]
              refine G_if_eq (pc := 73) (tgt := 84) dX9_findOrder_73 rfl (fun h_73 => ?_) (fun h_73 => ?_)
              · try simp only [bq0, ne_eq, Classical.not_not] at h_73
                first | exact take (by omega) ⟨h_57, h_66, Or.inl h_73⟩ | exact take (by omega) ⟨h_57, h_66, Or.inr (by rw [← hjn]; exact h_81)⟩
              · try simp only [bq0, ne_eq, Classical.not_not] at h_73
                refine G_aload_n (pc := 76) dX9_findOrder_76 rfl ?_
                refine G_iload_n (pc := 77) dX9_findOrder_77 rfl ?_
                refine G_cV1 (pc := 78) (c_X9_hasTaken _ _ (by exact hSM) (by rw [s2184]; omega)) dX9_findOrder_78 ml_X9_178 rfl rfl rfl (by decide) (Nat.le_of_ble_eq_true rfl) ?_
                refine G_if_eq (pc := 81) (tgt := 113) dX9_findOrder_81 rfl (fun h_81 => ?_) (fun h_81 => ?_)
                · try simp only [bq0, ne_eq, Classical.not_not] at h_81
                  refine G_iinc (pc := 113) dX9_findOrder_113 rfl rfl (by omega) ?_
                  refine G_goto (pc := 116) (tgt := 38) dX9_findOrder_116 rfl ?_
                  first | exact ih (by omega) (by omega) (hnx (by omega) (fun y => h_57 y.1)) | exact ih (by omega) (by omega) (hnx (by omega) (fun y => h_66 y.2.1)) | exact ih (by omega) (by omega) (hnx (by omega) (fun y => by rcases y.2.2 with x | x; (exact h_73 x); (rw [← hjn] at x; exact h_81 x)))
                · try simp only [bq0, ne_eq, Classical.not_not] at h_81
                  first | exact take (by omega) ⟨h_57, h_66, Or.inl h_73⟩ | exact take (by omega) ⟨h_57, h_66, Or.inr (by rw [← hjn]; exact h_81)⟩
    refine G_iload_n (pc := 30) dX9_findOrder_30 rfl ?_
    refine G_if_eq (pc := 31) (tgt := 122) dX9_findOrder_31 rfl (fun h_31 => ?_) (fun h_31 => ?_)
    · try simp only [bq0, ne_eq, Classical.not_not] at h_31
      exact absurd h_31 (by decide)
    · try simp only [bq0, ne_eq, Classical.not_not] at h_31
      refine G_iconst (pc := 34) dX9_findOrder_34 (by decide) ?_
      refine G_istore_n (pc := 35) dX9_findOrder_35 (Nat.le_of_ble_eq_true rfl) rfl ?_
      refine G_iconst (pc := 36) dX9_findOrder_36 (by decide) ?_
      refine G_istore_n (pc := 37) dX9_findOrder_37 (Nat.le_of_ble_eq_true rfl) rfl ?_
      exact scan 0 (by omega) (by omega) hZ
  have outer : ∀ c, c ≤ 24 → ∀ (s : Sto) (o3 : Option MV) (f : Nat), 1 ≤ c → c = s 2210 0 → (f : Int) = 25 - c → OI e root (s 51, s 50, c) → ordF e f (s 51, s 50, c) = ordF e 24 (fu (glue e.n (fun _ => 0) (t 51)) root 1, fu (t 50) 0 root, 1) → (∀ w, keptO w → s w = t w) → G E cX9_findOrder RX9 none 1 30 [some (mP 31), some (mI i), some (mI 1), o3] [] s (fun a t' => a = none ∧ FOq e i t t') := by
    refine up_ind (fun c hc ih s o3 f c1 hcs hf hO hW hw => ?_)
    refine rnd s hw c hcs (by omega) (nxT e (s 51)) (sc_next hS hi.1 hi.2 hp (by rw [hroot]; exact hO)) (fun hz => ?_) (fun o3 hz => ?_) (fun hz => ?_) o3
    · exact OI_c hS hO (by show ¬ nxT e (s 51) < 0; omega)
    · have hz' : ¬ nxT e (s 51) < 0 := by omega
      have hc24 : c < 24 := OI_c hS hO hz'
      have hO1 := OI_step hS hO hz'
      have e9 : od1 e (s 51, s 50, c) = (fu (s 51) (nxT e (s 51)) 1, fu (s 50) c (nxT e (s 51)), c + 1) := by
        unfold od1
        show (fu (s 51) (nxT e (s 51)) 1, (if c < 24 then fu (s 50) c (nxT e (s 51)) else s 50), (if c < 24 then c + 1 else c)) = _
        rw [if_pos hc24, if_pos hc24]
      rw [e9] at hO1
      generalize hu : su (su (su s 50 c (nxT e (s 51))) 51 (nxT e (s 51)) 1) 2210 0 (c + 1) = u
      have u50 : u 50 = fu (s 50) c (nxT e (s 51)) := by rw [← hu, su_ne (by decide), su_ne (by decide), su_row, sv_at]
      have u51 : u 51 = fu (s 51) (nxT e (s 51)) 1 := by rw [← hu, su_ne (by decide), su_row, sv_at, su_ne (by decide)]
      have u2210 : u 2210 0 = c + 1 := by rw [← hu, su_at]
      refine ih (by omega) u o3 (f - 1) (by omega) u2210.symm (by omega) (by rw [u50, u51]; exact hO1) ?_ (fun w h9 => ?_)
      · rw [u50, u51, ← e9, ← hW]
        rw [show f = (f - 1) + 1 by omega, ordF_go (z := (s 51, s 50, c)) hz']
        rfl
      · rw [← hu, su_ne h9.2.2, su_ne h9.2.1, su_ne h9.1]
        exact hw w h9
    · rw [ordF_end (z := (s 51, s 50, c)) hz] at hW
      obtain ⟨x1, x2, x3⟩ := ord_congr hS 24 (fu (glue e.n (fun _ => 0) (t 51)) root 1, fu (t 50) 0 root, 1) (fu (fun _ => 0) root 1, fu (fun _ => 0) 0 root, 1) (by show (0 : Int) ≤ 1; omega) (fun q q0 q1 => by
        show fu (glue e.n (fun _ => 0) (t 51)) root 1 q = fu (fun _ => 0) root 1 q
        by_cases y : q = root
        · rw [y, fu_at, fu_at]
        · rw [fu_ne y, fu_ne y, glue0 q0 q1]) rfl (fun j j0 j1 => by
        have j1' : j < 1 := j1
        show fu (t 50) 0 root j = fu (fun _ => 0) 0 root j
        rw [show j = 0 by omega, fu_at, fu_at])
      rw [← hW] at x1 x2 x3
      have x1' : c = (oz e root).2.2 := x1
      unfold FOq
      rw [hroot]
      refine ⟨by rw [← hcs]; exact x1', fun j j0 j1 => x3 j j0 (by show j < c; omega), ?_, hw⟩
      rw [← hcs]
      exact OI_EOK hS hO
  have loop : ∀ r, r ≤ e.n → 0 ≤ r → ∀ (o3 : Option MV), G E cX9_findOrder RX9 none 1 7 [some (mP 31), some (mI i), some (mI r), o3] [] (sv (su t 2210 0 0) 51 (glue r (fun _ => 0) (t 51))) (fun a t' => a = none ∧ FOq e i t t') := by
    refine up_ind (fun r hr ih r0 o3 => ?_)
    have q1 : sv (su t 2210 0 0) 51 (glue r (fun _ => 0) (t 51)) 2184 0 = e.n := by rw [sv_ne (by decide), su_ne (by decide)]; exact hn
    have q2 : su (sv (su t 2210 0 0) 51 (glue r (fun _ => 0) (t 51))) 51 r 0 = sv (su t 2210 0 0) 51 (glue (r + 1) (fun _ => 0) (t 51)) := by
      rw [su_row, sv_sv, sv_at, ← glue_succ r0]
    have fin : r = e.n → G E cX9_findOrder RX9 none 1 30 [some (mP 31), some (mI i), some (mI 1), o3] [] (sv (su t 2210 0 0) 51 (glue r (fun _ => 0) (t 51))) (fun a t' => a = none ∧ FOq e i t t') := by
      intro hre
      generalize hs : sv (su t 2210 0 0) 51 (glue r (fun _ => 0) (t 51)) = s
      have s51 : s 51 = glue e.n (fun _ => 0) (t 51) := by rw [← hs, sv_at, hre]
      have s50 : s 50 = t 50 := by rw [← hs, sv_ne (by decide), su_ne (by decide)]
      have s2210 : s 2210 0 = 0 := by rw [← hs, sv_ne (by decide), su_at]
      have sw : ∀ w, keptO w → s w = t w := fun w h9 => by rw [← hs, sv_ne h9.2.1, su_ne h9.2.2]
      have hz0 : ∀ q, 0 ≤ q → q < e.n → s 51 q = 0 := fun q q0 q1 => by rw [s51, glue0 q0 q1]
      refine rnd s sw 0 s2210.symm (by omega) root (by rw [← hroot]; exact sc_first hS hi.1 hi.2 hp hz0) (fun _ => by omega) (fun o3 hz => ?_) (fun hz => by omega) o3
      generalize hu : su (su (su s 50 0 root) 51 root 1) 2210 0 (0 + 1) = u
      have u50 : u 50 = fu (t 50) 0 root := by rw [← hu, su_ne (by decide), su_ne (by decide), su_row, sv_at, s50]
      have u51 : u 51 = fu (glue e.n (fun _ => 0) (t 51)) root 1 := by rw [← hu, su_ne (by decide), su_row, sv_at, su_ne (by decide), s51]
      have u2210 : u 2210 0 = 1 := by rw [← hu, su_at]; rfl
      refine outer 1 (by omega) u o3 24 (by omega) u2210.symm (by omega) ?_ (by rw [u50, u51]) (fun w h9 => ?_)
      · rw [u50, u51]
        exact OI_start hS a1.1 a1.2 (fun q q0 q1 => glue0 q0 q1)
      · rw [← hu, su_ne h9.2.2, su_ne h9.2.1, su_ne h9.1]
        exact sw w h9
    refine G_iload_n (pc := 7) dX9_findOrder_7 rfl ?_
    refine G_aload_n (pc := 8) dX9_findOrder_8 rfl ?_
    refine G_getI (pc := 9) dX9_findOrder_9 fk_X9_86 rfl rfl rfl ?_
    rw [q1]
    refine G_icmp_ge (pc := 12) (tgt := 28) dX9_findOrder_12 rfl (fun h_12 => ?_) (fun h_12 => ?_)
    · refine G_iconst (pc := 28) dX9_findOrder_28 (by decide) ?_
      refine G_istore_n (pc := 29) dX9_findOrder_29 (Nat.le_of_ble_eq_true rfl) rfl ?_
      exact fin (by omega)
    · refine G_aload_n (pc := 15) dX9_findOrder_15 rfl ?_
      refine G_getP (pc := 16) dX9_findOrder_16 fk_X9_68 rfl rfl rfl ?_
      refine G_iload_n (pc := 19) dX9_findOrder_19 rfl ?_
      refine G_iconst (pc := 20) dX9_findOrder_20 (by decide) ?_
      refine G_bastore (pc := 21) dX9_findOrder_21 rfl rfl (by omega) (by first | exact Or.inl rfl | exact Or.inr rfl | omega) ?_
      rw [q2]
      refine G_iinc (pc := 22) dX9_findOrder_22 rfl rfl (by omega) ?_
      refine G_goto (pc := 25) (tgt := 7) dX9_findOrder_25 rfl ?_
      exact ih (by omega) (by omega) _
  refine G_aload_n (pc := 0) dX9_findOrder_0 rfl ?_
  refine G_iconst (pc := 1) dX9_findOrder_1 (by decide) ?_
  refine G_put (pc := 2) dX9_findOrder_2 fk_X9_175 fw_X9_26 rfl rfl rfl (fun h => absurd h (by decide)) ?_
  refine G_iconst (pc := 5) dX9_findOrder_5 (by decide) ?_
  refine G_istore_n (pc := 6) dX9_findOrder_6 (Nat.le_of_ble_eq_true rfl) rfl ?_
  have h := loop 0 (by omega) (by omega) none
  rw [glue_0, show t 51 = su t 2210 0 0 51 by rw [su_ne (by decide)], sv_id] at h
  exact h
