/-! GROWING: the reference, walked -/
theorem jn_nbE {e : SE} (hS : SOE e) {ps : Int → Int} {r : Int} (hz : ps r = 0) : (0 ≤ fst (jnP e.fr e.to ps r) 0 e.k ↔ 0 ≤ nbS e.k e.fr e.to ps r) := by
  have e1 : fst (jnP e.fr e.to ps r) 0 e.k = fst (nbP e.fr e.to ps r) 0 e.k := fst_congr (fun l _ _ => jn_nb hz l)
  rw [e1]
  unfold nbS
  rcases fst_spec (nbP e.fr e.to ps r) 0 e.k with ⟨b1, b2⟩ | ⟨b1, b2, b3, b4⟩
  · rw [if_pos (by omega)]; omega
  · rw [if_neg (by omega)]
    have := oth_r hS r b1 b2
    omega
def GMq (e : SE) (t u : Sto) : Prop := pQ u = GR e (pQ t) ∧ u 2198 0 = 0 ∧ BNM u ∧ BP e.n (52000 + 30 * cntP e.n (u 39)) (pQ u) ∧ (∀ w, keptG w → u w = t w)
set_option maxHeartbeats 1000000 in
theorem c_X9_grow (t : Sto) (e : SE) (hM : EM e t) (hS : SOE e) (hp : ∀ r, t 39 r = 0 ∨ t 39 r = 1) (hQ : BN 60000 (t 40) ∧ BN 60000 (t 41) ∧ BN 60000 (t 42)) (hN : BNM t) (hB : BP e.n (52000 + 30 * cntP e.n (t 39)) (pQ t)) : CT yX9_grow cX9_grow 6 (some .int) 5 [mP 31] t (fun a t' => ∃ x, a = some (mI x) ∧ (GMq e t t' ∧ x = beE e (pQ t'))) := by
  refine CT_of rfl rfl (Nat.le_of_ble_eq_true rfl) (fun E ht has => ?_)
  have hn24 := hS.1
  have one : ∀ (s : Sto) (o2 o3 o4 o5 : Option MV), GMI e t s → (∀ (u : Sto) (o2 o3 o4 o5 : Option MV), ¬ unE e (pQ s) < 0 → GMI e t u → cntP e.n (u 39) = cntP e.n (s 39) + 1 → G E cX9_grow RX9 (some .int) 5 11 [some (mP 31), some (mI 1), o2, o3, o4, o5] [] u (fun a t' => ∃ x, a = some (mI x) ∧ (GMq e t t' ∧ x = beE e (pQ t')))) → G E cX9_grow RX9 (some .int) 5 11 [some (mP 31), some (mI 1), o2, o3, o4, o5] [] s (fun a t' => ∃ x, a = some (mI x) ∧ (GMq e t t' ∧ x = beE e (pQ t'))) := by
    intro s o2 o3 o4 o5 hI knext
    obtain ⟨hMs, hA, hG, hNs, hBs, h2198, hw⟩ := id hI
    have hSM := EM_SM hS hMs
    have s2184 : s 2184 0 = e.n := hMs.1
    have fin0 : unE e (pQ s) < 0 → ∀ (o2 o3 o4 o5 : Option MV), G E cX9_grow RX9 (some .int) 5 11 [some (mP 31), some (mI 0), o2, o3, o4, o5] [] s (fun a t' => ∃ x, a = some (mI x) ∧ (GMq e t t' ∧ x = beE e (pQ t'))) := by
      intro hu o2 o3 o4 o5
      have hbe : bentS (s 2184 0) (s 2188 0) (s 35) (s 36) (s 37) (s 46) (s 47) (s 48) (s 49) = beE e (pQ s) := by
        obtain ⟨h1, h2, h3, h4, h5, h6⟩ := hMs
        rw [h1, h2, h3, h4, h5, AG_be hS hA]
        rfl
      refine G_iload_n (pc := 11) dX9_grow_11 rfl ?_
      refine G_if_eq (pc := 12) (tgt := 130) dX9_grow_12 rfl (fun h_12 => ?_) (fun h_12 => ?_)
      · try simp only [bq0, ne_eq, Classical.not_not] at h_12
        refine G_aload_n (pc := 130) dX9_grow_130 rfl ?_
        refine G_cV1 (pc := 131) (c_X9_bentNow _ (by exact hSM) (by exact BN_BD hNs.1 (by decide)) (by exact BN_BD hNs.2.1 (by decide)) (by exact BN_BD hNs.2.2 (by decide))) dX9_grow_131 ml_X9_218 rfl rfl rfl (by decide) (Nat.le_of_ble_eq_true rfl) ?_
        exact G_ireturn (pc := 134) dX9_grow_134 ⟨_, rfl, ⟨by rw [← hG, GR_end hS hu], h2198, hNs, hBs, hw⟩, hbe⟩
      · try simp only [bq0, ne_eq, Classical.not_not] at h_12
        exact absurd trivial h_12
    have hgo : ¬ unE e (pQ s) < 0 → ∀ (v : Sto), pM v = putF (pM s) (rmE e (pQ s)) (gxE e (pM s)) (gyE e (pM s)) (glE e (pM s)) → (∀ w, keptM w → v w = s w) → ∀ (o3 o4 o5 : Option MV), G E cX9_grow RX9 (some .int) 5 122 [some (mP 31), some (mI 1), some (mI (rmE e (pQ s))), o3, o4, o5] [] v (fun a t' => ∃ x, a = some (mI x) ∧ (GMq e t t' ∧ x = beE e (pQ t'))) := by
      intro hu v hv hk o3 o4 o5
      obtain ⟨r1, r2⟩ := rm_spec hu
      obtain ⟨g1, g2⟩ := gm_step hS hI hu hv hk _ rfl
      refine G_aload_n (pc := 122) dX9_grow_122 rfl ?_
      refine G_iload_n (pc := 123) dX9_grow_123 rfl ?_
      refine G_cV0 (pc := 124) (c_X9_keep _ _ (by omega)) dX9_grow_124 ml_X9_227 rfl rfl rfl (by decide) (Nat.le_of_ble_eq_true rfl) ?_
      refine G_goto (pc := 127) (tgt := 11) dX9_grow_127 rfl ?_
      exact knext _ _ _ _ _ hu g1 g2
    have tail : ∀ (nx jn r : Int) (o5 : Option MV), scG e (pQ s) 0 nx jn → G E cX9_grow RX9 (some .int) 5 90 [some (mP 31), some (mI 0), some (mI nx), some (mI jn), some (mI r), o5] [] s (fun a t' => ∃ x, a = some (mI x) ∧ (GMq e t t' ∧ x = beE e (pQ t'))) := by
      intro nx jn r o5 hsc
      obtain ⟨c1, c2, c3⟩ := scG_0 hsc
      have hnxM : nxE e (pQ s) = nxE e (pM s) := AG_nx hS hA
      have hrg : ¬ nx < 0 → 0 ≤ nx ∧ nx < e.n := fun z => by
        have := rm_spec (e := e) (p := pQ s) (fun y => z (c3.mpr y))
        rw [c1]; exact this.1
      have hea : nxE e (pM s) < 0 → (if (itr (higStep (s 46) (s 47)) 0 (s 2184 0) (0, 0)).1 = 0 then 0 else higS (s 2184 0) (s 46) (s 47) + 2) = gxE e (pM s) := by
        intro hx
        unfold gxE eaE
        rw [if_pos hx, s2184]
        have h0 := hig_0 (n := e.n) hn24.1 (s 46) (s 47)
        by_cases y : cntP e.n (s 46) = 0
        · rw [if_pos (h0.mpr y)]
          have : cntP e.n (pM s).ps = 0 := y
          rw [if_pos this]
        · rw [if_neg (fun z => y (h0.mp z))]
          have : ¬ cntP e.n (pM s).ps = 0 := y
          rw [if_neg this]
          rfl
      have hs1 : nxE e (pM s) < 0 → pM (standM s nx (gxE e (pM s)) 0 0) = putF (pM s) (rmE e (pQ s)) (gxE e (pM s)) (gyE e (pM s)) (glE e (pM s)) := by
        intro hx
        rw [standM_p, c1]
        have e1 : gyE e (pM s) = 0 := by unfold gyE; rw [if_pos hx]
        have e2 : glE e (pM s) = 0 := by unfold glE; rw [if_pos hx]
        rw [e1, e2]
      have hs2 : ¬ nxE e (pM s) < 0 → pM (sbT s nx 0) = putF (pM s) (rmE e (pQ s)) (gxE e (pM s)) (gyE e (pM s)) (glE e (pM s)) ∧ (∀ w, keptM w → sbT s nx 0 w = s w) ∧ 0 ≤ nbS (s 2188 0) (s 35) (s 37) (s 46) nx := by
        intro hx
        obtain ⟨b1, b2⟩ := sb_ok hMs nx 0 (fun z => by omega)
        obtain ⟨j1, j2, j3⟩ := sJ_0 hS (pM s) nx
        have enx : nx = nxE e (pM s) := by rw [c1]; unfold rmE; rw [hnxM, if_neg hx]
        refine ⟨?_, b2, ?_⟩
        · rw [b1, j1, j2, j3, ← c1]
          unfold gxE gyE glE
          rw [if_neg hx, if_neg hx, if_neg hx, ← enx]
        · obtain ⟨-, -, hnb⟩ := nx_spec hx
          rw [← enx] at hnb
          rw [hMs.2.1, hMs.2.2.1, hMs.2.2.2.2.1]
          exact hnb
      refine G_iload_n (pc := 90) dX9_grow_90 rfl ?_
      refine G_if_lt (pc := 91) (tgt := 127) dX9_grow_91 rfl (fun h_91 => ?_) (fun h_91 => ?_)
      · refine G_goto (pc := 127) (tgt := 11) dX9_grow_127 rfl ?_
        exact fin0 (c3.mp h_91) _ _ _ _
      · have hrr := hrg h_91
        have hun : ¬ unE e (pQ s) < 0 := fun z => h_91 (c3.mpr z)
        refine G_iconst (pc := 94) dX9_grow_94 (by decide) ?_
        refine G_istore_n (pc := 95) dX9_grow_95 (Nat.le_of_ble_eq_true rfl) rfl ?_
        refine G_iload_n (pc := 96) dX9_grow_96 rfl ?_
        refine G_if_eq (pc := 97) (tgt := 111) dX9_grow_97 rfl (fun h_97 => ?_) (fun h_97 => ?_)
        · try simp only [bq0, ne_eq, Classical.not_not] at h_97
          have hx : nxE e (pM s) < 0 := by rw [← hnxM]; exact c2.mp h_97
          refine G_aload_n (pc := 111) dX9_grow_111 rfl ?_
          refine G_iload_n (pc := 112) dX9_grow_112 rfl ?_
          refine G_aload_n (pc := 113) dX9_grow_113 rfl ?_
          refine G_cV1 (pc := 114) (c_X9_eastmost _ (by rw [s2184]; omega) (by exact BN_BD hNs.1 (by decide))) dX9_grow_114 ml_X9_224 rfl rfl rfl (by decide) (Nat.le_of_ble_eq_true rfl) ?_
          rw [hea hx]
          refine G_iconst (pc := 117) dX9_grow_117 (by decide) ?_
          refine G_iconst (pc := 118) dX9_grow_118 (by decide) ?_
          refine G_cV0 (pc := 119) (c_X9_stand _ _ _ _ _ (by omega)) dX9_grow_119 ml_X9_171 rfl rfl rfl (by decide) (Nat.le_of_ble_eq_true rfl) ?_
          first
          | (have hh := hgo hun _ (hs1 hx) (fun w hw9 => standM_ne _ _ _ _ _ ⟨hw9.1, hw9.2.1, hw9.2.2.1, hw9.2.2.2.1⟩); rw [← c1] at hh; exact hh _ _ _)
          | (have hh := hgo hun _ x1 x2; rw [← c1] at hh; exact hh _ _ _)
        · try simp only [bq0, ne_eq, Classical.not_not] at h_97
          have hx : ¬ nxE e (pM s) < 0 := by rw [← hnxM]; exact fun z => h_97 (c2.mpr z)
          obtain ⟨x1, x2, x3⟩ := hs2 hx
          refine G_aload_n (pc := 100) dX9_grow_100 rfl ?_
          refine G_iload_n (pc := 101) dX9_grow_101 rfl ?_
          refine G_iconst (pc := 102) dX9_grow_102 (by decide) ?_
          refine G_cV1 (pc := 103) (c_X9_standBy _ _ _ (by exact hSM) (by rw [s2184]; exact hrr) (by omega) (by exact fun _ => x3) (by exact BN_BD hNs.1 (by decide)) (by exact BN_BD hNs.2.1 (by decide)) (by exact BN_BD hNs.2.2 (by decide))) dX9_grow_103 ml_X9_194 rfl rfl rfl (by decide) (Nat.le_of_ble_eq_true rfl) ?_
          refine G_istore (pc := 106) dX9_grow_106 (Nat.le_of_ble_eq_true rfl) rfl ?_
          refine G_goto (pc := 108) (tgt := 122) dX9_grow_108 rfl ?_
          first
          | (have hh := hgo hun _ (hs1 hx) (fun w hw9 => standM_ne _ _ _ _ _ ⟨hw9.1, hw9.2.1, hw9.2.2.1, hw9.2.2.2.1⟩); rw [← c1] at hh; exact hh _ _ _)
          | (have hh := hgo hun _ x1 x2; rw [← c1] at hh; exact hh _ _ _)
    have scan : ∀ r, -1 ≤ r → ∀ (nx jn : Int) (o5 : Option MV), r < e.n → scG e (pQ s) (r + 1) nx jn → G E cX9_grow RX9 (some .int) 5 30 [some (mP 31), some (mI 0), some (mI nx), some (mI jn), some (mI r), o5] [] s (fun a t' => ∃ x, a = some (mI x) ∧ (GMq e t t' ∧ x = beE e (pQ t'))) := by
      refine down_ind (fun r hr ih nx jn o5 hrn hsc => ?_)
      have hst := fun h0 => scG_step hsc h0 hrn
      have hps : 0 ≤ r → (pQ s).ps r = s 46 r := fun h0 => (hA r h0 hrn).1
      have hjn : 0 ≤ r → s 46 r = 0 → (0 ≤ fst (jnP (s 35) (s 37) (s 46) r) 0 (s 2188 0) ↔ 0 ≤ nbE e (pQ s) r) := by
        intro h0 h1
        rw [AG_nb hS hA r, hMs.2.1, hMs.2.2.1, hMs.2.2.2.2.1]
        exact jn_nbE hS h1
      generalize hZ : fst (jnP (s 35) (s 37) (s 46) r) 0 (s 2188 0) = Z at *
      refine G_iload (pc := 30) dX9_grow_30 rfl ?_
      refine G_if_lt (pc := 32) (tgt := 90) dX9_grow_32 rfl (fun h_32 => ?_) (fun h_32 => ?_)
      · have hr1 : r = -1 := by omega
        rw [hr1] at hsc
        exact tail nx jn r _ hsc
      · refine G_aload_n (pc := 35) dX9_grow_35 rfl ?_
        refine G_getP (pc := 36) dX9_grow_36 fk_X9_53 rfl rfl rfl ?_
        refine G_iload (pc := 39) dX9_grow_39 rfl ?_
        refine G_baload (pc := 41) dX9_grow_41 rfl rfl (by omega) ?_
        refine G_if_ne (pc := 42) (tgt := 84) dX9_grow_42 rfl (fun h_42 => ?_) (fun h_42 => ?_)
        · try simp only [bq0, ne_eq, Classical.not_not] at h_42
          refine G_iinc (pc := 84) dX9_grow_84 rfl rfl (by omega) ?_
          refine G_goto (pc := 87) (tgt := 30) dX9_grow_87 rfl ?_
          rw [show r + -1 = r - 1 by omega]
          first
          | exact ih (by omega) _ _ _ (by omega) (by rw [show r - 1 + 1 = r by omega]; exact (hst (by omega)).2 (by rw [hps (by omega)]; exact h_42) _ _ (by rw [hv_68]; by_cases y : 0 ≤ Z ∨ jn = 0; (rw [if_pos y, if_pos (by rw [← hjn (by omega) h_42]; exact y)]); (rw [if_neg y, if_neg (by rw [← hjn (by omega) h_42]; exact y)])) (by rw [hv_83]; by_cases y : jn ≠ 0 ∨ 0 ≤ Z; (rw [if_pos y, if_pos (by rw [← hjn (by omega) h_42]; exact y)]); (rw [if_neg y, if_neg (by rw [← hjn (by omega) h_42]; exact y)])))
          | exact ih (by omega) _ _ _ (by omega) (by rw [show r - 1 + 1 = r by omega]; exact (hst (by omega)).1 (by rw [hps (by omega)]; exact h_42))
        · try simp only [bq0, ne_eq, Classical.not_not] at h_42
          refine G_aload_n (pc := 45) dX9_grow_45 rfl ?_
          refine G_iload (pc := 46) dX9_grow_46 rfl ?_
          refine G_cV1 (pc := 48) (c_X9_isJoined _ _ (by exact hSM) (by rw [s2184]; omega)) dX9_grow_48 ml_X9_221 rfl rfl rfl (by decide) (Nat.le_of_ble_eq_true rfl) ?_
          rw [hZ]
          refine G_istore (pc := 51) dX9_grow_51 (Nat.le_of_ble_eq_true rfl) rfl ?_
          refine G_join (pc := 53) (P := fun v => v = @ite _ (0 ≤ Z ∨ jn = 0) (Classical.propDecidable _) r nx) 68 (fun v_68 hv_68 => ?_) (fun j_68 => ?_)
          · refine G_istore_n (pc := 68) dX9_grow_68 (Nat.le_of_ble_eq_true rfl) rfl ?_
            refine G_join (pc := 69) (P := fun v => v = @ite _ (jn ≠ 0 ∨ 0 ≤ Z) (Classical.propDecidable _) 1 0) 83 (fun v_83 hv_83 => ?_) (fun j_83 => ?_)
            · refine G_istore_n (pc := 83) dX9_grow_83 (Nat.le_of_ble_eq_true rfl) rfl ?_
              refine G_iinc (pc := 84) dX9_grow_84 rfl rfl (by omega) ?_
              refine G_goto (pc := 87) (tgt := 30) dX9_grow_87 rfl ?_
              rw [show r + -1 = r - 1 by omega]
              first
              | exact ih (by omega) _ _ _ (by omega) (by rw [show r - 1 + 1 = r by omega]; exact (hst (by omega)).2 (by rw [hps (by omega)]; exact h_42) _ _ (by rw [hv_68]; by_cases y : 0 ≤ Z ∨ jn = 0; (rw [if_pos y, if_pos (by rw [← hjn (by omega) h_42]; exact y)]); (rw [if_neg y, if_neg (by rw [← hjn (by omega) h_42]; exact y)])) (by rw [hv_83]; by_cases y : jn ≠ 0 ∨ 0 ≤ Z; (rw [if_pos y, if_pos (by rw [← hjn (by omega) h_42]; exact y)]); (rw [if_neg y, if_neg (by rw [← hjn (by omega) h_42]; exact y)])))
              | exact ih (by omega) _ _ _ (by omega) (by rw [show r - 1 + 1 = r by omega]; exact (hst (by omega)).1 (by rw [hps (by omega)]; exact h_42))
            · refine G_iload_n (pc := 69) dX9_grow_69 rfl ?_
              refine G_if_ne (pc := 70) (tgt := 78) dX9_grow_70 rfl (fun h_70 => ?_) (fun h_70 => ?_)
              · try simp only [bq0, ne_eq, Classical.not_not] at h_70
                refine G_iconst (pc := 78) dX9_grow_78 (by decide) ?_
                refine G_goto (pc := 79) (tgt := 83) dX9_grow_79 rfl ?_
                exact j_83 _ (by first | rw [if_pos (Or.inl h_70)] | rw [if_pos (Or.inr h_75)] | rw [if_neg (by rintro (z | z); exact z h_70; exact h_75 z)])
              · try simp only [bq0, ne_eq, Classical.not_not] at h_70
                refine G_iload (pc := 73) dX9_grow_73 rfl ?_
                refine G_if_eq (pc := 75) (tgt := 82) dX9_grow_75 rfl (fun h_75 => ?_) (fun h_75 => ?_)
                · try simp only [bq0, ne_eq, Classical.not_not] at h_75
                  refine G_iconst (pc := 82) dX9_grow_82 (by decide) ?_
                  exact j_83 _ (by first | rw [if_pos (Or.inl h_70)] | rw [if_pos (Or.inr h_75)] | rw [if_neg (by rintro (z | z); exact z h_70; exact h_75 z)])
                · try simp only [bq0, ne_eq, Classical.not_not] at h_75
                  refine G_iconst (pc := 78) dX9_grow_78 (by decide) ?_
                  refine G_goto (pc := 79) (tgt := 83) dX9_grow_79 rfl ?_
                  exact j_83 _ (by first | rw [if_pos (Or.inl h_70)] | rw [if_pos (Or.inr h_75)] | rw [if_neg (by rintro (z | z); exact z h_70; exact h_75 z)])
          · refine G_iload (pc := 53) dX9_grow_53 rfl ?_
            refine G_if_ne (pc := 55) (tgt := 62) dX9_grow_55 rfl (fun h_55 => ?_) (fun h_55 => ?_)
            · try simp only [bq0, ne_eq, Classical.not_not] at h_55
              refine G_iload (pc := 62) dX9_grow_62 rfl ?_
              refine G_goto (pc := 64) (tgt := 68) dX9_grow_64 rfl ?_
              exact j_68 _ (by first | rw [if_pos (Or.inl h_55)] | rw [if_pos (Or.inr h_59)] | rw [if_neg (by rintro (z | z); exact h_55 z; exact h_59 z)])
            · try simp only [bq0, ne_eq, Classical.not_not] at h_55
              refine G_iload_n (pc := 58) dX9_grow_58 rfl ?_
              refine G_if_ne (pc := 59) (tgt := 67) dX9_grow_59 rfl (fun h_59 => ?_) (fun h_59 => ?_)
              · try simp only [bq0, ne_eq, Classical.not_not] at h_59
                refine G_iload_n (pc := 67) dX9_grow_67 rfl ?_
                exact j_68 _ (by first | rw [if_pos (Or.inl h_55)] | rw [if_pos (Or.inr h_59)] | rw [if_neg (by rintro (z | z); exact h_55 z; exact h_59 z)])
              · try simp only [bq0, ne_eq, Classical.not_not] at h_59
                refine G_iload (pc := 62) dX9_grow_62 rfl ?_
                refine G_goto (pc := 64) (tgt := 68) dX9_grow_64 rfl ?_
                exact j_68 _ (by first | rw [if_pos (Or.inl h_55)] | rw [if_pos (Or.inr h_59)] | rw [if_neg (by rintro (z | z); exact h_55 z; exact h_59 z)])
    refine G_iload_n (pc := 11) dX9_grow_11 rfl ?_
    refine G_if_eq (pc := 12) (tgt := 130) dX9_grow_12 rfl (fun h_12 => ?_) (fun h_12 => ?_)
    · try simp only [bq0, ne_eq, Classical.not_not] at h_12
      exact absurd h_12 (by decide)
    · try simp only [bq0, ne_eq, Classical.not_not] at h_12
      refine G_iconst (pc := 15) dX9_grow_15 (by decide) ?_
      refine G_istore_n (pc := 16) dX9_grow_16 (Nat.le_of_ble_eq_true rfl) rfl ?_
      refine G_bipush (pc := 17) (x := (-2)) dX9_grow_17 rfl (by decide) ?_
      refine G_istore_n (pc := 19) dX9_grow_19 (Nat.le_of_ble_eq_true rfl) rfl ?_
      refine G_iconst (pc := 20) dX9_grow_20 (by decide) ?_
      refine G_istore_n (pc := 21) dX9_grow_21 (Nat.le_of_ble_eq_true rfl) rfl ?_
      refine G_aload_n (pc := 22) dX9_grow_22 rfl ?_
      refine G_getI (pc := 23) dX9_grow_23 fk_X9_86 rfl rfl rfl ?_
      rw [s2184]
      refine G_iconst (pc := 26) dX9_grow_26 (by decide) ?_
      refine G_isub (pc := 27) dX9_grow_27 (by omega) ?_
      refine G_istore (pc := 28) dX9_grow_28 (Nat.le_of_ble_eq_true rfl) rfl ?_
      exact scan (e.n - 1) (by omega) (-2) 0 _ (by omega) (Or.inr ⟨rfl, by rw [fst_ge (by omega)]; decide, by rw [fst_ge (by omega)]⟩)
  have outer : ∀ (f : Nat) (s : Sto) (o2 o3 o4 o5 : Option MV), e.n - cntP e.n (s 39) = (f : Int) → GMI e t s → G E cX9_grow RX9 (some .int) 5 11 [some (mP 31), some (mI 1), o2, o3, o4, o5] [] s (fun a t' => ∃ x, a = some (mI x) ∧ (GMq e t t' ∧ x = beE e (pQ t'))) := by
    intro f
    induction f with
    | zero =>
      intro s o2 o3 o4 o5 hf hI
      refine one s o2 o3 o4 o5 hI (fun u p2 p3 p4 p5 hu hIu hc => ?_)
      exfalso
      have := cntP_r hS.1.1 (u 39)
      omega
    | succ f ih =>
      intro s o2 o3 o4 o5 hf hI
      exact one s o2 o3 o4 o5 hI (fun u p2 p3 p4 p5 hu hIu hc => ih u p2 p3 p4 p5 (by omega) hIu)
  have hcr := cntP_r hS.1.1 (t 39)
  obtain ⟨l1, l2⟩ := load_AG (e := e) (t := t) hM.1
  have hI0 : GMI e t (su (loadM t) 2198 0 0) := by
    have hq : pQ (su (loadM t) 2198 0 0) = pQ t := by
      rw [← l2]
      unfold pQ
      rw [su_ne (by decide), su_ne (by decide), su_ne (by decide), su_ne (by decide)]
    have hm : pM (su (loadM t) 2198 0 0) = pM (loadM t) := by
      unfold pM
      rw [su_ne (by decide), su_ne (by decide), su_ne (by decide), su_ne (by decide)]
    have hl : ∀ w, w ≠ 46 → w ≠ 47 → w ≠ 48 → w ≠ 49 → w ≠ 2198 → su (loadM t) 2198 0 0 w = t w := fun w a1 a2 a3 a4 a5 => by
      rw [su_ne a5]; exact loadN_ne t _ ⟨a1, a2, a3, a4⟩
    refine ⟨?_, by rw [hq, hm]; exact l1, by rw [hq], ?_, ?_, su_at _ _ _ _, fun w hw => hl w hw.1.1 hw.1.2.1 hw.1.2.2.1 hw.1.2.2.2.1 hw.2.2.2.2.2⟩
    · unfold EM
      rw [hl 2184 (by decide) (by decide) (by decide) (by decide) (by decide), hl 2188 (by decide) (by decide) (by decide) (by decide) (by decide), hl 35 (by decide) (by decide) (by decide) (by decide) (by decide), hl 36 (by decide) (by decide) (by decide) (by decide) (by decide), hl 37 (by decide) (by decide) (by decide) (by decide) (by decide), hl 38 (by decide) (by decide) (by decide) (by decide) (by decide)]
      exact hM
    · have := load_BNM hQ hN
      unfold BNM
      rw [su_ne (by decide), su_ne (by decide), su_ne (by decide)]
      exact this
    · rw [hq, hl 39 (by decide) (by decide) (by decide) (by decide) (by decide)]; exact hB
  have h39 : su (loadM t) 2198 0 0 39 = t 39 := by rw [su_ne (by decide)]; exact loadN_ne t _ (by decide)
  refine G_aload_n (pc := 0) dX9_grow_0 rfl ?_
  refine G_cV0 (pc := 1) (c_X9_load _ (by rw [hM.1]; omega) (by exact hp)) dX9_grow_1 ml_X9_215 rfl rfl rfl (by decide) (Nat.le_of_ble_eq_true rfl) ?_
  refine G_aload_n (pc := 4) dX9_grow_4 rfl ?_
  refine G_iconst (pc := 5) dX9_grow_5 (by decide) ?_
  refine G_put (pc := 6) dX9_grow_6 fk_X9_200 fw_X9_14 rfl rfl rfl (fun h => absurd h (by decide)) ?_
  refine G_iconst (pc := 9) dX9_grow_9 (by decide) ?_
  refine G_istore_n (pc := 10) dX9_grow_10 (Nat.le_of_ble_eq_true rfl) rfl ?_
  exact outer (e.n - cntP e.n (t 39)).toNat _ _ _ _ _ (by rw [h39]; omega) hI0
