/-! TRYING: the reference, what a node's steps do -/
theorem nth_congr {P P' : Int → Prop} {K : Int} : ∀ l, l ≤ K → ∀ j, (∀ m, l ≤ m → m < K → (P m ↔ P' m)) → nth P l K j = nth P' l K j := by
  refine up_ind (fun l hl ih j h => ?_)
  rcases Int.lt_or_le l K with y | y
  · have hl := h l (Int.le_refl _) y
    by_cases hP : P l
    · by_cases hj : j = 0
      · subst hj; rw [nth_hit y hP, nth_hit y (hl.mp hP)]
      · rw [nth_next y hP hj, nth_next y (hl.mp hP) hj]
        exact ih y _ (fun m m0 m1 => h m (by omega) m1)
    · rw [nth_skip y hP, nth_skip y (fun z => hP (hl.mpr z))]
      exact ih y _ (fun m m0 m1 => h m (by omega) m1)
  · rw [nth_ge y, nth_ge y]
theorem AG_sJ {e : SE} {p q : PF} (hS : SOE e) (h : AG e.n p q) {r : Int} (j : Int) (hnb : 0 ≤ nbE e p r) : nth (cdE e p r) 0 (3 * e.k) j = nth (cdE e q r) 0 (3 * e.k) j ∧ sXJ e p r j = sXJ e q r j ∧ sYJ e p r j = sYJ e q r j ∧ sLJ e p r j = sLJ e q r j := by
  have hk := hS.1
  have e1 : nth (cdE e p r) 0 (3 * e.k) j = nth (cdE e q r) 0 (3 * e.k) j := nth_congr 0 (by omega) j (fun m m0 m1 => AG_cd hS h m0 m1)
  refine ⟨e1, ?_⟩
  unfold sXJ sYJ sLJ
  rw [← e1]
  rcases nth_spec (P := cdE e p r) (K := 3 * e.k) 0 (by omega) j with y | ⟨y1, y2, y3⟩
  · rw [y]
    exact AG_sp hS h hnb
  · generalize nth (cdE e p r) 0 (3 * e.k) j = m at *
    rw [if_pos y1, if_pos y1, if_pos y1, if_pos y1, if_pos y1, if_pos y1]
    exact AG_ch hS h y1 y2 y3.1.2.1
theorem sJ_b {e : SE} {p : PF} {r B : Int} (hS : SOE e) (hB : BP e.n B p) (j : Int) (hnb : 0 ≤ nbE e p r) : (-(B + 24) ≤ sXJ e p r j ∧ sXJ e p r j ≤ B + 24) ∧ (-(B + 24) ≤ sYJ e p r j ∧ sYJ e p r j ≤ B + 24) ∧ (-(B + 24) ≤ sLJ e p r j ∧ sLJ e p r j ≤ B + 24) := by
  have hk := hS.1
  unfold sXJ sYJ sLJ
  rcases nth_spec (P := cdE e p r) (K := 3 * e.k) 0 (by omega) j with y | ⟨y1, y2, y3⟩
  · rw [y]
    exact sp_b hS hB hnb
  · generalize nth (cdE e p r) 0 (3 * e.k) j = m at *
    rw [if_pos y1, if_pos y1, if_pos y1]
    obtain ⟨d1, d2, d3⟩ := cd_b hS y1 y2 hB y3
    omega
def keptT (w : Nat) : Prop := keptF w ∧ w ≠ 52
/-- what the reference has of a search's account -/
def RELm (e : SE) (c : AC) (s : Sto) (md cut : Int) : Prop := (c.made = md ∧ c.stp = cut ∧ c.best = s 2217 0) ∧ (s 2217 0 = -1 ∨ 0 ≤ s 2217 0) ∧ (s 2217 0 ≠ -1 → ∀ r, inO e r → c.bx r = s 53 r ∧ c.bY r = s 54 r ∧ c.bl r = s 55 r) ∧ (0 ≤ md ∧ md ≤ e.lim)
def FRm (t s : Sto) : Prop := BNM s ∧ ∀ w, keptT w → s w = t w
theorem REL_kept {e : SE} {c : AC} {s u : Sto} {md cut : Int} (h : RELm e c s md cut) (h1 : u 2217 = s 2217) (h2 : u 53 = s 53) (h3 : u 54 = s 54) (h4 : u 55 = s 55) : RELm e c u md cut := by
  unfold RELm
  rw [h1, h2, h3, h4]
  exact h
theorem FRm_E {e : SE} {t s : Sto} (h : FRm t s) (hM : EM e t) (ho : t 50 = e.ord ∧ t 2210 0 = e.cnt) : EM e s ∧ s 50 = e.ord ∧ s 2210 0 = e.cnt := by
  have k := h.2
  refine ⟨?_, by rw [k 50 (by unfold keptT keptF keptM; decide)]; exact ho.1, by rw [k 2210 (by unfold keptT keptF keptM; decide)]; exact ho.2⟩
  unfold EM
  rw [k 2184 (by unfold keptT keptF keptM; decide), k 2188 (by unfold keptT keptF keptM; decide), k 35 (by unfold keptT keptF keptM; decide), k 36 (by unfold keptT keptF keptM; decide), k 37 (by unfold keptT keptF keptM; decide), k 38 (by unfold keptT keptF keptM; decide)]
  exact hM
theorem note_ok {e : SE} {s : Sto} {P : PF} {c : AC} {md : Int} (hE : EOK e) (hM : EM e s) (ho : s 50 = e.ord ∧ s 2210 0 = e.cnt) (hA : AG e.n P (pM s)) (hP : PLC e e.cnt P) (hR : RELm e c s md 0) : ∀ u, u = (if s 2217 0 < 0 ∨ coM s < s 2217 0 then ktM (su s 2217 0 (coM s)) (s 2210 0) else s) → RELm e (wghF e P c) u md 0 ∧ (∀ w, w ≠ 53 → w ≠ 54 → w ≠ 55 → w ≠ 2217 → u w = s w) := by
  intro u hu
  have hco : coM s = coE e P := by
    have e1 : coM s = coE e (pM s) := by
      unfold coM
      obtain ⟨h1, h2, h3, h4, h5, h6⟩ := hM
      rw [h1, h2, h3, h4, h5]
      rfl
    rw [e1]
    exact (AG_co hE.sok hA).symm
  obtain ⟨⟨r1, r2, r3⟩, r4, r5, r6⟩ := id hR
  have hC := sumI_r (c := clS e.n e.fr e.di e.to P.ps P.xs P.ys P.ls) (k := e.k) (B := 60) (fun l l0 l1 => clS_r _ _ _ _ _ _ _ _ _) 0 hE.sok.1.2.2.1 (Int.le_refl _)
  have e1 : coE e P = sumI (clS e.n e.fr e.di e.to P.ps P.xs P.ys P.ls) 0 e.k := rfl
  rw [← e1] at hC
  unfold wghF
  by_cases hc : s 2217 0 < 0 ∨ coM s < s 2217 0
  · rw [if_pos hc] at hu
    rw [if_pos (by rw [r3, ← hco]; omega)]
    obtain ⟨k1, k2, k3⟩ := ktM_at (su s 2217 0 (coM s)) (s 2210 0)
    rw [← hu] at k1 k2 k3
    have u2217 : u 2217 0 = coM s := by rw [hu, ktM_ne _ _ (by decide), su_at]
    refine ⟨⟨⟨r1, r2, ?_⟩, ?_, fun _ r hr => ?_, r6⟩, fun w a1 a2 a3 a4 => by rw [hu, ktM_ne _ _ ⟨a1, a2, a3⟩, su_ne a4]⟩
    · show coE e P = u 2217 0
      rw [u2217, hco]
    · rw [u2217, hco]; omega
    · show onO e P.xs c.bx r = u 53 r ∧ onO e P.ys c.bY r = u 54 r ∧ onO e P.ls c.bl r = u 55 r
      rw [onO_in hr, onO_in hr, onO_in hr]
      obtain ⟨j, j0, j1, j2⟩ := hr
      have hor := hE.ord j j0 j1
      rw [j2] at hor
      have hx := (hA r hor.1 hor.2).2 ((hP r hor.1 hor.2).mpr ⟨j, j0, j1, j2⟩)
      rw [k1, k2, k3, ho.2]
      rw [su_ne (by decide), su_ne (by decide), su_ne (by decide), su_ne (by decide), su_ne (by decide), su_ne (by decide), su_ne (by decide), ho.1, ← j2, onR_in j0 j1, onR_in j0 j1, onR_in j0 j1, j2]
      exact hx
  · rw [if_neg hc] at hu
    rw [if_neg (by rw [r3, ← hco]; omega)]
    subst hu
    exact ⟨hR, fun _ _ _ _ _ => rfl⟩
theorem chT_ok (s : Sto) (r Z : Int) : pM (chT s r Z) = pM s ∧ ∀ w, w ≠ 2207 ∧ w ≠ 2208 ∧ w ≠ 2209 → chT s r Z w = s w := by
  unfold chT
  split
  · exact ⟨cM3_p _ _ _ _, fun w hw => cM3_ne _ _ _ _ hw⟩
  · exact ⟨rfl, fun _ _ => rfl⟩
theorem ch_fr {t s : Sto} (r Z : Int) (hF : FRm t s) : FRm t (chT s r Z) := by
  obtain ⟨c1, c2⟩ := chT_ok s r Z
  refine ⟨?_, fun w hw => (c2 w ⟨hw.1.1.2.2.2.2.1, hw.1.1.2.2.2.2.2.1, hw.1.1.2.2.2.2.2.2⟩).trans (hF.2 w hw)⟩
  unfold BNM
  rw [c2 47 (by decide), c2 48 (by decide), c2 49 (by decide)]
  exact hF.1
theorem stand_ok {e : SE} {t s : Sto} {P : PF} {r j B Z : Int} (hS : SOE e) (hM : EM e s) (hF : FRm t s) (hA : AG e.n P (pM s)) (hB : BP e.n B P) (hB2 : 0 ≤ B ∧ B ≤ 1000) (hnb : 0 ≤ nbE e P r) (hj : ¬ (nth (cdE e P r) 0 (3 * e.k) j < 0 ∧ 0 < j)) : ∀ u, u = sbT (chT s r Z) r j → AG e.n (putF P r (sXJ e P r j) (sYJ e P r j) (sLJ e P r j)) (pM u) ∧ FRm t u ∧ (∀ w, keptM w → u w = s w) ∧ BP e.n (B + 24) (putF P r (sXJ e P r j) (sYJ e P r j) (sLJ e P r j)) := by
  intro u hu
  obtain ⟨c1, c2⟩ := chT_ok s r Z
  have hkc : ∀ w, keptM w → chT s r Z w = s w := fun w hw => c2 w ⟨hw.2.2.2.2.1, hw.2.2.2.2.2.1, hw.2.2.2.2.2.2⟩
  have hMc : EM e (chT s r Z) := EM_kept hM hkc
  obtain ⟨j1, j2, j3, j4⟩ := AG_sJ hS hA j hnb
  obtain ⟨b1, b2⟩ := sb_ok hMc r j (by rw [c1, ← j1]; exact hj)
  rw [c1, ← j2, ← j3, ← j4, ← hu] at b1
  obtain ⟨d1, d2, d3⟩ := sJ_b hS hB j hnb
  have hk : ∀ w, keptM w → u w = s w := fun w hw => by rw [hu, b2 w hw]; exact hkc w hw
  refine ⟨?_, ⟨BNM_put hF.1 b1 (by omega) (by omega) (by omega), fun w hw => (hk w hw.1.1).trans (hF.2 w hw)⟩, hk, BP_put (BP_up hB (by omega)) d1 d2 d3⟩
  rw [b1]
  exact AG_put hA _ _ _ _
theorem rm_pM (u : Sto) (r i x : Int) : pM (su (su u 46 r 0) 52 i x) = rmF (pM u) r := by
  have q46 : su (su u 46 r 0) 52 i x 46 = fu (u 46) r 0 := by rw [su_ne (by decide), su_row, sv_at]
  have q47 : su (su u 46 r 0) 52 i x 47 = u 47 := by rw [su_ne (by decide), su_ne (by decide)]
  have q48 : su (su u 46 r 0) 52 i x 48 = u 48 := by rw [su_ne (by decide), su_ne (by decide)]
  have q49 : su (su u 46 r 0) 52 i x 49 = u 49 := by rw [su_ne (by decide), su_ne (by decide)]
  unfold pM rmF
  rw [q46, q47, q48, q49]
theorem rm_fr {t u : Sto} (r i x : Int) (hF : FRm t u) : FRm t (su (su u 46 r 0) 52 i x) := by
  refine ⟨?_, fun w hw => by rw [su_ne hw.2, su_ne hw.1.1.1]; exact hF.2 w hw⟩
  unfold BNM
  rw [su_ne (by decide), su_ne (by decide), su_ne (by decide), su_ne (by decide), su_ne (by decide), su_ne (by decide)]
  exact hF.1
theorem c52_fr {t u : Sto} (i x : Int) (hF : FRm t u) : FRm t (su u 52 i x) := by
  refine ⟨?_, fun w hw => by rw [su_ne hw.2]; exact hF.2 w hw⟩
  unfold BNM
  rw [su_ne (by decide), su_ne (by decide), su_ne (by decide)]
  exact hF.1
theorem c52_pM (u : Sto) (i x : Int) : pM (su u 52 i x) = pM u := by
  unfold pM
  rw [su_ne (by decide), su_ne (by decide), su_ne (by decide), su_ne (by decide)]
/-- no chance at all -/
theorem nth_no {P : Int → Prop} {K : Int} (h0 : 0 ≤ K) (h : ¬ 0 ≤ fst P 0 K) (j : Int) : nth P 0 K j < 0 := by
  rcases nth_spec (P := P) (K := K) 0 h0 j with y | ⟨y1, y2, y3⟩
  · omega
  · rcases fst_spec P 0 K with ⟨a1, a2⟩ | ⟨a1, a2, a3, a4⟩
    · exact absurd y3 (a2 _ y1 y2)
    · omega
/-- once stopped, a fold over chances does nothing -/
theorem st_stop {e : SE} {f : Nat} {a : Int} {P : PF} {l K : Int} {c : AC} (hl : l ≤ K) (hs : c.stp ≠ 0) : itr (stF e f a P) l K c = c :=
  itr_stop (F := stF e f a P) (fun m => by unfold stF; rw [if_neg (fun z => hs z.1)]) l hl
