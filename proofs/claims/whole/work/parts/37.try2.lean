/-! TRYING: the class's recursion -/
theorem itr_stop {F : Int → AC → AC} {k : Int} {a : AC} (h : ∀ l, F l a = a) : ∀ l, l ≤ k → itr F l k a = a := by
  intro l hl
  exact itr_inv (F := F) (P := fun u => u = a) (l0 := l) (fun m u _ _ hu => by rw [hu]; exact h m) l hl a (Int.le_refl _) rfl
theorem tryF_lim {e : SE} {f : Nat} {a : Int} {p : PF} {x y l : Int} {c : AC} (h : e.lim ≤ c.made) : tryF e (f + 1) a p x y l c = (c.made, 1, c.best, c.bx, c.bY, c.bl) := by
  unfold tryF
  rw [if_pos h]
noncomputable def stF (e : SE) (f : Nat) (a : Int) (p : PF) : Int → AC → AC := fun (m : Int) (c : AC) => @ite _ (c.stp = 0 ∧ cdE e p (e.ord (a + 1)) m) (Classical.propDecidable _) (tryF e f (a + 1) p (cXE e p (e.ord (a + 1)) m) (cYE e p (e.ord (a + 1)) m) (cLE e p (e.ord (a + 1)) m) c) c
theorem tryF_it {e : SE} {f : Nat} {a : Int} {p p1 : PF} {x y l : Int} {c c1 : AC} (hp : p1 = putF p (e.ord a) x y l) (hc : c1 = (c.made + 1, c.stp, c.best, c.bx, c.bY, c.bl)) (h : ¬ e.lim ≤ c.made) (ha : a + 1 < e.cnt) (hf : 0 ≤ fmE e p1 (e.ord (a + 1))) : tryF e (f + 1) a p x y l c = itr (stF e f a p1) 0 (3 * e.k) c1 := by
  subst hp hc
  rw [tryF.eq_def]
  simp only []
  rw [if_neg h, if_pos ha, if_pos hf]
  rfl
theorem tryF_sp {e : SE} {f : Nat} {a : Int} {p p1 : PF} {x y l : Int} {c c1 : AC} (hp : p1 = putF p (e.ord a) x y l) (hc : c1 = (c.made + 1, c.stp, c.best, c.bx, c.bY, c.bl)) (h : ¬ e.lim ≤ c.made) (ha : a + 1 < e.cnt) (hf : ¬ 0 ≤ fmE e p1 (e.ord (a + 1))) : tryF e (f + 1) a p x y l c = tryF e f (a + 1) p1 (sXE e p1 (e.ord (a + 1))) (sYE e p1 (e.ord (a + 1))) (sLE e p1 (e.ord (a + 1))) c1 := by
  subst hp hc
  rw [tryF.eq_def]
  simp only []
  rw [if_neg h, if_pos ha, if_neg hf]
theorem tryF_wg {e : SE} {f : Nat} {a : Int} {p p1 : PF} {x y l : Int} {c c1 : AC} (hp : p1 = putF p (e.ord a) x y l) (hc : c1 = (c.made + 1, c.stp, c.best, c.bx, c.bY, c.bl)) (h : ¬ e.lim ≤ c.made) (ha : ¬ a + 1 < e.cnt) : tryF e (f + 1) a p x y l c = wghF e p1 c1 := by
  subst hp hc
  rw [tryF.eq_def]
  simp only []
  rw [if_neg h, if_neg ha]
theorem wgh_C {e : SE} {t : Sto} (he : eC t = e) (hS : SOE e) (h1 : ∀ i, 0 ≤ i → i < e.cnt → t 21 (e.ord i) = 1) (hN : NUM e t) : ∀ s, s = (if costS (t 267 0) (t 272 0) (t 13) (t 14) (t 15) (t 25) (t 22) (t 23) (t 24) < t 534 0 then ktS (su t 534 0 (costS (t 267 0) (t 272 0) (t 13) (t 14) (t 15) (t 25) (t 22) (t 23) (t 24))) (t 527 0) else t) → accC s = wghF e (pC t) (accC t) ∧ FR e t s := by
  intro s hs
  subst he
  have hC := sumI_r (c := clS (t 267 0) (t 13) (t 14) (t 15) (t 25) (t 22) (t 23) (t 24)) (k := t 272 0) (B := 59) (fun l l0 l1 => clS_59 _ _ _ _ _ _ _ _ _) 0 hS.1.2.2.1 (Int.le_refl _)
  have e0 : coE (eC t) (pC t) = costS (t 267 0) (t 272 0) (t 13) (t 14) (t 15) (t 25) (t 22) (t 23) (t 24) := rfl
  have e1 : costS (t 267 0) (t 272 0) (t 13) (t 14) (t 15) (t 25) (t 22) (t 23) (t 24) = sumI (clS (t 267 0) (t 13) (t 14) (t 15) (t 25) (t 22) (t 23) (t 24)) 0 (t 272 0) := rfl
  have hk : 0 ≤ t 272 0 ∧ t 272 0 ≤ 60 := hS.1.2.2
  rw [← e1] at hC
  unfold wghF
  rw [e0]
  generalize costS (t 267 0) (t 272 0) (t 13) (t 14) (t 15) (t 25) (t 22) (t 23) (t 24) = C at *
  have hb : (accC t).best = if t 534 0 = 3600 then -1 else t 534 0 := rfl
  obtain ⟨n1, n2, n3, n4⟩ := hN
  by_cases hlt : C < t 534 0
  · rw [if_pos hlt] at hs
    have hcond : (accC t).best = -1 ∨ C < (accC t).best := by
      rw [hb]
      by_cases z : t 534 0 = 3600
      · rw [if_pos z]; exact Or.inl rfl
      · rw [if_neg z]; exact Or.inr hlt
    rw [if_pos hcond]
    subst hs
    obtain ⟨k1, k2, k3, k4⟩ := ktS_at (su t 534 0 C) (t 527 0)
    have kn : ∀ w, w ≠ 18 ∧ w ≠ 19 ∧ w ≠ 20 ∧ w ≠ 21 → w ≠ 534 → ktS (su t 534 0 C) (t 527 0) w = t w := fun w hw h4 => by rw [ktS_ne _ _ hw, su_ne h4]
    have k534 : ktS (su t 534 0 C) (t 527 0) 534 0 = C := by rw [ktS_ne _ _ (by decide), su_at]
    have k21 : ktS (su t 534 0 C) (t 527 0) 21 = t 21 := by
      rw [k4, su_ne (by decide), su_ne (by decide)]
      exact onR_same (fun i i0 i1 => h1 i i0 i1)
    constructor
    · unfold accC
      rw [k534, kn 532 (by decide) (by decide), kn 533 (by decide) (by decide), k1, k2, k3, if_neg (by omega)]
      rw [su_ne (by decide), su_ne (by decide), su_ne (by decide), su_ne (by decide), su_ne (by decide), su_ne (by decide), su_ne (by decide)]
      rfl
    · refine ⟨kn 25 (by decide) (by decide), fun r _ => ?_, fun w hw => ?_, ?_⟩
      · rw [kn 22 (by decide) (by decide), kn 23 (by decide) (by decide), kn 24 (by decide) (by decide)]
        exact ⟨rfl, rfl, rfl⟩
      · by_cases z : w = 21
        · rw [z, k21]
        · exact kn w ⟨hw.1, hw.2.1, hw.2.2.1, z⟩ hw.2.2.2.2.2.2.2.2.2.1
      · unfold NUM
        rw [kn 22 (by decide) (by decide), kn 23 (by decide) (by decide), kn 24 (by decide) (by decide), k534, kn 532 (by decide) (by decide), kn 533 (by decide) (by decide)]
        exact ⟨n1, by omega, n3, n4⟩
  · rw [if_neg hlt] at hs
    have hcond : ¬ ((accC t).best = -1 ∨ C < (accC t).best) := by
      rw [hb]
      by_cases z : t 534 0 = 3600
      · omega
      · rw [if_neg z]; omega
    rw [if_neg hcond]
    subst hs
    exact ⟨rfl, FR_refl ⟨n1, n2, n3, n4⟩⟩
