/-! GROWING: the reference -/
theorem AG_str {e : SE} {p q : PF} (hS : SOE e) (h : AG e.n p q) {l : Int} (l0 : 0 ≤ l) (l1 : l < e.k) (w1 : p.ps (e.fr l) ≠ 0) (w2 : p.ps (e.to l) ≠ 0) : strS e.n p.ps p.xs p.ys p.ls (e.fr l) (e.di l) (e.to l) = strS e.n q.ps q.xs q.ys q.ls (e.fr l) (e.di l) (e.to l) := by
  have hl := hS.2 l l0 l1
  obtain ⟨a1, a2⟩ := h _ hl.1.1 hl.1.2
  have hd : ∀ r, 0 ≤ r → r < e.n → p.ps r ≠ 0 → distS p.xs p.ys p.ls (e.fr l) (e.di l) r = distS q.xs q.ys q.ls (e.fr l) (e.di l) r := by
    intro r r0 r1 r2
    obtain ⟨c1, c2, c3⟩ := (h r r0 r1).2 r2
    obtain ⟨d1, d2, d3⟩ := a2 w1
    unfold distS dlS
    rw [c1, c2, c3, d1, d2, d3]
  unfold strS
  rw [hd _ hl.2.1.1 hl.2.1.2 w2]
  have : ∀ D, fst (nearP p.ps p.xs p.ys p.ls (e.fr l) (e.di l) D) 0 e.n = fst (nearP q.ps q.xs q.ys q.ls (e.fr l) (e.di l) D) 0 e.n := by
    intro D
    apply fst_congr
    intro r r0 r1
    unfold nearP
    constructor
    · rintro ⟨z1, z2, z3⟩
      rw [hd r r0 r1 z1] at z2 z3
      exact ⟨by rw [← (h r r0 r1).1]; exact z1, z2, z3⟩
    · rintro ⟨z1, z2, z3⟩
      have z0 : p.ps r ≠ 0 := by rw [(h r r0 r1).1]; exact z1
      rw [← hd r r0 r1 z0] at z2 z3
      exact ⟨z0, z2, z3⟩
  rw [this]
noncomputable def beE (e : SE) (p : PF) : Int := bentS e.n e.k e.fr e.di e.to p.ps p.xs p.ys p.ls
theorem AG_be {e : SE} {p q : PF} (hS : SOE e) (h : AG e.n p q) : beE e p = beE e q := by
  unfold beE bentS
  refine sumI_congr (fun l h0 h1 => ?_) 0 hS.1.2.2.1 (Int.le_refl _)
  have hl := hS.2 l h0 h1
  obtain ⟨a1, a2⟩ := h _ hl.1.1 hl.1.2
  obtain ⟨b1, b2⟩ := h _ hl.2.1.1 hl.2.1.2
  unfold blS
  by_cases w : wghP e.fr e.to p.ps l
  · have w' : wghP e.fr e.to q.ps l := ⟨w.1, by rw [← a1]; exact w.2.1, by rw [← b1]; exact w.2.2⟩
    rw [AG_str hS h h0 h1 w.2.1 w.2.2]
    by_cases z : strS e.n q.ps q.xs q.ys q.ls (e.fr l) (e.di l) (e.to l) = 0
    · rw [if_pos ⟨w, z⟩, if_pos ⟨w', z⟩]
    · rw [if_neg (fun y => z y.2), if_neg (fun y => z y.2)]
  · have w' : ¬ wghP e.fr e.to q.ps l := fun z => w ⟨z.1, by rw [a1]; exact z.2.1, by rw [b1]; exact z.2.2⟩
    rw [if_neg (fun y => w y.1), if_neg (fun y => w' y.1)]
def pQ (t : Sto) : PF := (t 39, t 40, t 41, t 42)
def keptG (w : Nat) : Prop := keptM w ∧ w ≠ 39 ∧ w ≠ 40 ∧ w ≠ 41 ∧ w ≠ 42 ∧ w ≠ 2198
theorem load_AG {e : SE} {t : Sto} (hn : t 2184 0 = e.n) : AG e.n (pQ t) (pM (loadM t)) ∧ pQ (loadM t) = pQ t := by
  obtain ⟨a1, a2, a3, a4⟩ := loadN_at t (t 2184 0)
  constructor
  · intro r r0 r1
    show t 39 r = loadN t (t 2184 0) 46 r ∧ (t 39 r ≠ 0 → t 40 r = loadN t (t 2184 0) 47 r ∧ t 41 r = loadN t (t 2184 0) 48 r ∧ t 42 r = loadN t (t 2184 0) 49 r)
    rw [a1, a2, a3, a4, glue_at ⟨r0, by omega⟩, glue_at ⟨r0, by omega⟩, glue_at ⟨r0, by omega⟩, glue_at ⟨r0, by omega⟩]
    exact ⟨rfl, fun _ => ⟨rfl, rfl, rfl⟩⟩
  · unfold pQ loadM
    rw [loadN_ne t _ (by decide), loadN_ne t _ (by decide), loadN_ne t _ (by decide), loadN_ne t _ (by decide)]
theorem BN_glue {B n : Int} {f g : Int → Int} (hf : BN B f) (hg : BN B g) : BN B (glue n f g) := fun j => by
  unfold glue
  split
  · exact hf j
  · exact hg j
theorem load_BNM {t : Sto} (hQ : BN 60000 (t 40) ∧ BN 60000 (t 41) ∧ BN 60000 (t 42)) (hN : BNM t) : BNM (loadM t) := by
  obtain ⟨a1, a2, a3, a4⟩ := loadN_at t (t 2184 0)
  unfold BNM loadM
  rw [a2, a3, a4]
  exact ⟨BN_glue hQ.1 hN.1, BN_glue hQ.2.1 hN.2.1, BN_glue hQ.2.2 hN.2.2⟩
theorem keep_ok (v : Sto) (r : Int) : pQ (keepM v r) = putF (pQ v) r (v 47 r) (v 48 r) (v 49 r) ∧ (∀ w, w ≠ 39 → w ≠ 40 → w ≠ 41 → w ≠ 42 → keepM v r w = v w) := by
  have q39 : keepM v r 39 = fu (v 39) r 1 := by
    unfold keepM
    rw [su_ne (by decide), su_ne (by decide), su_ne (by decide), su_row, sv_at]
  have q40 : keepM v r 40 = fu (v 40) r (v 47 r) := by
    unfold keepM
    rw [su_ne (by decide), su_ne (by decide), su_row, sv_at, su_ne (by decide)]
  have q41 : keepM v r 41 = fu (v 41) r (v 48 r) := by
    unfold keepM
    rw [su_ne (by decide), su_row, sv_at, su_ne (by decide), su_ne (by decide)]
  have q42 : keepM v r 42 = fu (v 42) r (v 49 r) := by
    unfold keepM
    rw [su_row, sv_at, su_ne (by decide), su_ne (by decide), su_ne (by decide)]
  refine ⟨?_, fun w a1 a2 a3 a4 => ?_⟩
  · unfold pQ
    rw [q39, q40, q41, q42]
    rfl
  · unfold keepM
    rw [su_ne a4, su_ne a3, su_ne a2, su_ne a1]
/-- what every round of growing has -/
def GMI (e : SE) (t s : Sto) : Prop := EM e s ∧ AG e.n (pQ s) (pM s) ∧ GR e (pQ s) = GR e (pQ t) ∧ BNM s ∧ BP e.n (52000 + 30 * cntP e.n (s 39)) (pQ s) ∧ s 2198 0 = 0 ∧ (∀ w, keptG w → s w = t w)
theorem gm_step {e : SE} {t s v : Sto} (hS : SOE e) (hI : GMI e t s) (hu : ¬ unE e (pQ s) < 0) (hv : pM v = putF (pM s) (rmE e (pQ s)) (gxE e (pM s)) (gyE e (pM s)) (glE e (pM s))) (hk : ∀ w, keptM w → v w = s w) : ∀ u, u = keepM v (rmE e (pQ s)) → GMI e t u ∧ cntP e.n (u 39) = cntP e.n (s 39) + 1 := by
  intro u hu'
  obtain ⟨h1, h2, h3, h4, h5, h6, h7⟩ := hI
  obtain ⟨g1, g2, g3⟩ := AG_g hS h2
  obtain ⟨r1, r2⟩ := rm_spec hu
  obtain ⟨k1, k2⟩ := keep_ok v (rmE e (pQ s))
  rw [← hu'] at k1
  have hqv : pQ v = pQ s := by
    unfold pQ
    rw [hk 39 (by unfold keptM; decide), hk 40 (by unfold keptM; decide), hk 41 (by unfold keptM; decide), hk 42 (by unfold keptM; decide)]
  have v47 : v 47 (rmE e (pQ s)) = gxE e (pM s) := by
    have : (pM v).xs (rmE e (pQ s)) = gxE e (pM s) := by rw [hv, (putF_at _ _ _ _ _).2.1]
    exact this
  have v48 : v 48 (rmE e (pQ s)) = gyE e (pM s) := by
    have : (pM v).ys (rmE e (pQ s)) = gyE e (pM s) := by rw [hv, (putF_at _ _ _ _ _).2.2.1]
    exact this
  have v49 : v 49 (rmE e (pQ s)) = glE e (pM s) := by
    have : (pM v).ls (rmE e (pQ s)) = glE e (pM s) := by rw [hv, (putF_at _ _ _ _ _).2.2.2]
    exact this
  rw [hqv, v47, v48, v49, ← g1, ← g2, ← g3, ← gr1_eq] at k1
  have hpu : pM u = pM v := by
    unfold pM
    rw [hu', k2 46 (by decide) (by decide) (by decide) (by decide), k2 47 (by decide) (by decide) (by decide) (by decide), k2 48 (by decide) (by decide) (by decide) (by decide), k2 49 (by decide) (by decide) (by decide) (by decide)]
  have hcnt : cntP e.n (u 39) = cntP e.n (s 39) + 1 := by
    have : u 39 = (gr1 e (pQ s)).ps := by rw [← k1]; rfl
    rw [this]
    exact gr1_cnt hu
  have hcr := cntP_r hS.1.1 (s 39)
  have hcr1 := cntP_r hS.1.1 (u 39)
  have hn24 := hS.1.2.1
  obtain ⟨b1, b2, b3⟩ := g_b hS (by omega) h5
  refine ⟨⟨?_, ?_, ?_, ?_, ?_, ?_, ?_⟩, hcnt⟩
  · have hku : ∀ w, keptM w → w ≠ 39 → w ≠ 40 → w ≠ 41 → w ≠ 42 → u w = s w := fun w a a1 a2 a3 a4 => by rw [hu', k2 w a1 a2 a3 a4, hk w a]
    unfold EM
    rw [hku 2184 (by unfold keptM; decide) (by decide) (by decide) (by decide) (by decide), hku 2188 (by unfold keptM; decide) (by decide) (by decide) (by decide) (by decide), hku 35 (by unfold keptM; decide) (by decide) (by decide) (by decide) (by decide), hku 36 (by unfold keptM; decide) (by decide) (by decide) (by decide) (by decide), hku 37 (by unfold keptM; decide) (by decide) (by decide) (by decide) (by decide), hku 38 (by unfold keptM; decide) (by decide) (by decide) (by decide) (by decide)]
    exact h1
  · rw [k1, hpu, hv, gr1_eq, g1, g2, g3]
    exact AG_put h2 _ _ _ _
  · rw [k1, ← GR_go hS hu, h3]
  · have : BNM v := BNM_put h4 hv (by omega) (by omega) (by omega)
    unfold BNM
    rw [hu', k2 47 (by decide) (by decide) (by decide) (by decide), k2 48 (by decide) (by decide) (by decide) (by decide), k2 49 (by decide) (by decide) (by decide) (by decide)]
    exact this
  · rw [hcnt, k1, gr1_eq]
    exact BP_put (BP_up h5 (by omega)) (by omega) (by omega) (by omega)
  · rw [hu', k2 2198 (by decide) (by decide) (by decide) (by decide), hk 2198 (by unfold keptM; decide)]; exact h6
  · intro w hw
    rw [hu', k2 w hw.2.1 hw.2.2.1 hw.2.2.2.1 hw.2.2.2.2.1, hk w hw.1]
    exact h7 w hw
/-- the room that the reference takes next, looked for from behind -/
def scG (e : SE) (p : PF) (r nx jn : Int) : Prop := (jn = 1 ∧ nx = fst (fun q => p.ps q = 0 ∧ 0 ≤ nbE e p q) r e.n ∧ 0 ≤ nx) ∨ (jn = 0 ∧ fst (fun q => p.ps q = 0 ∧ 0 ≤ nbE e p q) r e.n < 0 ∧ nx = fst (fun q => p.ps q = 0) r e.n)
theorem scG_step {e : SE} {p : PF} {r nx jn : Int} (h : scG e p (r + 1) nx jn) (r0 : 0 ≤ r) (r1 : r < e.n) : (p.ps r ≠ 0 → scG e p r nx jn) ∧ (p.ps r = 0 → ∀ nx' jn', nx' = @ite _ (0 ≤ nbE e p r ∨ jn = 0) (Classical.propDecidable _) r nx → jn' = @ite _ (jn ≠ 0 ∨ 0 ≤ nbE e p r) (Classical.propDecidable _) 1 0 → scG e p r nx' jn') := by
  constructor
  · intro hp
    unfold scG
    rw [fst_neg (P := fun q => p.ps q = 0 ∧ 0 ≤ nbE e p q) r1 (fun z => hp z.1), fst_neg (P := fun q => p.ps q = 0) r1 hp]
    exact h
  · intro hp nx' jn' hnx hjn
    unfold scG
    by_cases hj : 0 ≤ nbE e p r
    · left
      rw [fst_pos (P := fun q => p.ps q = 0 ∧ 0 ≤ nbE e p q) r1 ⟨hp, hj⟩]
      rw [if_pos (Or.inl hj)] at hnx
      rw [if_pos (Or.inr hj)] at hjn
      exact ⟨hjn, hnx, by omega⟩
    · rw [fst_neg (P := fun q => p.ps q = 0 ∧ 0 ≤ nbE e p q) r1 (fun z => hj z.2), fst_pos (P := fun q => p.ps q = 0) r1 hp]
      rcases h with ⟨a1, a2, a3⟩ | ⟨a1, a2, a3⟩
      · left
        rw [if_neg (by rintro (z | z); exact hj z; omega)] at hnx
        rw [if_pos (Or.inl (by omega))] at hjn
        exact ⟨hjn, by rw [hnx]; exact a2, by omega⟩
      · right
        rw [if_pos (Or.inr a1)] at hnx
        rw [if_neg (by rintro (z | z); exact z a1; exact hj z)] at hjn
        exact ⟨hjn, a2, hnx⟩
theorem scG_0 {e : SE} {p : PF} {nx jn : Int} (h : scG e p 0 nx jn) : nx = rmE e p ∧ (jn = 0 ↔ nxE e p < 0) ∧ (nx < 0 ↔ unE e p < 0) := by
  have e1 : fst (fun q => p.ps q = 0 ∧ 0 ≤ nbE e p q) 0 e.n = nxE e p := rfl
  have e2 : fst (fun q => p.ps q = 0) 0 e.n = unE e p := rfl
  unfold scG at h
  rw [e1, e2] at h
  unfold rmE
  rcases h with ⟨a1, a2, a3⟩ | ⟨a1, a2, a3⟩
  · rw [if_neg (by omega)]
    have := un_nx (e := e) (p := p) (by omega)
    exact ⟨a2, ⟨fun z => by omega, fun z => by omega⟩, ⟨fun z => by omega, fun z => absurd z this⟩⟩
  · rw [if_pos a2]
    exact ⟨a3, ⟨fun _ => a2, fun _ => a1⟩, by rw [a3]⟩
