/-! DRAWING A PART: the class -/
def keptD (w : Nat) : Prop := w ≠ 18 ∧ w ≠ 19 ∧ w ≠ 20 ∧ w ≠ 21 ∧ w ≠ 22 ∧ w ≠ 23 ∧ w ≠ 24 ∧ w ≠ 25 ∧ w ≠ 26 ∧ w ≠ 527 ∧ w ≠ 532 ∧ w ≠ 533 ∧ w ≠ 534 ∧ w ≠ 650 ∧ w ≠ 651 ∧ w ≠ 652
def BASE (e : SE) (t : Sto) : Prop := (t 267 0 = e.n ∧ t 272 0 = e.k ∧ t 13 = e.fr ∧ t 14 = e.di ∧ t 15 = e.to ∧ t 16 = e.bo) ∧ TIC t ∧ SOE e ∧ t 531 0 = e.lim ∧ (1 ≤ e.lim ∧ e.lim ≤ 20000) ∧ (BN 1000 (t 22) ∧ BN 1000 (t 23) ∧ BN 1000 (t 24))
theorem glue0 {n : Int} {f : Int → Int} {r : Int} (h0 : 0 ≤ r) (h1 : r < n) : glue n (fun _ => 0) f r = 0 := by rw [glue_at ⟨h0, h1⟩]
/-- the state before the search of a part -/
theorem dp_mid {e : SE} {t s : Sto} {r : Int} (hB : BASE e t) (r0 : 0 ≤ r) (r1 : r < e.n) (hs : SPI_4 e 0 1000 s) (hz : zS_4 s = sprF e 24 (putF (glue (t 267 0) (fun _ => 0) (t 25), t 22, t 23, t 24) r 0 0 0, fu (t 26) 0 r, 1)) (hw : ∀ w, keptS_4 w → w ≠ 26 → w ≠ 527 → s w = t w) :
    s 527 0 = (oz e r).2.2 ∧ (∀ i, 0 ≤ i → i < (oz e r).2.2 → s 26 i = (oz e r).2.1 i) ∧ EOK (eO e (s 26) (s 527 0)) ∧ (∀ q, inO (eR e r) q ↔ inO (eO e (s 26) (s 527 0)) q) ∧ (∀ q, inO (eR e r) q → (s 22 q = (fP e r).xs q ∧ s 23 q = (fP e r).ys q ∧ s 24 q = (fP e r).ls q) ∧ ((-720 ≤ s 22 q ∧ s 22 q ≤ 720) ∧ (-720 ≤ s 23 q ∧ s 23 q ≤ 720) ∧ (-720 ≤ s 24 q ∧ s 24 q ≤ 720))) := by
  obtain ⟨⟨b1, b2, b3, b4, b5, b6⟩, hT, hS, hlim, hl, hN⟩ := hB
  have hn24 := hS.1
  have hz1 : (s 25, s 26, s 527 0) = ordF e 24 (fu (glue (t 267 0) (fun _ => 0) (t 25)) r 1, fu (t 26) 0 r, 1) := by
    have := spr_ord e 24 (putF (glue (t 267 0) (fun _ => 0) (t 25), t 22, t 23, t 24) r 0 0 0, fu (t 26) 0 r, 1)
    rw [← hz] at this
    exact this
  have hg : ∀ q, 0 ≤ q → q < e.n → glue (t 267 0) (fun _ => 0) (t 25) q = 0 := fun q q0 q1 => glue0 q0 (by omega)
  have hO := OI_all hS 24 _ (OI_start hS r0 r1 (tk := glue (t 267 0) (fun _ => 0) (t 25)) (o := t 26) hg) (by show e.n ≤ 1 + (24 : Nat); omega)
  rw [← hz1] at hO
  obtain ⟨c1, c2, c3⟩ := ord_congr hS 24 (fu (glue (t 267 0) (fun _ => 0) (t 25)) r 1, fu (t 26) 0 r, 1) (fu (fun _ => 0) r 1, fu (fun _ => 0) 0 r, 1) (by show (0 : Int) ≤ 1; omega) (fun q q0 q1 => by
    show fu (glue (t 267 0) (fun _ => 0) (t 25)) r 1 q = fu (fun _ => 0) r 1 q
    by_cases y : q = r
    · rw [y, fu_at, fu_at]
    · rw [fu_ne y, fu_ne y, hg q q0 q1]) rfl (fun i i0 i1 => by
    have i1' : i < 1 := i1
    show fu (t 26) 0 r i = fu (fun _ => 0) 0 r i
    rw [show i = 0 by omega, fu_at, fu_at])
  rw [← hz1] at c1 c2 c3
  have c1' : s 527 0 = (oz e r).2.2 := c1
  have c3' : ∀ i, 0 ≤ i → i < (oz e r).2.2 → s 26 i = (oz e r).2.1 i := fun i i0 i1 => c3 i i0 (by show i < s 527 0; omega)
  have hin : ∀ q, inO (eR e r) q ↔ inO (eO e (s 26) (s 527 0)) q := by
    intro q
    constructor
    · rintro ⟨i, i0, i1, i2⟩
      exact ⟨i, i0, by show i < s 527 0; rw [c1']; exact i1, by show s 26 i = q; rw [c3' i i0 i1]; exact i2⟩
    · rintro ⟨i, i0, i1, i2⟩
      have i1' : i < (oz e r).2.2 := by rw [← c1']; exact i1
      exact ⟨i, i0, i1', by show (oz e r).2.1 i = q; rw [← c3' i i0 i1']; exact i2⟩
  refine ⟨c1', c3', OI_EOK hS hO.1, hin, fun q hq => ?_⟩
  have hqr := inRt_r hS r0 r1 hq
  have hAG : AG e.n (zS_4 s).1 (fP e r) := by
    rw [hz]
    refine spr_congr hS 24 _ _ ?_
    exact AG_put (AG_0 hg (fun _ _ _ => rfl)) r 0 0 0
  obtain ⟨i, i0, i1, i2⟩ := (hin q).mp hq
  have hps : s 25 q ≠ 0 := (hO.1.2.2.2.1 q hqr.1 hqr.2).mpr ⟨i, i0, i1, i2⟩
  have hx := (hAG q hqr.1 hqr.2).2 hps
  have hbp := hs.2.2.2.2.1 q hqr.1 hqr.2 hps
  have hcr := cntP_r hS.1.1 (s 25)
  refine ⟨hx, ?_⟩
  have e1 : (pF_4 s).xs q = s 22 q := rfl
  have e2 : (pF_4 s).ys q = s 23 q := rfl
  have e3 : (pF_4 s).ls q = s 24 q := rfl
  rw [e1, e2, e3] at hbp
  omega
