/-! WALKING: the maths of shortest ways -/
theorem itr_rel {α β : Type} {F : Int → α → α} {F' : Int → β → β} {k : Int} {R : α → β → Prop} {l0 : Int} (hs : ∀ l a b, l0 ≤ l → l < k → R a b → R (F l a) (F' l b)) : ∀ l, l ≤ k → ∀ a b, l0 ≤ l → R a b → R (itr F l k a) (itr F' l k b) := by
  refine up_ind (fun l hl ih a b h0 hR => ?_)
  rcases Int.lt_or_le l k with h | h
  · rw [itr_lt h, itr_lt h]
    exact ih h _ _ (by omega) (hs l a b h0 h hR)
  · rw [itr_ge h, itr_ge h]; exact hR
/-- an injective row 0 .. v into 0 .. n - 1 -/
theorem pigeon : ∀ (n : Nat) (v : Int) (w : Int → Int), (∀ i, 0 ≤ i → i ≤ v → 0 ≤ w i ∧ w i < n) → (∀ i j, 0 ≤ i → i ≤ v → 0 ≤ j → j ≤ v → w i = w j → i = j) → v < n := by
  intro n
  induction n with
  | zero =>
    intro v w h _
    rcases Int.lt_or_le v 0 with q | q
    · exact q
    · have := h 0 (by omega) q; omega
  | succ n ih =>
    intro v w h hi
    rcases Int.lt_or_le v 0 with q | q
    · omega
    · by_cases hex : ∃ i, 0 ≤ i ∧ i ≤ v ∧ w i = n
      · obtain ⟨i, hi0, hiv, hin⟩ := hex
        have h2 := ih (v - 1) (fun j => if j < i then w j else w (j + 1)) (fun j h0 h1 => by
            split
            · next q1 =>
              have a := h j h0 (by omega)
              have b : w j ≠ n := fun e => by have := hi j i h0 (by omega) hi0 hiv (by rw [e, hin]); omega
              omega
            · next q1 =>
              have a := h (j + 1) (by omega) (by omega)
              have b : w (j + 1) ≠ n := fun e => by have := hi (j + 1) i (by omega) (by omega) hi0 hiv (by rw [e, hin]); omega
              omega) (fun a b ha0 ha1 hb0 hb1 e => by
            split at e
            · split at e
              · exact hi a b ha0 (by omega) hb0 (by omega) e
              · have := hi a (b + 1) ha0 (by omega) (by omega) (by omega) e; omega
            · split at e
              · have := hi (a + 1) b (by omega) (by omega) hb0 (by omega) e; omega
              · have := hi (a + 1) (b + 1) (by omega) (by omega) (by omega) (by omega) e; omega)
        omega
      · have h2 := ih v w (fun i h0 h1 => by
          have a := h i h0 h1
          have b : w i ≠ n := fun e => hex ⟨i, h0, h1, e⟩
          omega) hi
        omega
def shF (a b : Int) (s : Int → Int) : Int → Int := if s b + 1 < s a then fu s a (s b + 1) else s
def slF (fr to bo : Int → Int) (l : Int) (s : Int → Int) : Int → Int := if bo l ≠ 0 then shF (to l) (fr l) (shF (fr l) (to l) s) else shF (fr l) (to l) s
def spF (k : Int) (fr to bo : Int → Int) (s : Int → Int) : Int → Int := itr (slF fr to bo) 0 k s
def iniD (M g : Int) : Int → Int := fun j => if j = g then 0 else M
/-- how far it is to g; M: there is no way -/
def disF (M n k : Int) (fr to bo : Int → Int) (g : Int) : Int → Int := itr (fun _ => spF k fr to bo) 0 n (iniD M g)
def adjP (k : Int) (fr to bo : Int → Int) (a b : Int) : Prop := ∃ l, 0 ≤ l ∧ l < k ∧ ((fr l = a ∧ to l = b) ∨ (bo l ≠ 0 ∧ to l = a ∧ fr l = b))
def certP (n : Int) (adj : Int → Int → Prop) (s : Int → Int) (r : Int) (w : Int → Int) : Prop := w (s r) = r ∧ (∀ i, 0 ≤ i → i ≤ s r → (0 ≤ w i ∧ w i < n) ∧ s (w i) ≤ i) ∧ (∀ i j, 0 ≤ i → i ≤ s r → 0 ≤ j → j ≤ s r → w i = w j → i = j) ∧ (∀ i, 0 ≤ i → i < s r → adj (w (i + 1)) (w i))
def CI (M n : Int) (adj : Int → Int → Prop) (s : Int → Int) : Prop := ∀ r, 0 ≤ r → r < n → s r = M ∨ (0 ≤ s r ∧ ∃ w, certP n adj s r w)
theorem CI_lt {M n : Int} {adj : Int → Int → Prop} {s : Int → Int} (hn : 0 ≤ n) (h : CI M n adj s) {r : Int} (h0 : 0 ≤ r) (h1 : r < n) : s r = M ∨ (0 ≤ s r ∧ s r < n) := by
  rcases h r h0 h1 with q | ⟨q, w, -, hw, hi, -⟩
  · exact Or.inl q
  · right
    obtain ⟨m, rfl⟩ : ∃ m : Nat, n = m := ⟨n.toNat, by omega⟩
    exact ⟨q, pigeon m (s r) w (fun i a b => (hw i a b).1) hi⟩
theorem CI_sh {M n : Int} {adj : Int → Int → Prop} {s : Int → Int} {a b : Int} (hn : 0 ≤ n) (hM : n ≤ M) (ha : 0 ≤ a ∧ a < n) (hb : 0 ≤ b ∧ b < n) (hadj : adj a b) (h : CI M n adj s) : CI M n adj (shF a b s) := by
  unfold shF
  split
  · next hlt =>
    have hsa := CI_lt hn h ha.1 ha.2
    have hsb := CI_lt hn h hb.1 hb.2
    have hbf : s b ≠ M := by omega
    rcases h b hb.1 hb.2 with q | ⟨q0, w, hw0, hw1, hw2, hw3⟩
    · exact absurd q hbf
    · have hne : ∀ i, 0 ≤ i → i ≤ s b → w i ≠ a := fun i h0 h1 e => by
        have := (hw1 i h0 h1).2
        rw [e] at this
        omega
      intro r hr0 hr1
      by_cases hra : r = a
      · subst hra
        right
        rw [fu_at]
        refine ⟨by omega, fun i => if i ≤ s b then w i else r, ?_, ?_, ?_, ?_⟩
        · rw [fu_at]; exact if_neg (by omega)
        · intro i h0 h1
          rw [fu_at] at h1
          dsimp only
          split
          · next q1 =>
            have := hw1 i h0 q1
            rw [fu_ne (hne i h0 q1)]
            exact this
          · next q1 =>
            rw [fu_at]
            omega
        · intro i j hi0 hi1 hj0 hj1 e
          rw [fu_at] at hi1 hj1
          dsimp only at e
          split at e
          · split at e
            · exact hw2 i j hi0 (by omega) hj0 (by omega) e
            · next q1 _ => exact absurd e (hne i hi0 q1)
          · split at e
            · next q2 => exact absurd e.symm (hne j hj0 q2)
            · omega
        · intro i h0 h1
          rw [fu_at] at h1
          dsimp only
          by_cases q1 : i + 1 ≤ s b
          · rw [if_pos q1, if_pos (by omega)]
            exact hw3 i h0 (by omega)
          · rw [if_neg q1, if_pos (by omega)]
            have : i = s b := by omega
            rw [this, hw0]
            exact hadj
      · rw [fu_ne hra]
        rcases h r hr0 hr1 with q | ⟨q1, u, hu0, hu1, hu2, hu3⟩
        · exact Or.inl q
        · right
          refine ⟨q1, u, ?_, ?_, ?_, ?_⟩
          · rw [fu_ne hra]; exact hu0
          · intro i h0 h1
            rw [fu_ne hra] at h1
            have := hu1 i h0 h1
            refine ⟨this.1, ?_⟩
            by_cases e : u i = a
            · rw [e, fu_at]
              rw [e] at this
              omega
            · rw [fu_ne e]; exact this.2
          · intro i j
            rw [fu_ne hra]
            exact hu2 i j
          · intro i
            rw [fu_ne hra]
            exact hu3 i
  · exact h
theorem CI_ini {M n g : Int} {adj : Int → Int → Prop} (hg : 0 ≤ g ∧ g < n) : CI M n adj (iniD M g) := by
  intro r h0 h1
  by_cases e : r = g
  · subst e
    right
    have e0 : iniD M r r = 0 := by unfold iniD; rw [if_pos rfl]
    refine ⟨by omega, fun _ => r, rfl, fun i a b => ⟨hg, by show iniD M r r ≤ i; omega⟩, fun i j a b c d _ => by omega, fun i a b => by omega⟩
  · left
    unfold iniD
    rw [if_neg e]
/-- a relaxed pair stays so, or its end lies far -/
def okC (s : Int → Int) (q x y : Int) : Prop := s x ≤ s y + 1 ∨ q ≤ s y
theorem okC_sh {s : Int → Int} {a b p : Int} (h : okC s p a b) : okC (shF a b s) (p + 1) a b ∧ ∀ x y q, q ≤ p + 1 → okC s q x y → okC (shF a b s) q x y := by
  unfold shF
  split
  · next hlt =>
    have hp : p ≤ s b := by
      rcases h with q | q
      · omega
      · exact q
    have hab : a ≠ b := fun e => by rw [e] at hlt; omega
    refine ⟨Or.inl (by rw [fu_at, fu_ne (Ne.symm hab)]; omega), fun x y q hq hc => ?_⟩
    by_cases hy : y = a
    · subst hy
      right
      rw [fu_at]
      omega
    · unfold okC
      rw [fu_ne hy]
      rcases hc with c | c
      · left
        by_cases hx : x = a
        · subst hx
          rw [fu_at]
          omega
        · rw [fu_ne hx]; exact c
      · exact Or.inr c
  · next hlt => exact ⟨Or.inl (by omega), fun x y q _ hc => hc⟩
def okL (fr to bo : Int → Int) (q : Int) (s : Int → Int) (l : Int) : Prop := okC s q (fr l) (to l) ∧ (bo l ≠ 0 → okC s q (to l) (fr l))
theorem okL_sl {fr to bo : Int → Int} {p l : Int} {s : Int → Int} (h : okL fr to bo p s l) : okL fr to bo (p + 1) (slF fr to bo l s) l ∧ ∀ j q, q ≤ p + 1 → okL fr to bo q s j → okL fr to bo q (slF fr to bo l s) j := by
  have h1 := okC_sh h.1
  unfold slF
  split
  · next hbo =>
    have h2 := okC_sh (h1.2 _ _ p (by omega) (h.2 hbo))
    exact ⟨⟨h2.2 _ _ _ (by omega) h1.1, fun _ => h2.1⟩, fun j q hq hj => ⟨h2.2 _ _ _ hq (h1.2 _ _ _ hq hj.1), fun hb => h2.2 _ _ _ hq (h1.2 _ _ _ hq (hj.2 hb))⟩⟩
  · next hbo =>
    exact ⟨⟨h1.1, fun hb => absurd hb hbo⟩, fun j q hq hj => ⟨h1.2 _ _ _ hq hj.1, fun hb => h1.2 _ _ _ hq (hj.2 hb)⟩⟩
theorem okL_sp {k : Int} {fr to bo : Int → Int} {p : Int} : ∀ l, l ≤ k → ∀ s, 0 ≤ l → (∀ j, 0 ≤ j → j < l → okL fr to bo (p + 1) s j) → (∀ j, l ≤ j → j < k → okL fr to bo p s j) → ∀ j, 0 ≤ j → j < k → okL fr to bo (p + 1) (itr (slF fr to bo) l k s) j := by
  refine up_ind (fun l hl ih s h0 hA hB => ?_)
  rcases Int.lt_or_le l k with h | h
  · rw [itr_lt h]
    have hs := okL_sl (hB l (Int.le_refl _) h)
    refine ih h _ (by omega) (fun j h1 h2 => ?_) (fun j h1 h2 => ?_)
    · by_cases e : j = l
      · rw [e]; exact hs.1
      · exact hs.2 j _ (Int.le_refl _) (hA j h1 (by omega))
    · exact hs.2 j _ (by omega) (hB j (by omega) h2)
  · rw [itr_ge h]
    intro j h1 h2
    exact hA j h1 (by omega)
theorem okL_pass {k : Int} {fr to bo : Int → Int} {p : Int} {s : Int → Int} (hk : 0 ≤ k) (h : ∀ j, 0 ≤ j → j < k → okL fr to bo p s j) : ∀ j, 0 ≤ j → j < k → okL fr to bo (p + 1) (spF k fr to bo s) j :=
  okL_sp 0 hk s (Int.le_refl _) (fun j h1 h2 => by omega) h
theorem CI_sl {M n k : Int} {fr to bo : Int → Int} {s : Int → Int} {l : Int} (hn : 0 ≤ n) (hM : n ≤ M) (hl : 0 ≤ l ∧ l < k) (hfr : 0 ≤ fr l ∧ fr l < n) (hto : 0 ≤ to l ∧ to l < n) (h : CI M n (adjP k fr to bo) s) : CI M n (adjP k fr to bo) (slF fr to bo l s) := by
  have h1 := CI_sh hn hM hfr hto (⟨l, hl.1, hl.2, Or.inl ⟨rfl, rfl⟩⟩ : adjP k fr to bo (fr l) (to l)) h
  unfold slF
  split
  · next hbo => exact CI_sh hn hM hto hfr (⟨l, hl.1, hl.2, Or.inr ⟨hbo, rfl, rfl⟩⟩ : adjP k fr to bo (to l) (fr l)) h1
  · exact h1
theorem CI_pass {M n k : Int} {fr to bo : Int → Int} {s : Int → Int} (hn : 0 ≤ n) (hM : n ≤ M) (hk : 0 ≤ k) (hS : ∀ l, 0 ≤ l → l < k → (0 ≤ fr l ∧ fr l < n) ∧ (0 ≤ to l ∧ to l < n)) (h : CI M n (adjP k fr to bo) s) : CI M n (adjP k fr to bo) (spF k fr to bo s) :=
  itr_inv (F := slF fr to bo) (k := k) (P := CI M n (adjP k fr to bo)) (l0 := 0) (fun l a h0 h1 hP => CI_sl hn hM ⟨h0, h1⟩ (hS l h0 h1).1 (hS l h0 h1).2 hP) 0 hk s (Int.le_refl _) h
theorem CI_dis {M n k g : Int} {fr to bo : Int → Int} (hn : 0 ≤ n) (hM : n ≤ M) (hk : 0 ≤ k) (hg : 0 ≤ g ∧ g < n) (hS : ∀ l, 0 ≤ l → l < k → (0 ≤ fr l ∧ fr l < n) ∧ (0 ≤ to l ∧ to l < n)) : ∀ i, i ≤ n → ∀ s, 0 ≤ i → CI M n (adjP k fr to bo) s → CI M n (adjP k fr to bo) (itr (fun _ => spF k fr to bo) i n s) :=
  fun i hi s h0 h => itr_inv (F := fun _ => spF k fr to bo) (k := n) (P := CI M n (adjP k fr to bo)) (l0 := 0) (fun l a _ _ hP => CI_pass hn hM hk hS hP) i hi s h0 h
theorem ok_dis {M n k g : Int} {fr to bo : Int → Int} (hM : 0 ≤ M) (hk : 0 ≤ k) (hS : ∀ l, 0 ≤ l → l < k → (0 ≤ fr l ∧ fr l < n) ∧ (0 ≤ to l ∧ to l < n)) : ∀ i, 0 ≤ i → ∀ j, 0 ≤ j → j < k → okL fr to bo i (itr (fun _ => spF k fr to bo) 0 i (iniD M g)) j := by
  refine down_ind (z := 0) (fun i hi ih => ?_)
  rcases Int.lt_or_le 0 i with h | h
  · have e := itr_right (F := fun _ => spF k fr to bo) (k := i - 1) 0 (by omega) (iniD M g)
    rw [show i - 1 + 1 = i by omega] at e
    rw [e]
    have h2 := okL_pass hk (ih h)
    rw [show i - 1 + 1 = i by omega] at h2
    exact h2
  · have : i = 0 := by omega
    subst this
    rw [itr_ge (by omega)]
    have hnn : ∀ x, 0 ≤ iniD M g x := fun x => by unfold iniD; split <;> omega
    intro j h1 h2
    exact ⟨Or.inr (hnn _), fun _ => Or.inr (hnn _)⟩
theorem sh_stable {s : Int → Int} {a b : Int} (h : s a ≤ s b + 1) : shF a b s = s := by unfold shF; rw [if_neg (by omega)]
def stabP (k : Int) (fr to bo : Int → Int) (s : Int → Int) : Prop := ∀ l, 0 ≤ l → l < k → s (fr l) ≤ s (to l) + 1 ∧ (bo l ≠ 0 → s (to l) ≤ s (fr l) + 1)
theorem sl_stable {k : Int} {fr to bo : Int → Int} {s : Int → Int} {l : Int} (h : s (fr l) ≤ s (to l) + 1 ∧ (bo l ≠ 0 → s (to l) ≤ s (fr l) + 1)) : slF fr to bo l s = s := by
  unfold slF
  rw [sh_stable h.1]
  split
  · next hb => exact sh_stable (h.2 hb)
  · rfl
theorem sp_stable {k : Int} {fr to bo : Int → Int} {s : Int → Int} (hk : 0 ≤ k) (h : stabP k fr to bo s) : spF k fr to bo s = s :=
  itr_inv (F := slF fr to bo) (k := k) (P := fun u => u = s) (l0 := 0) (fun l a h0 h1 hP => by rw [hP]; exact sl_stable (k := k) (h l h0 h1)) 0 hk s (Int.le_refl _) rfl
theorem dis_stab {M n k g : Int} {fr to bo : Int → Int} (hn : 0 ≤ n) (hM : n ≤ M) (hk : 0 ≤ k) (hg : 0 ≤ g ∧ g < n) (hS : ∀ l, 0 ≤ l → l < k → (0 ≤ fr l ∧ fr l < n) ∧ (0 ≤ to l ∧ to l < n)) : stabP k fr to bo (disF M n k fr to bo g) := by
  have h1 := ok_dis (M := M) (g := g) (bo := bo) (by omega) hk hS n hn
  have h2 := CI_dis (bo := bo) hn hM hk hg hS 0 hn (iniD M g) (Int.le_refl _) (CI_ini hg)
  intro l h0 hl
  have hf := CI_lt hn h2 (hS l h0 hl).1.1 (hS l h0 hl).1.2
  have ht := CI_lt hn h2 (hS l h0 hl).2.1 (hS l h0 hl).2.2
  have hk1 := h1 l h0 hl
  unfold disF
  refine ⟨?_, fun hb => ?_⟩
  · rcases hk1.1 with q | q
    · exact q
    · omega
  · rcases hk1.2 hb with q | q
    · exact q
    · omega
/-- the runs with 1000 and with 99 go alike -/
def relD (n : Int) (s s' : Int → Int) : Prop := ∀ r, 0 ≤ r → r < n → (s r = s' r ∧ 0 ≤ s r ∧ s r < n) ∨ (s r = 1000 ∧ s' r = 99)
theorem rel_sh {n : Int} {s s' : Int → Int} {a b : Int} (hn : n ≤ 24) (ha : 0 ≤ a ∧ a < n) (hb : 0 ≤ b ∧ b < n) (h : relD n s s') (hc : ∀ r, 0 ≤ r → r < n → shF a b s r = 1000 ∨ (0 ≤ shF a b s r ∧ shF a b s r < n)) : relD n (shF a b s) (shF a b s') := by
  have h1 := h a ha.1 ha.2
  have h2 := h b hb.1 hb.2
  have hiff : s b + 1 < s a ↔ s' b + 1 < s' a := by omega
  intro r h0 h3
  have hc2 := hc r h0 h3
  have h4 := h r h0 h3
  unfold shF at *
  by_cases hlt : s b + 1 < s a
  · rw [if_pos hlt] at hc2 ⊢
    rw [if_pos (hiff.mp hlt)]
    by_cases e : r = a
    · subst e
      rw [fu_at] at hc2 ⊢
      rw [fu_at]
      omega
    · rw [fu_ne e] at hc2 ⊢
      rw [fu_ne e]
      exact h4
  · rw [if_neg hlt, if_neg (fun q => hlt (hiff.mpr q))]
    exact h4
theorem rel_dis {n k g : Int} {fr to bo : Int → Int} (hn : 0 ≤ n ∧ n ≤ 24) (hk : 0 ≤ k) (hg : 0 ≤ g ∧ g < n) (hS : ∀ l, 0 ≤ l → l < k → (0 ≤ fr l ∧ fr l < n) ∧ (0 ≤ to l ∧ to l < n)) : relD n (disF 1000 n k fr to bo g) (disF 99 n k fr to bo g) := by
  have key : (fun s s' => CI 1000 n (adjP k fr to bo) s ∧ relD n s s') (disF 1000 n k fr to bo g) (disF 99 n k fr to bo g) := by
    refine itr_rel (F := fun _ => spF k fr to bo) (F' := fun _ => spF k fr to bo) (k := n) (R := fun s s' => CI 1000 n (adjP k fr to bo) s ∧ relD n s s') (l0 := 0) (fun _ s s' _ _ hR => ?_) 0 hn.1 _ _ (Int.le_refl _) ⟨CI_ini hg, ?_⟩
    · refine itr_rel (F := slF fr to bo) (F' := slF fr to bo) (k := k) (R := fun s s' => CI 1000 n (adjP k fr to bo) s ∧ relD n s s') (l0 := 0) (fun l a b h0 h1 hR => ?_) 0 hk s s' (Int.le_refl _) hR
      have hl := hS l h0 h1
      have c1 := CI_sh (M := 1000) hn.1 (by omega) hl.1 hl.2 (⟨l, h0, h1, Or.inl ⟨rfl, rfl⟩⟩ : adjP k fr to bo (fr l) (to l)) hR.1
      have r1 := rel_sh hn.2 hl.1 hl.2 hR.2 (fun r q0 q1 => CI_lt hn.1 c1 q0 q1)
      refine ⟨CI_sl hn.1 (by omega) ⟨h0, h1⟩ hl.1 hl.2 hR.1, ?_⟩
      unfold slF
      split
      · next hbo =>
        have c2 := CI_sh (M := 1000) hn.1 (by omega) hl.2 hl.1 (⟨l, h0, h1, Or.inr ⟨hbo, rfl, rfl⟩⟩ : adjP k fr to bo (to l) (fr l)) c1
        exact rel_sh hn.2 hl.2 hl.1 r1 (fun r q0 q1 => CI_lt hn.1 c2 q0 q1)
      · exact r1
    · intro r h0 h1
      unfold iniD
      split
      · left; omega
      · right; omega
  exact key.2
