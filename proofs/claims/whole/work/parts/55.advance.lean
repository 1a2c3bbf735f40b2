/-! layer 2: the reference's next trial -/
def Pos (τ : St) (i w kz ky kx : Nat) : Prop := τ 44 i = nI w ∧ τ 45 i = nI kx - 1 ∧ τ 46 i = nI ky ∧ τ 47 i = nI kz
def FA (i : Nat) (τ υ : St) : Prop := ∀ p g, ¬ (44 ≤ p ∧ p ≤ 47 ∧ g = i) → υ p g = τ p g
def AH (τ : St) (i p m : Nat) (s : Nat → Nat) : Prop := τ 43 i = nI p ∧ RS τ p s ∧ τ 28 p = nI m
theorem AH.fa {τ υ : St} {i p m : Nat} {s : Nat → Nat} (h : AH τ i p m s) (k : FA i τ υ) : AH υ i p m s := ⟨(k _ _ (by omega)).trans h.1, ⟨(k _ _ (by omega)).trans h.2.1.1, (k _ _ (by omega)).trans h.2.1.2.1, (k _ _ (by omega)).trans h.2.1.2.2⟩, (k _ _ (by omega)).trans h.2.2⟩
theorem FA.tr {i : Nat} {τ υ φ : St} (h : FA i τ υ) (k : FA i υ φ) : FA i τ φ := fun p g h1 => (k p g h1).trans (h p g h1)
theorem r_128 (N : Nat) (hN : 9 ≤ N) {i p m : Nat} {s : Nat → Nat} (hi : i < 6) (hp : p < 6) (hm : m ≤ 3) (hs : s38 s) (c1 : Int32) : ∀ r v f τ, AH τ i p m s → τ 44 i = nI v → v + r = 6 → r < f →
    (∃ w' υ, v ≤ w' ∧ w' < 6 ∧ lt m s w' = true ∧ (∀ x, v ≤ x → x < w' → lt m s x = false) ∧ lp_X4_advance_128 N c1 f (nI i) τ = some (1, υ) ∧ υ 44 i = nI w' ∧ ∀ q g, ¬ (q = 44 ∧ g = i) → υ q g = τ q g) ∨
    (∃ υ, (∀ x, v ≤ x → x < 6 → lt m s x = false) ∧ lp_X4_advance_128 N c1 f (nI i) τ = some (0, υ) ∧ ∀ q g, ¬ (q = 44 ∧ g = i) → υ q g = τ q g) := by
  intro r
  induction r with
  | zero =>
    intro v f τ h h44 hv hf
    obtain ⟨f, rfl, -⟩ := fuel1 hf
    refine Or.inr ⟨τ, fun x h1 h2 => by omega, ?_, fun _ _ _ => rfl⟩
    simp only [lp_X4_advance_128, q_inb (show i < 7 by omega) (by decide), q_ix (show i < 2 ^ 31 by omega), h44, q6T (show 6 ≤ v by omega) (by omega), ↓reduceIte]
  | succ r ih =>
    intro v f τ h h44 hv hf
    obtain ⟨f, rfl, hf⟩ := fuel1 hf
    have hv6 : v < 6 := by omega
    simp only [lp_X4_advance_128, q_inb (show i < 7 by omega) (by decide), q_inb (show i < 6 by omega) (by decide), q_ix (show i < 2 ^ 31 by omega), h44, q6F hv6, ↓reduceIte, h.1, r_let N (by omega) h.2.1 hs hp hv6 hm h.2.2, bn_some, bI_0, nI_1]
    by_cases e : lt m s v = false
    · rw [if_pos e]
      have hne : ∀ q g, ¬ (q = 44 ∧ g = i) → su τ 44 i (nI (v + 1)) q g = τ q g := fun q g h => su_ne τ _ h
      rcases ih (v + 1) f (su τ 44 i (nI (v + 1))) (h.fa fun q g h1 => hne q g (by omega)) (su_same _ _ _ _) (by omega) (by omega) with ⟨w', υ, g1, g2, g3, g4, g5, g6, g7⟩ | ⟨υ, g1, g2, g3⟩
      · refine Or.inl ⟨w', υ, by omega, g2, g3, fun x h1 h2 => ?_, g5, g6, fun q g h1 => (g7 q g h1).trans (hne q g h1)⟩
        by_cases ex : x = v
        · rw [ex]; exact e
        · exact g4 x (by omega) h2
      · refine Or.inr ⟨υ, fun x h1 h2 => ?_, g2, fun q g h1 => (g3 q g h1).trans (hne q g h1)⟩
        by_cases ex : x = v
        · rw [ex]; exact e
        · exact g1 x (by omega) h2
    · rw [if_neg e]
      exact Or.inl ⟨v, τ, by omega, hv6, Bool.of_not_eq_false e, fun x h1 h2 => by omega, rfl, h44, fun _ _ _ => rfl⟩
/-- the next place, or the end -/
def ADV (N : Nat) (τ : St) (i m : Nat) (s : Nat → Nat) (w kz ky kx lx ly lz : Nat) : Prop :=
  (kx < lx ∧ ∃ υ, f_X4_advance N (nI i) τ = some (1, υ) ∧ Pos υ i w kz ky (kx + 1) ∧ FA i τ υ) ∨
  (kx = lx ∧ ky + 1 < ly ∧ ∃ υ, f_X4_advance N (nI i) τ = some (1, υ) ∧ Pos υ i w kz (ky + 1) 1 ∧ FA i τ υ) ∨
  (kx = lx ∧ ky + 1 = ly ∧ kz + 1 < lz ∧ ∃ υ, f_X4_advance N (nI i) τ = some (1, υ) ∧ Pos υ i w (kz + 1) 0 1 ∧ FA i τ υ) ∨
  (kx = lx ∧ ky + 1 = ly ∧ kz + 1 = lz ∧ ∃ w' υ, w < w' ∧ w' < 6 ∧ lt m s w' = true ∧ (∀ x, w < x → x < w' → lt m s x = false) ∧ f_X4_advance N (nI i) τ = some (1, υ) ∧ Pos υ i w' 0 0 1 ∧ FA i τ υ) ∨
  (kx = lx ∧ ky + 1 = ly ∧ kz + 1 = lz ∧ (∀ x, w < x → x < 6 → lt m s x = false) ∧ ∃ υ, f_X4_advance N (nI i) τ = some (0, υ) ∧ FA i τ υ)
set_option maxHeartbeats 4000000 in
theorem r_advance (N : Nat) (hN : 9 ≤ N) {i p m : Nat} {s : Nat → Nat} (hi : i < 6) (hp : p < 6) (hm : m ≤ 3) (hs : s38 s) {τ : St} (h : AH τ i p m s) {w kz ky kx lx ly lz : Nat} (hP : Pos τ i w kz ky kx) (l1 : τ 49 i = nI lx) (l2 : τ 49 (7 + i) = nI ly) (l3 : τ 49 (14 + i) = nI lz)
    (hw : w < 6) (hx : kx ≤ lx) (hy : ky < ly) (hz : kz < lz) (bx : lx < 20) (by' : ly < 20) (bz : lz < 20) : ADV N τ i m s w kz ky kx lx ly lz := by
  obtain ⟨p44, p45, p46, p47⟩ := hP
  have e45 : τ 45 i + 1 = nI kx := by rw [p45, Int32.sub_add_cancel]
  have e7 : (7 : Int32) + nI i = nI (7 + i) := nI_add 7 i
  have e14 : (14 : Int32) + nI i = nI (14 + i) := nI_add 14 i
  have i7 := q_inb (show i < 7 by omega) (show 7 < 2 ^ 31 by decide)
  have i21 := q_inb (show i < 21 by omega) (show 21 < 2 ^ 31 by decide)
  have i21b := q_inb (show 7 + i < 21 by omega) (show 21 < 2 ^ 31 by decide)
  have i21c := q_inb (show 14 + i < 21 by omega) (show 21 < 2 ^ 31 by decide)
  have x0 := q_ix (show i < 2 ^ 31 by omega)
  have x1 := q_ix (show 7 + i < 2 ^ 31 by omega)
  have x2 := q_ix (show 14 + i < 2 ^ 31 by omega)
  have form : f_X4_advance N (nI i) τ =
      if kx = lx then
        if ky + 1 = ly then
          if kz + 1 = lz then lp_X4_advance_128 N (nI i) N (nI i) (su (su (su (su (su (su (su τ 45 i (nI kx)) 45 i 0) 46 i (nI (ky + 1))) 46 i 0) 47 i (nI (kz + 1))) 47 i 0) 44 i (nI (w + 1)))
          else some (1, su (su (su (su (su τ 45 i (nI kx)) 45 i 0) 46 i (nI (ky + 1))) 46 i 0) 47 i (nI (kz + 1)))
        else some (1, su (su (su τ 45 i (nI kx)) 45 i 0) 46 i (nI (ky + 1)))
      else some (1, su τ 45 i (nI kx)) := by
    unfold f_X4_advance
    simp (disch := first | omega | decide) only [e7, e14, i7, i21, i21b, i21c, x0, x1, x2, ↓reduceIte, su_same, su_row, e45, p44, p46, p47, l1, l2, l3, nI_1, q_eq, q6F hw, show ¬ ky = ly by omega, show ¬ kz = lz by omega]
  unfold ADV
  rw [form]
  by_cases c1 : kx = lx
  · rw [if_pos c1]
    by_cases c2 : ky + 1 = ly
    · rw [if_pos c2]
      by_cases c3 : kz + 1 = lz
      · rw [if_pos c3]
        have hfa : FA i τ (su (su (su (su (su (su (su τ 45 i (nI kx)) 45 i 0) 46 i (nI (ky + 1))) 46 i 0) 47 i (nI (kz + 1))) 47 i 0) 44 i (nI (w + 1))) := fun q g e => by
          rw [su_ne _ _ (by omega), su_ne _ _ (by omega), su_ne _ _ (by omega), su_ne _ _ (by omega), su_ne _ _ (by omega), su_ne _ _ (by omega), su_ne _ _ (by omega)]
        rcases r_128 N hN hi hp hm hs (nI i) (5 - w) (w + 1) N _ (h.fa hfa) (su_same _ _ _ _) (by omega) (by omega) with ⟨w', υ, g1, g2, g3, g4, g5, g6, g7⟩ | ⟨υ, g1, g2, g3⟩
        · refine Or.inr (Or.inr (Or.inr (Or.inl ⟨c1, c2, c3, w', υ, by omega, g2, g3, fun x h1 h2 => g4 x (by omega) h2, g5, ⟨g6, ?_, ?_, ?_⟩, hfa.tr fun q g e => g7 q g (by omega)⟩)))
          · rw [g7 _ _ (by omega)]; simp [su]; decide
          · rw [g7 _ _ (by omega)]; simp [su]; rfl
          · rw [g7 _ _ (by omega)]; simp [su]; rfl
        · exact Or.inr (Or.inr (Or.inr (Or.inr ⟨c1, c2, c3, fun x h1 h2 => g1 x (by omega) h2, υ, g2, hfa.tr fun q g e => g3 q g (by omega)⟩)))
      · rw [if_neg c3]
        refine Or.inr (Or.inr (Or.inl ⟨c1, c2, by omega, _, rfl, ⟨?_, ?_, ?_, ?_⟩, fun q g e => ?_⟩))
        · simp [su]; exact p44
        · simp [su]; decide
        · simp [su]; rfl
        · simp [su]
        · rw [su_ne _ _ (by omega), su_ne _ _ (by omega), su_ne _ _ (by omega), su_ne _ _ (by omega), su_ne _ _ (by omega)]
    · rw [if_neg c2]
      refine Or.inr (Or.inl ⟨c1, by omega, _, rfl, ⟨?_, ?_, ?_, ?_⟩, fun q g e => ?_⟩)
      · simp [su]; exact p44
      · simp [su]; decide
      · simp [su]
      · simp [su]; exact p47
      · rw [su_ne _ _ (by omega), su_ne _ _ (by omega), su_ne _ _ (by omega)]
  · rw [if_neg c1]
    refine Or.inl ⟨by omega, _, rfl, ⟨?_, ?_, ?_, ?_⟩, fun q g e => ?_⟩
    · simp [su]; exact p44
    · rw [su_same]; exact (nI_pred kx).symm
    · simp [su]; exact p46
    · simp [su]; exact p47
    · rw [su_ne _ _ (by omega)]
