/-! layer 2: the law -/
theorem side_held (a : Int32) : ∃ m, 1 ≤ m ∧ m ≤ 8 ∧ sideV a = nI m ∧ heldV a = nI m := by
  unfold sideV heldV mmax mmin
  by_cases h1 : 1 ≤ a
  · by_cases h8 : a ≤ 8
    · have h0 : ¬ a < 0 := fun h => absurd (Int32.lt_of_le_of_lt h1 h) (by decide)
      obtain ⟨j, hj, rfl⟩ := nI_of h0
      have e1 : 1 ≤ j := (nI_leI (a := 1) (by decide) hj).mp h1
      have e2 : j ≤ 8 := (nI_leI (b := 8) hj (by decide)).mp h8
      refine ⟨j, e1, e2, ?_, by rw [if_pos h1, if_pos h8]⟩
      have : j = 1 ∨ j = 2 ∨ j = 3 ∨ j = 4 ∨ j = 5 ∨ j = 6 ∨ j = 7 ∨ j = 8 := by omega
      rcases this with rfl | rfl | rfl | rfl | rfl | rfl | rfl | rfl <;> decide
    · refine ⟨8, by decide, by decide, ?_, by rw [if_pos h1, if_neg h8]; rfl⟩
      rw [if_neg (show ¬ a < 8 from fun h => h8 (Int32.le_of_lt h))]; decide
  · have h2 : a < 1 := Int32.not_le.mp h1
    refine ⟨1, by decide, by decide, ?_, by rw [if_neg h1]; rfl⟩
    rw [if_pos (show a < 8 from Int32.lt_trans h2 (by decide)), if_neg (fun h => absurd (Int32.lt_trans h h2) (by decide))]; rfl
theorem good_0 (a b c : Int32) : Good 0 (σ0 a b c) := by
  obtain ⟨m0, x1, x2, x3, x4⟩ := side_held a
  obtain ⟨m1, y1, y2, y3, y4⟩ := side_held b
  obtain ⟨m2, z1, z2, z3, z4⟩ := side_held c
  have s5 : ∀ i, i < 6 → ∀ j, σ0 a b c (5 + i) j = (if j = 4 then 1 else if j = 5 then -1 else if j = 7 then -1 else 0) := fun i hi j => by
    unfold σ0; rw [if_neg (by omega), if_pos (by omega)]
  have s13 : ∀ q, 13 ≤ q → q < 25 → ∀ j, σ0 a b c q j = 0 := fun q h1 h2 j => by
    unfold σ0; rw [if_neg (by omega), if_neg (by omega), if_neg (by omega), if_neg (by omega)]
  have s26 : ∀ q, 26 ≤ q → q < 32 → ∀ j, σ0 a b c q j = 0 := fun q h1 h2 j => by
    unfold σ0; rw [if_neg (by omega), if_neg (by omega), if_neg (by omega), if_neg (by omega)]
  have s0 : ∀ j, σ0 a b c 0 j = 0 := fun j => by
    unfold σ0; rw [if_neg (by omega), if_neg (by omega), if_neg (by omega), if_neg (by omega)]
  have s25 : ∀ j, σ0 a b c 25 j = (if j = 1 then heldV a else if j = 2 then heldV b else if j = 3 then heldV c else 0) := fun j => by
    unfold σ0; rw [if_neg (by omega), if_neg (by omega), if_pos rfl]
  have s23 : ∀ q, (q = 2 ∨ q = 3) → ∀ j, σ0 a b c q j = (if j = 0 then sideV a else if j = 1 then sideV b else if j = 2 then sideV c else 0) := fun q h j => by
    unfold σ0; rw [if_pos h]
  have s32 : ∀ i, i < 6 → σ0 a b c 32 i = -1 := fun i hi => by
    unfold σ0; rw [if_neg (by omega), if_neg (by omega), if_neg (by omega), if_pos rfl]
    rcases lt6 hi with rfl | rfl | rfl | rfl | rfl | rfl <;> rfl
  have hB : ∀ k, k < 3 → 1 ≤ (fun j => if j = 0 then m0 else if j = 1 then m1 else m2) k ∧ (fun j => if j = 0 then m0 else if j = 1 then m1 else m2) k ≤ 8 := fun k hk => by
    rcases lt3 hk with rfl | rfl | rfl
    · exact ⟨x1, x2⟩
    · exact ⟨y1, y2⟩
    · exact ⟨z1, z2⟩
  refine ⟨((fun j => if j = 0 then m0 else if j = 1 then m1 else m2), (fun _ => 0), (fun _ => 0), E0, (fun _ => -1), 0, 0, 0, []), (fun _ => 0), (fun _ => -1), 0, 0, false, E0, ?_, ?_, ?_, Nat.le_refl 0⟩
  · exact ⟨⟨Nat.zero_le _, Nat.zero_le _, Nat.zero_le _, fun i hi => absurd hi (Nat.not_lt_zero i), fun j => ⟨fun _ => rfl, fun _ => by show (-1 : Int32) < 0; decide⟩, hB⟩, fun i _ => ⟨rfl, rfl, rfl, rfl⟩, fun i => ⟨Nat.zero_le _, Or.inl rfl⟩, E0_sz, (fun _ _ e => by cases e), fun _ _ => rfl⟩
  · refine ⟨s0 _, s0 _, s0 _, s0 _, s0 _, ⟨?_, ?_, ?_, x1, x2, y1, y2, z1, z2⟩, ⟨?_, ?_, ?_, x1, x2, y1, y2, z1, z2⟩, fun i hi => ⟨fun h => absurd h (Nat.not_lt_zero i), s5 i hi 5, ⟨1, by decide, s5 i hi 4, fun w hw => ?_⟩, s5 i hi 6, s5 i hi 7⟩, fun i hi => ⟨s13 _ (by omega) (by omega) _, fun e => by cases e⟩, (fun i _ e => by cases e), fun i hi => s13 _ (by omega) (by omega) _⟩
    · exact (s23 2 (Or.inl rfl) 0).trans x3
    · exact (s23 2 (Or.inl rfl) 1).trans y3
    · exact (s23 2 (Or.inl rfl) 2).trans z3
    · exact (s23 3 (Or.inr rfl) 0).trans x3
    · exact (s23 3 (Or.inr rfl) 1).trans y3
    · exact (s23 3 (Or.inr rfl) 2).trans z3
    · show tb 1 w = lt 0 (E0 i) w
      rcases lt6 hw with rfl | rfl | rfl | rfl | rfl | rfl <;> rfl
  · refine ⟨⟨s25 4, Nat.zero_le _⟩, ⟨?_, ?_, ?_, x1, x2, y1, y2, z1, z2⟩, s25 11, s25 12, s25 26, s25 27, fun i hi => ⟨fun h => absurd h (Nat.not_lt_zero i), s26 28 (by omega) (by omega) _, s26 30 (by omega) (by omega) _⟩, fun i hi => ⟨fun _ => s32 i hi, fun e => by cases e⟩⟩
    · exact (s25 1).trans x4
    · exact (s25 2).trans y4
    · exact (s25 3).trans z4
theorem kase_0 (N : Nat) (hN : 40000 ≤ N) (xs : Nat → Int32) (L : Nat) (kont : Int32 → St → Option Int32) (v4 : Int32) (hb1 : inb (v4 + 1) L = true) (hb2 : inb (v4 + 2) L = true) (hb3 : inb (v4 + 3) L = true) (hb4 : inb (v4 + 4) L = true) {k : Nat} (hk : k < 100000) {σ : St} (h : Good k σ) : ∃ τ, Good (k + 1) τ ∧ case_0 N xs L kont v4 σ = kont (v4 + 5) τ := by
  obtain ⟨r1, τ1, r2, τ2, e1, e2, e3, e4, e5⟩ := m_piece N  (xs (ix (v4 + 1))) (xs (ix (v4 + 2))) (xs (ix (v4 + 3))) (xs (ix (v4 + 4))) h
  refine ⟨τ2, e5, ?_⟩
  unfold case_0
  rw [if_pos hb1, if_pos hb2, if_pos hb3, if_pos hb4, e1, bn_some, if_pos hb1, if_pos hb2, if_pos hb3, if_pos hb4, e2, bn_some]
  exact fin_out N kont (v4 + 5) r1 r2 τ2 e3 e4
theorem kase_1 (N : Nat) (hN : 40000 ≤ N) (xs : Nat → Int32) (L : Nat) (kont : Int32 → St → Option Int32) (v4 : Int32) (hb1 : inb (v4 + 1) L = true) (hb2 : inb (v4 + 2) L = true) (hb3 : inb (v4 + 3) L = true) (hb4 : inb (v4 + 4) L = true) {k : Nat} (hk : k < 100000) {σ : St} (h : Good k σ) : ∃ τ, Good (k + 1) τ ∧ case_1 N xs L kont v4 σ = kont (v4 + 5) τ := by
  obtain ⟨r1, τ1, r2, τ2, e1, e2, e3, e4, e5⟩ := m_turn N (by omega) (xs (ix (v4 + 1))) (xs (ix (v4 + 2))) h
  refine ⟨τ2, e5, ?_⟩
  unfold case_1
  rw [if_pos hb1, if_pos hb2, e1, bn_some, if_pos hb1, if_pos hb2, e2, bn_some]
  exact fin_out N kont (v4 + 5) r1 r2 τ2 e3 e4
theorem kase_2 (N : Nat) (hN : 40000 ≤ N) (xs : Nat → Int32) (L : Nat) (kont : Int32 → St → Option Int32) (v4 : Int32) (hb1 : inb (v4 + 1) L = true) (hb2 : inb (v4 + 2) L = true) (hb3 : inb (v4 + 3) L = true) (hb4 : inb (v4 + 4) L = true) {k : Nat} (hk : k < 100000) {σ : St} (h : Good k σ) : ∃ τ, Good (k + 1) τ ∧ case_2 N xs L kont v4 σ = kont (v4 + 5) τ := by
  obtain ⟨r1, τ1, τ2, e1, e2, e3, e5⟩ := m_limit N (xs (ix (v4 + 1))) (xs (ix (v4 + 2))) h
  refine ⟨τ2, e5, ?_⟩
  unfold case_2
  rw [if_pos hb1, if_pos hb2, e1, bn_some, if_pos hb1, if_pos hb2, e2, bv_some]
  exact fin_no N kont (v4 + 5) r1 τ2 e3
theorem kase_3 (N : Nat) (hN : 40000 ≤ N) (xs : Nat → Int32) (L : Nat) (kont : Int32 → St → Option Int32) (v4 : Int32) (hb1 : inb (v4 + 1) L = true) (hb2 : inb (v4 + 2) L = true) (hb3 : inb (v4 + 3) L = true) (hb4 : inb (v4 + 4) L = true) {k : Nat} (hk : k < 100000) {σ : St} (h : Good k σ) : ∃ τ, Good (k + 1) τ ∧ case_3 N xs L kont v4 σ = kont (v4 + 5) τ := by
  obtain ⟨r1, τ1, r2, τ2, e1, e2, e3, e4, e5⟩ := m_rank N (by omega) (xs (ix (v4 + 1))) (xs (ix (v4 + 2))) h
  refine ⟨τ2, e5, ?_⟩
  unfold case_3
  rw [if_pos hb1, if_pos hb2, e1, bn_some, if_pos hb1, if_pos hb2, e2, bn_some]
  exact fin_out N kont (v4 + 5) r1 r2 τ2 e3 e4
theorem kase_4 (N : Nat) (hN : 40000 ≤ N) (xs : Nat → Int32) (L : Nat) (kont : Int32 → St → Option Int32) (v4 : Int32) (hb1 : inb (v4 + 1) L = true) (hb2 : inb (v4 + 2) L = true) (hb3 : inb (v4 + 3) L = true) (hb4 : inb (v4 + 4) L = true) {k : Nat} (hk : k < 100000) {σ : St} (h : Good k σ) : ∃ τ, Good (k + 1) τ ∧ case_4 N xs L kont v4 σ = kont (v4 + 5) τ := by
  obtain ⟨r1, τ1, τ2, e1, e2, e3, e5⟩ := m_share N (xs (ix (v4 + 1))) h
  refine ⟨τ2, e5, ?_⟩
  unfold case_4
  rw [if_pos hb1, e1, bn_some, if_pos hb1, e2, bv_some]
  exact fin_no N kont (v4 + 5) r1 τ2 e3
theorem kase_5 (N : Nat) (hN : 40000 ≤ N) (xs : Nat → Int32) (L : Nat) (kont : Int32 → St → Option Int32) (v4 : Int32) (hb1 : inb (v4 + 1) L = true) (hb2 : inb (v4 + 2) L = true) (hb3 : inb (v4 + 3) L = true) (hb4 : inb (v4 + 4) L = true) {k : Nat} (hk : k < 100000) {σ : St} (h : Good k σ) : ∃ τ, Good (k + 1) τ ∧ case_5 N xs L kont v4 σ = kont (v4 + 5) τ := by
  obtain ⟨r1, τ1, r2, τ2, e1, e2, e3, e4, e5⟩ := m_solve N hN (xs (ix (v4 + 1))) h
  refine ⟨τ2, e5, ?_⟩
  unfold case_5
  rw [if_pos hb1, e1, bn_some, if_pos hb1, e2, bn_some]
  exact fin_out N kont (v4 + 5) r1 r2 τ2 e3 e4
theorem kase_6 (N : Nat) (hN : 40000 ≤ N) (xs : Nat → Int32) (L : Nat) (kont : Int32 → St → Option Int32) (v4 : Int32) (hb1 : inb (v4 + 1) L = true) (hb2 : inb (v4 + 2) L = true) (hb3 : inb (v4 + 3) L = true) (hb4 : inb (v4 + 4) L = true) {k : Nat} (hk : k < 100000) {σ : St} (h : Good k σ) : ∃ τ, Good (k + 1) τ ∧ case_6 N xs L kont v4 σ = kont (v4 + 5) τ := by
  obtain ⟨r, τ1, τ2, e1, e2, e5⟩ := m_exact N   h
  refine ⟨τ2, e5, ?_⟩
  unfold case_6
  rw [e1, bn_some, e2, bn_some, if_pos rfl]
theorem kase_7 (N : Nat) (hN : 40000 ≤ N) (xs : Nat → Int32) (L : Nat) (kont : Int32 → St → Option Int32) (v4 : Int32) (hb1 : inb (v4 + 1) L = true) (hb2 : inb (v4 + 2) L = true) (hb3 : inb (v4 + 3) L = true) (hb4 : inb (v4 + 4) L = true) {k : Nat} (hk : k < 100000) {σ : St} (h : Good k σ) : ∃ τ, Good (k + 1) τ ∧ case_7 N xs L kont v4 σ = kont (v4 + 5) τ := by
  obtain ⟨r, τ1, τ2, e1, e2, e5⟩ := m_steps N   h
  refine ⟨τ2, e5, ?_⟩
  unfold case_7
  rw [e1, bn_some, e2, bn_some, if_pos rfl]
theorem kase_8 (N : Nat) (hN : 40000 ≤ N) (xs : Nat → Int32) (L : Nat) (kont : Int32 → St → Option Int32) (v4 : Int32) (hb1 : inb (v4 + 1) L = true) (hb2 : inb (v4 + 2) L = true) (hb3 : inb (v4 + 3) L = true) (hb4 : inb (v4 + 4) L = true) {k : Nat} (hk : k < 100000) {σ : St} (h : Good k σ) : ∃ τ, Good (k + 1) τ ∧ case_8 N xs L kont v4 σ = kont (v4 + 5) τ := by
  obtain ⟨r, τ1, τ2, e1, e2, e5⟩ := m_bound N (by omega)  h
  refine ⟨τ2, e5, ?_⟩
  unfold case_8
  rw [e1, bn_some, e2, bn_some, if_pos rfl]
theorem kase_9 (N : Nat) (hN : 40000 ≤ N) (xs : Nat → Int32) (L : Nat) (kont : Int32 → St → Option Int32) (v4 : Int32) (hb1 : inb (v4 + 1) L = true) (hb2 : inb (v4 + 2) L = true) (hb3 : inb (v4 + 3) L = true) (hb4 : inb (v4 + 4) L = true) {k : Nat} (hk : k < 100000) {σ : St} (h : Good k σ) : ∃ τ, Good (k + 1) τ ∧ case_9 N xs L kont v4 σ = kont (v4 + 5) τ := by
  obtain ⟨r1, τ1, r2, τ2, e1, e2, e3, e4, e5⟩ := m_at N  (xs (ix (v4 + 1))) (xs (ix (v4 + 2))) h
  refine ⟨τ2, e5, ?_⟩
  unfold case_9
  rw [if_pos hb1, if_pos hb2, e1, bn_some, if_pos hb1, if_pos hb2, e2, bn_some]
  exact fin_out N kont (v4 + 5) r1 r2 τ2 e3 e4
theorem kase_10 (N : Nat) (hN : 40000 ≤ N) (xs : Nat → Int32) (L : Nat) (kont : Int32 → St → Option Int32) (v4 : Int32) (hb1 : inb (v4 + 1) L = true) (hb2 : inb (v4 + 2) L = true) (hb3 : inb (v4 + 3) L = true) (hb4 : inb (v4 + 4) L = true) {k : Nat} (hk : k < 100000) {σ : St} (h : Good k σ) : ∃ τ, Good (k + 1) τ ∧ case_10 N xs L kont v4 σ = kont (v4 + 5) τ := by
  obtain ⟨r1, τ1, r2, τ2, e1, e2, e3, e4, e5⟩ := m_over N (xs (ix (v4 + 1))) (xs (ix (v4 + 2))) h
  refine ⟨τ2, e5, ?_⟩
  unfold case_10
  rw [if_pos hb1, if_pos hb2, e1, bn_some, if_pos hb1, if_pos hb2, e2, bn_some]
  unfold f_X4_thrown
  rw [bn_some, if_pos e3]
  by_cases h0 : r1 = 0
  · rw [if_pos h0]
    obtain ⟨e6, e7⟩ := e4 h0
    rcases e7 with e7 | e7
    · rw [if_pos e7, show ix 0 = 0 from rfl, e6, e7, lg_same, if_pos rfl]
    · rw [if_neg (by rw [e7]; decide), show ix 0 = 0 from rfl, e6, e7, lg_same, if_pos rfl]
  · rw [if_neg h0]
theorem kase_11 (N : Nat) (hN : 40000 ≤ N) (xs : Nat → Int32) (L : Nat) (kont : Int32 → St → Option Int32) (v4 : Int32) (hb1 : inb (v4 + 1) L = true) (hb2 : inb (v4 + 2) L = true) (hb3 : inb (v4 + 3) L = true) (hb4 : inb (v4 + 4) L = true) {k : Nat} (hk : k < 100000) {σ : St} (h : Good k σ) : ∃ τ, Good (k + 1) τ ∧ case_11 N xs L kont v4 σ = kont (v4 + 5) τ := by
  obtain ⟨r1, τ1, r2, τ2, e1, e2, e3, e4, e5⟩ := m_support N (by omega) (xs (ix (v4 + 1))) h
  refine ⟨τ2, e5, ?_⟩
  unfold case_11
  rw [if_pos hb1, e1, bn_some, if_pos hb1, e2, bn_some]
  exact fin_out N kont (v4 + 5) r1 r2 τ2 e3 e4
theorem kase_12 (N : Nat) (hN : 40000 ≤ N) (xs : Nat → Int32) (L : Nat) (kont : Int32 → St → Option Int32) (v4 : Int32) (hb1 : inb (v4 + 1) L = true) (hb2 : inb (v4 + 2) L = true) (hb3 : inb (v4 + 3) L = true) (hb4 : inb (v4 + 4) L = true) {k : Nat} (hk : k < 100000) {σ : St} (h : Good k σ) : ∃ τ, Good (k + 1) τ ∧ case_12 N xs L kont v4 σ = kont (v4 + 5) τ := by
  obtain ⟨r1, τ1, r2, τ2, e1, e2, e3, e4, e5⟩ := m_bears N (by omega) (xs (ix (v4 + 1))) h
  refine ⟨τ2, e5, ?_⟩
  unfold case_12
  rw [if_pos hb1, e1, bn_some, if_pos hb1, e2, bn_some]
  exact fin_out N kont (v4 + 5) r1 r2 τ2 e3 e4
theorem kase_13 (N : Nat) (hN : 40000 ≤ N) (xs : Nat → Int32) (L : Nat) (kont : Int32 → St → Option Int32) (v4 : Int32) (hb1 : inb (v4 + 1) L = true) (hb2 : inb (v4 + 2) L = true) (hb3 : inb (v4 + 3) L = true) (hb4 : inb (v4 + 4) L = true) {k : Nat} (hk : k < 100000) {σ : St} (h : Good k σ) : ∃ τ, Good (k + 1) τ ∧ case_13 N xs L kont v4 σ = kont (v4 + 5) τ := by
  obtain ⟨r1, τ1, r2, τ2, e1, e2, e3, e4, e5⟩ := m_cell N (by omega) (xs (ix (v4 + 1))) (xs (ix (v4 + 2))) (xs (ix (v4 + 3))) h
  refine ⟨τ2, e5, ?_⟩
  unfold case_13
  rw [if_pos hb1, if_pos hb2, if_pos hb3, e1, bn_some, if_pos hb1, if_pos hb2, if_pos hb3, e2, bn_some]
  exact fin_out N kont (v4 + 5) r1 r2 τ2 e3 e4
theorem kase_14 (N : Nat) (hN : 40000 ≤ N) (xs : Nat → Int32) (L : Nat) (kont : Int32 → St → Option Int32) (v4 : Int32) (hb1 : inb (v4 + 1) L = true) (hb2 : inb (v4 + 2) L = true) (hb3 : inb (v4 + 3) L = true) (hb4 : inb (v4 + 4) L = true) {k : Nat} (hk : k < 100000) {σ : St} (h : Good k σ) : ∃ τ, Good (k + 1) τ ∧ case_14 N xs L kont v4 σ = kont (v4 + 5) τ := by
  obtain ⟨r1, τ1, r2, τ2, e1, e2, e3, e4, e5⟩ := m_close N (by omega) hk  h
  refine ⟨τ2, e5, ?_⟩
  unfold case_14
  rw [e1, bn_some, e2, bn_some]
  exact fin_out N kont (v4 + 5) r1 r2 τ2 e3 e4
theorem kase_15 (N : Nat) (hN : 40000 ≤ N) (xs : Nat → Int32) (L : Nat) (kont : Int32 → St → Option Int32) (v4 : Int32) (hb1 : inb (v4 + 1) L = true) (hb2 : inb (v4 + 2) L = true) (hb3 : inb (v4 + 3) L = true) (hb4 : inb (v4 + 4) L = true) {k : Nat} (hk : k < 100000) {σ : St} (h : Good k σ) : ∃ τ, Good (k + 1) τ ∧ case_15 N xs L kont v4 σ = kont (v4 + 5) τ := by
  obtain ⟨r1, τ1, r2, τ2, e1, e2, e3, e4, e5⟩ := m_box N  (xs (ix (v4 + 1))) h
  refine ⟨τ2, e5, ?_⟩
  unfold case_15
  rw [if_pos hb1, e1, bn_some, if_pos hb1, e2, bn_some]
  exact fin_out N kont (v4 + 5) r1 r2 τ2 e3 e4
theorem kase_16 (N : Nat) (hN : 40000 ≤ N) (xs : Nat → Int32) (L : Nat) (kont : Int32 → St → Option Int32) (v4 : Int32) (hb1 : inb (v4 + 1) L = true) (hb2 : inb (v4 + 2) L = true) (hb3 : inb (v4 + 3) L = true) (hb4 : inb (v4 + 4) L = true) {k : Nat} (hk : k < 100000) {σ : St} (h : Good k σ) : ∃ τ, Good (k + 1) τ ∧ case_16 N xs L kont v4 σ = kont (v4 + 5) τ := by
  obtain ⟨r, τ1, τ2, e1, e2, e5⟩ := m_count N (by omega) (xs (ix (v4 + 1))) h
  refine ⟨τ2, e5, ?_⟩
  unfold case_16
  rw [if_pos hb1, e1, bn_some, if_pos hb1, e2, bn_some, if_pos rfl]
theorem q_m5 {L i : Nat} (hL : L ≤ 3000) (hi : i ≤ 5000) : (nI L - 5 < nI i) = (L < i + 5) := by
  by_cases h : 5 ≤ L
  · rw [show (5 : Int32) = nI 5 from rfl, q_sub h, q_lt (by omega) (by omega)]
    exact propext ⟨fun h => by omega, fun h => by omega⟩
  · refine (eq_true ?_).trans (eq_true (by omega)).symm
    have : L = 0 ∨ L = 1 ∨ L = 2 ∨ L = 3 ∨ L = 4 := by omega
    have hneg : nI L - 5 < 0 := by rcases this with rfl | rfl | rfl | rfl | rfl <;> decide
    exact Int32.lt_of_lt_of_le hneg (nI_pos' (by omega))
theorem law_loop (N : Nat) (hN : 40000 ≤ N) (xs : Nat → Int32) (L : Nat) (hL : L ≤ 2563) : ∀ n i k σ, Good k σ → k + n ≤ 1000 → i ≤ L + 5 → L + 5 < i + 5 * n → lp_law N xs L n (nI i) σ = some 1 := by
  intro n
  induction n with
  | zero =>
    intro i k σ _ _ h1 h2
    omega
  | succ n ih =>
    intro i k σ hG hkn h1 h2
    simp only [lp_law]
    by_cases hend : L < i + 5
    · rw [if_pos (by rw [q_m5 (by omega) (by omega)]; exact hend)]
    · rw [if_neg (by rw [q_m5 (by omega) (by omega)]; exact hend), if_pos (q_inb (by omega) (by omega))]
      have b1 : inb (nI i + 1) L = true := by rw [nI_1]; exact q_inb (by omega) (by omega)
      have b2 : inb (nI i + 2) L = true := by rw [show nI i + 2 = nI (i + 2) from nI_add i 2]; exact q_inb (by omega) (by omega)
      have b3 : inb (nI i + 3) L = true := by rw [show nI i + 3 = nI (i + 3) from nI_add i 3]; exact q_inb (by omega) (by omega)
      have b4 : inb (nI i + 4) L = true := by rw [show nI i + 4 = nI (i + 4) from nI_add i 4]; exact q_inb (by omega) (by omega)
      have nx : ∀ τ, Good (k + 1) τ → lp_law N xs L n (nI i + 5) τ = some 1 := fun τ hτ => by
        rw [show nI i + 5 = nI (i + 5) from nI_add i 5]
        exact ih (i + 5) (k + 1) τ hτ (by omega) (by omega) (by omega)
      have go : ∀ {o : Option Int32}, (∃ τ, Good (k + 1) τ ∧ o = lp_law N xs L n (nI i + 5) τ) → o = some 1 := fun ⟨τ, g, e⟩ => e.trans (nx τ g)
      by_cases c0 : ((xs (ix (nI i))) &&& 31) = 0
      · rw [if_pos c0]
        exact go (kase_0 N hN xs L (fun i τ => lp_law N xs L n i τ) (nI i) b1 b2 b3 b4 (by omega) hG)
      rw [if_neg c0]
      by_cases c1 : ((xs (ix (nI i))) &&& 31) = 1
      · rw [if_pos c1]
        exact go (kase_1 N hN xs L (fun i τ => lp_law N xs L n i τ) (nI i) b1 b2 b3 b4 (by omega) hG)
      rw [if_neg c1]
      by_cases c2 : ((xs (ix (nI i))) &&& 31) = 2
      · rw [if_pos c2]
        exact go (kase_2 N hN xs L (fun i τ => lp_law N xs L n i τ) (nI i) b1 b2 b3 b4 (by omega) hG)
      rw [if_neg c2]
      by_cases c3 : ((xs (ix (nI i))) &&& 31) = 3
      · rw [if_pos c3]
        exact go (kase_3 N hN xs L (fun i τ => lp_law N xs L n i τ) (nI i) b1 b2 b3 b4 (by omega) hG)
      rw [if_neg c3]
      by_cases c4 : ((xs (ix (nI i))) &&& 31) = 4
      · rw [if_pos c4]
        exact go (kase_4 N hN xs L (fun i τ => lp_law N xs L n i τ) (nI i) b1 b2 b3 b4 (by omega) hG)
      rw [if_neg c4]
      by_cases c5 : ((xs (ix (nI i))) &&& 31) = 5
      · rw [if_pos c5]
        exact go (kase_5 N hN xs L (fun i τ => lp_law N xs L n i τ) (nI i) b1 b2 b3 b4 (by omega) hG)
      rw [if_neg c5]
      by_cases c6 : ((xs (ix (nI i))) &&& 31) = 6
      · rw [if_pos c6]
        exact go (kase_6 N hN xs L (fun i τ => lp_law N xs L n i τ) (nI i) b1 b2 b3 b4 (by omega) hG)
      rw [if_neg c6]
      by_cases c7 : ((xs (ix (nI i))) &&& 31) = 7
      · rw [if_pos c7]
        exact go (kase_7 N hN xs L (fun i τ => lp_law N xs L n i τ) (nI i) b1 b2 b3 b4 (by omega) hG)
      rw [if_neg c7]
      by_cases c8 : ((xs (ix (nI i))) &&& 31) = 8
      · rw [if_pos c8]
        exact go (kase_8 N hN xs L (fun i τ => lp_law N xs L n i τ) (nI i) b1 b2 b3 b4 (by omega) hG)
      rw [if_neg c8]
      by_cases c9 : ((xs (ix (nI i))) &&& 31) = 9
      · rw [if_pos c9]
        exact go (kase_9 N hN xs L (fun i τ => lp_law N xs L n i τ) (nI i) b1 b2 b3 b4 (by omega) hG)
      rw [if_neg c9]
      by_cases c10 : ((xs (ix (nI i))) &&& 31) = 10
      · rw [if_pos c10]
        exact go (kase_10 N hN xs L (fun i τ => lp_law N xs L n i τ) (nI i) b1 b2 b3 b4 (by omega) hG)
      rw [if_neg c10]
      by_cases c11 : ((xs (ix (nI i))) &&& 31) = 11
      · rw [if_pos c11]
        exact go (kase_11 N hN xs L (fun i τ => lp_law N xs L n i τ) (nI i) b1 b2 b3 b4 (by omega) hG)
      rw [if_neg c11]
      by_cases c12 : ((xs (ix (nI i))) &&& 31) = 12
      · rw [if_pos c12]
        exact go (kase_12 N hN xs L (fun i τ => lp_law N xs L n i τ) (nI i) b1 b2 b3 b4 (by omega) hG)
      rw [if_neg c12]
      by_cases c13 : ((xs (ix (nI i))) &&& 31) = 13
      · rw [if_pos c13]
        exact go (kase_13 N hN xs L (fun i τ => lp_law N xs L n i τ) (nI i) b1 b2 b3 b4 (by omega) hG)
      rw [if_neg c13]
      by_cases c14 : ((xs (ix (nI i))) &&& 31) = 14
      · rw [if_pos c14]
        exact go (kase_14 N hN xs L (fun i τ => lp_law N xs L n i τ) (nI i) b1 b2 b3 b4 (by omega) hG)
      rw [if_neg c14]
      by_cases c15 : ((xs (ix (nI i))) &&& 31) = 15
      · rw [if_pos c15]
        exact go (kase_15 N hN xs L (fun i τ => lp_law N xs L n i τ) (nI i) b1 b2 b3 b4 (by omega) hG)
      rw [if_neg c15]
      by_cases c16 : ((xs (ix (nI i))) &&& 31) = 16
      · rw [if_pos c16]
        exact go (kase_16 N hN xs L (fun i τ => lp_law N xs L n i τ) (nI i) b1 b2 b3 b4 (by omega) hG)
      rw [if_neg c16]
      exact nx σ (good_q hG fun _ _ _ _ _ _ _ => rfl)
