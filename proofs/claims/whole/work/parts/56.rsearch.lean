/-! layer 2: the reference's search, turn by turn -/
def LF (i : Nat) (τ υ : St) : Prop := ∀ p f, ¬ (32 ≤ p ∧ p ≤ 42) → ¬ (p = 25 ∧ (f = 20 ∨ f = 21 ∨ f = 26)) → ¬ (44 ≤ p ∧ p ≤ 47 ∧ i ≤ f) → ¬ (p = 48 ∧ i ≤ f % 56 / 8) → ¬ (p = 49 ∧ i ≤ f % 7) → ¬ (p = 50 ∧ i ≤ f) → υ p f = τ p f
theorem LF.rf (i : Nat) (τ : St) : LF i τ τ := fun _ _ _ _ _ _ _ _ => rfl
theorem LF.tr {i : Nat} {τ υ φ : St} (h : LF i τ υ) (k : LF i υ φ) : LF i τ φ := fun p f h1 h2 h3 h4 h5 h6 => (k p f h1 h2 h3 h4 h5 h6).trans (h p f h1 h2 h3 h4 h5 h6)
theorem LF.dn {i : Nat} {τ υ : St} (h : LF (i + 1) τ υ) : LF i τ υ := fun p f h1 h2 h3 h4 h5 h6 => h p f h1 h2 (by omega) (by omega) (by omega) (by omega)
theorem FE.lf {i : Nat} {τ υ : St} (h : FE i τ υ) : LF i τ υ := fun p f _ _ h3 h4 h5 _ => h p f (by omega) (by omega) (by omega)
theorem FA.lf {i : Nat} {τ υ : St} (h : FA i τ υ) : LF i τ υ := fun p f _ _ h3 _ _ _ => h p f (by omega)
def RK (c : CT) (τ : St) : Prop := RN τ (xN c) ∧ BX τ 25 1 (xB c) ∧ τ 25 11 = nI (xSh c) ∧ (∀ i, i < xN c → τ 27 i = nI (xW c i) ∧ τ 29 i = xL c i ∧ RS τ i (xS c i) ∧ τ 28 i = nI (xM c i)) ∧ τ 25 28 = nI (xO c).length ∧ ∀ j p, (xO c)[j]? = some p → τ 43 j = nI p
theorem RK.fr {c : CT} {τ υ : St} (h : RK c τ) (k : ∀ p f, (p = 25 ∧ f ≠ 20 ∧ f ≠ 21 ∧ f ≠ 26 ∨ 26 ≤ p ∧ p ≤ 31 ∨ p = 43) → υ p f = τ p f) : RK c υ := by
  obtain ⟨⟨h1, h1'⟩, ⟨b0, b1, b2, b3⟩, h2, h3, h4, h5⟩ := h
  refine ⟨⟨(k _ _ (by omega)).trans h1, h1'⟩, ⟨(k _ _ (by omega)).trans b0, (k _ _ (by omega)).trans b1, (k _ _ (by omega)).trans b2, b3⟩, (k _ _ (by omega)).trans h2, fun i hi => ?_, (k _ _ (by omega)).trans h4, fun j p hp => (k _ _ (by omega)).trans (h5 j p hp)⟩
  obtain ⟨g1, g2, ⟨s0, s1, s2⟩, g4⟩ := h3 i hi
  exact ⟨(k _ _ (by omega)).trans g1, (k _ _ (by omega)).trans g2, ⟨(k _ _ (by omega)).trans s0, (k _ _ (by omega)).trans s1, (k _ _ (by omega)).trans s2⟩, (k _ _ (by omega)).trans g4⟩
theorem RK.lf {c : CT} {i : Nat} {τ υ : St} (h : RK c τ) (k : LF i τ υ) : RK c υ := h.fr fun p f e => k p f (by omega) (by omega) (by omega) (by omega) (by omega) (by omega)
def KR (τ : St) (K : PV) : Prop := ∀ i, i < 6 → (K i 0 = 0 → τ 39 i = -1) ∧ (K i 0 = 1 → τ 39 i = nI (K i 7) ∧ τ 40 i = nI (K i 1) ∧ τ 41 i = nI (K i 2) ∧ τ 42 i = nI (K i 3))
def RA (τ : St) (A : AC) : Prop := τ 25 26 = nI A.1 ∧ τ 25 20 = bI (decide (0 < A.2.1)) ∧ τ 25 21 = nI (A.2.1 - 1) ∧ KR τ A.2.2.1
theorem RA.fr {τ υ : St} {A : AC} (h : RA τ A) (k : ∀ p f, (p = 25 ∧ (f = 20 ∨ f = 21 ∨ f = 26) ∨ 39 ≤ p ∧ p ≤ 42) → υ p f = τ p f) : RA υ A := ⟨(k _ _ (by omega)).trans h.1, (k _ _ (by omega)).trans h.2.1, (k _ _ (by omega)).trans h.2.2.1, fun i hi => ⟨fun e => (k _ _ (by omega)).trans ((h.2.2.2 i hi).1 e), fun e => by
  obtain ⟨a1, a2, a3, a4⟩ := (h.2.2.2 i hi).2 e
  exact ⟨(k _ _ (by omega)).trans a1, (k _ _ (by omega)).trans a2, (k _ _ (by omega)).trans a3, (k _ _ (by omega)).trans a4⟩⟩⟩
theorem r_look33 (N : Nat) (v1 : Int32) : ∀ r k f τ, k + r = 6 → r < f → ∃ υ, lp_X4_look_33 N f v1 (nI k) τ = some υ ∧ (∀ j, k ≤ j → j < 6 → υ 39 j = τ 32 j ∧ υ 40 j = τ 33 j ∧ υ 41 j = τ 34 j ∧ υ 42 j = τ 35 j) ∧ ∀ p g, ¬ (39 ≤ p ∧ p ≤ 42 ∧ k ≤ g ∧ g < 6) → υ p g = τ p g := by
  intro r
  induction r with
  | zero =>
    intro k f τ hk hf
    obtain ⟨f, rfl, -⟩ := fuel1 hf
    refine ⟨τ, ?_, fun j h1 h2 => by omega, fun _ _ _ => rfl⟩
    simp only [lp_X4_look_33, q6T (show 6 ≤ k by omega) (by omega), ↓reduceIte]
  | succ r ih =>
    intro k f τ hk hf
    obtain ⟨f, rfl, hf⟩ := fuel1 hf
    have hk6 : k < 6 := by omega
    obtain ⟨υ, u1, u2, u3⟩ := ih (k + 1) f (su (su (su (su τ 39 k (τ 32 k)) 40 k (τ 33 k)) 41 k (τ 34 k)) 42 k (τ 35 k)) (by omega) (by omega)
    have hne : ∀ p g, ¬ (39 ≤ p ∧ p ≤ 42 ∧ g = k) → su (su (su (su τ 39 k (τ 32 k)) 40 k (τ 33 k)) 41 k (τ 34 k)) 42 k (τ 35 k) p g = τ p g := fun p g h => by
      rw [su_ne _ _ (by omega), su_ne _ _ (by omega), su_ne _ _ (by omega), su_ne _ _ (by omega)]
    refine ⟨υ, ?_, fun j h1 h2 => ?_, fun p g h => ?_⟩
    · simp (disch := decide) only [lp_X4_look_33, q6F hk6, qiT hk6, qix hk6, nI_1, ↓reduceIte, su_row]
      exact u1
    · by_cases e : j = k
      · subst e
        rw [u3 _ _ (by omega), u3 _ _ (by omega), u3 _ _ (by omega), u3 _ _ (by omega)]
        simp [su]
      · have := u2 j (by omega) h2
        rw [hne _ _ (by omega), hne _ _ (by omega), hne _ _ (by omega), hne _ _ (by omega)] at this
        exact this
    · rw [u3 p g (by omega), hne p g (by omega)]
theorem r_look (N : Nat) (hN : 9 ≤ N) {c : CT} {V : PV} (hg : VG c V) {A : AC} (hA : GA c A) {τ : St} (hk : RK c τ) (hV : RV τ V) (ha : RA τ A) : ∃ υ, f_X4_look N τ = some υ ∧ RA υ (lookA V A) ∧ ∀ p g, ¬ (p = 25 ∧ (g = 20 ∨ g = 21)) → ¬ (39 ≤ p ∧ p ≤ 42) → υ p g = τ p g := by
  have hvol := r_vol N (by omega) hk.1 hV hg.1 hg.2.2.1 (fun i hi => (hk.2.2.2.1 i hi).2.2.1) hg.2.1
  have hv := vol_le hg.1
  unfold f_X4_look
  rw [hvol, bn_some, ha.2.1, ha.2.2.1]
  have hv' : up (volT V) 6 0 ≤ 3072 := hv
  have hA2 := hA.2.1
  simp (disch := omega) only [bI_and, q_lt, decide_eq_false_iff_not]
  have cp : ∃ υ, lp_X4_look_33 N N (nI (up (volT V) 6 0)) 0 (su (su τ 25 20 1) 25 21 (nI (up (volT V) 6 0))) = some υ ∧ RA υ (A.1, vol V + 1, V, A.2.2.2) ∧ ∀ p g, ¬ (p = 25 ∧ (g = 20 ∨ g = 21)) → ¬ (39 ≤ p ∧ p ≤ 42) → υ p g = τ p g := by
    obtain ⟨υ, u1, u2, u3⟩ := r_look33 N (nI (up (volT V) 6 0)) 6 0 N (su (su τ 25 20 1) 25 21 (nI (up (volT V) 6 0))) rfl (by omega)
    refine ⟨υ, u1, ⟨?_, ?_, ?_, fun i hi => ⟨fun e => ?_, fun e => ?_⟩⟩, fun p g h1 h2 => ?_⟩
    · rw [u3 _ _ (by omega), su_ne _ _ (by omega), su_ne _ _ (by omega)]; exact ha.1
    · rw [u3 _ _ (by omega), su_ne _ _ (by omega), su_same, decide_eq_true (by show 0 < vol V + 1; omega)]; rfl
    · rw [u3 _ _ (by omega), su_same]; rfl
    · rw [(u2 i (by omega) hi).1, su_ne _ _ (by omega), su_ne _ _ (by omega)]; exact (hV i hi).1 e
    · obtain ⟨q1, q2, q3, q4⟩ := u2 i (by omega) hi
      obtain ⟨p0, p1, p2, p3, -⟩ := (hV i hi).2 e
      rw [q1, q2, q3, q4]
      simp (disch := decide) only [su_row]
      exact ⟨p0, p1, p2, p3⟩
    · rw [u3 _ _ (by omega), su_ne _ _ (by omega), su_ne _ _ (by omega)]
  unfold lookA
  by_cases h0 : 0 < A.2.1
  · rw [if_neg (by omega)]
    by_cases h1 : A.2.1 - 1 < up (volT V) 6 0
    · rw [if_pos h1, if_pos (by show A.2.1 < up (volT V) 6 0 + 1; omega)]; exact cp
    · rw [if_neg h1, if_neg (by show ¬ A.2.1 < up (volT V) 6 0 + 1; omega)]
      exact ⟨τ, rfl, ha, fun _ _ _ _ => rfl⟩
  · rw [if_pos h0, if_pos (by omega)]; exact cp
/-- one level deeper -/
def dpr (N : Nat) (v : Int32) (f i : Nat) (τ : St) : Option (Int32 × St) := if (su τ 50 (i + 1) 0) 25 28 ≤ nI (i + 1) then lp_X4_search_21 N v f v (nI (i + 1)) (su τ 50 (i + 1) 0) else bv (f_X4_enter N (nI (i + 1)) (su τ 50 (i + 1) 0)) fun υ => lp_X4_search_21 N v f v (nI (i + 1)) υ
theorem it_leaf (N : Nat) (v : Int32) (f : Nat) {i : Nat} (hi : i < 7) {τ : St} (h : τ 25 28 = nI i) : lp_X4_search_21 N v (f + 1) v (nI i) τ = bv (f_X4_look N τ) fun υ => lp_X4_search_21 N v f v (nI i + (-1)) υ := by
  simp only [lp_X4_search_21]
  rw [if_neg (nI_pos (by omega)), if_pos h.symm]
theorem it_pop (N : Nat) (v : Int32) (f : Nat) {i n : Nat} (hi : i < n) (hn : n ≤ 6) {τ : St} (h : τ 25 28 = nI n) (h5 : τ 50 i = 1) : lp_X4_search_21 N v (f + 1) v (nI i) τ = lp_X4_search_21 N v f v (nI i + (-1)) τ := by
  simp only [lp_X4_search_21]
  rw [if_neg (nI_pos (by omega)), if_neg (by rw [h, q_eq (by omega) (by omega)]; omega), if_pos (q_inb (by omega) (by decide)), q_ix (by omega), if_pos h5]
theorem it_go (N : Nat) (v : Int32) (f : Nat) {i n p : Nat} (hi : i < n) (hn : n ≤ 6) {τ : St} (h : τ 25 28 = nI n) (h5 : τ 50 i = 0) (h43 : τ 43 i = nI p) (hp : p < 6) {r : Int32} {τ1 : St} (ha : f_X4_advance N (nI i) (su τ 32 p (-1)) = some (r, τ1)) : lp_X4_search_21 N v (f + 1) v (nI i) τ =
    if r = 0 then dpr N v f i (su τ1 50 i 1) else if τ1 25 26 = v then some (0, τ1) else
      if inb (nI (8 * i) + τ1 45 i) 168 = true then if inb (nI (56 + 8 * i) + τ1 46 i) 168 = true then if inb (nI (112 + 8 * i) + τ1 47 i) 168 = true then
      bv (f_X4_stand N (τ1 43 i) (τ1 44 i) (τ1 48 (ix (nI (8 * i) + τ1 45 i))) (τ1 48 (ix (nI (56 + 8 * i) + τ1 46 i))) (τ1 48 (ix (nI (112 + 8 * i) + τ1 47 i))) (su τ1 25 26 (τ1 25 26 + 1))) fun τ2 =>
      bn (f_X4_isPlan N τ2) fun r3 τ3 =>
      if r3 = 0 then (if inb (τ3 43 i) 6 = true then lp_X4_search_21 N v f v (nI i) (su τ3 32 (ix (τ3 43 i)) (-1)) else none) else dpr N v f i τ3
      else none else none else none := by
  simp only [lp_X4_search_21]
  rw [if_neg (nI_pos (by omega)), if_neg (by rw [h, q_eq (by omega) (by omega)]; omega), if_pos (q_inb (by omega) (by decide)), q_ix (by omega), if_neg (by rw [h5]; decide), if_pos (q_inb (by omega) (by decide)), h43, if_pos (q_inb hp (by decide)), q_ix (by omega), ha, bn_some]
  by_cases e : r = 0
  · rw [if_pos e, if_pos e, if_pos (q_inb (by omega) (by decide)), nI_1, if_pos (q_inb (by omega) (by decide)), q_ix (by omega)]; rfl
  · rw [if_neg e, if_neg e]
    by_cases e2 : τ1 25 26 = v
    · rw [if_pos e2, if_pos e2]
    · rw [if_neg e2, if_neg e2, if_pos (q_inb (by omega) (by decide)), if_pos (q_inb (by omega) (by decide)), if_pos (q_inb (by omega) (by decide)), if_pos (q_inb (by omega) (by decide)), if_pos (q_inb (by omega) (by decide))]
      have h43' : su τ1 25 26 (τ1 25 26 + 1) 43 = τ1 43 := su_row (by decide)
      have h44' : su τ1 25 26 (τ1 25 26 + 1) 44 = τ1 44 := su_row (by decide)
      have h45' : su τ1 25 26 (τ1 25 26 + 1) 45 = τ1 45 := su_row (by decide)
      have h46' : su τ1 25 26 (τ1 25 26 + 1) 46 = τ1 46 := su_row (by decide)
      have h47' : su τ1 25 26 (τ1 25 26 + 1) 47 = τ1 47 := su_row (by decide)
      have h48' : su τ1 25 26 (τ1 25 26 + 1) 48 = τ1 48 := su_row (by decide)
      rw [h43', h44', h45', h46', h47', h48', show (8 : Int32) * nI i = nI (8 * i) from q_mul 8 i, show (56 : Int32) + nI (8 * i) = nI (56 + 8 * i) from nI_add 56 _, show (112 : Int32) + nI (8 * i) = nI (112 + 8 * i) from nI_add 112 _]
      by_cases c1 : inb (nI (8 * i) + τ1 45 i) 168 = true
      · rw [if_pos c1, if_pos c1]
        by_cases c2 : inb (nI (56 + 8 * i) + τ1 46 i) 168 = true
        · rw [if_pos c2, if_pos c2]
          by_cases c3 : inb (nI (112 + 8 * i) + τ1 47 i) 168 = true
          · rw [if_pos c3, if_pos c3]
            cases f_X4_stand N (τ1 43 i) (τ1 44 i) (τ1 48 (ix (nI (8 * i) + τ1 45 i))) (τ1 48 (ix (nI (56 + 8 * i) + τ1 46 i))) (τ1 48 (ix (nI (112 + 8 * i) + τ1 47 i))) (su τ1 25 26 (τ1 25 26 + 1)) with
            | none => rfl
            | some τ2 =>
              simp only [bv_some]
              cases f_X4_isPlan N τ2 with
              | none => rfl
              | some q =>
                obtain ⟨r3, τ3⟩ := q
                simp only [bn_some]
                by_cases e3 : r3 = 0
                · rw [if_pos e3, if_pos e3, if_pos (q_inb (show i < 6 by omega) (by decide))]
                  simp only [e3, ↓reduceIte]
                · rw [if_neg e3, if_neg e3, if_neg e3, nI_1, if_pos (q_inb (by omega) (by decide)), q_ix (by omega)]; rfl
          · rw [if_neg c3, if_neg c3]
        · rw [if_neg c2, if_neg c2]
      · rw [if_neg c1, if_neg c1]
