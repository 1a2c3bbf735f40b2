/-! layer 2: the reference's plan -/
def RP (τ : St) (i : Nat) (a : Nat → Nat) : Prop := τ 32 i = nI (a 7) ∧ τ 33 i = nI (a 1) ∧ τ 34 i = nI (a 2) ∧ τ 35 i = nI (a 3) ∧ τ 36 i = nI (a 4) ∧ τ 37 i = nI (a 5) ∧ τ 38 i = nI (a 6)
def RV (τ : St) (V : PV) : Prop := ∀ i, i < 6 → (V i 0 = 0 → τ 32 i = -1) ∧ (V i 0 = 1 → RP τ i (V i))
def NP (n : Nat) (V : PV) : Prop := ∀ i, n ≤ i → V i 0 = 0
theorem r_way {τ : St} {V : PV} (h : RV τ V) (hs : SZ V) {i : Nat} (hi : i < 6) : (τ 32 i < 0) = (V i 0 = 0) := by
  by_cases e : V i 0 = 0
  · rw [(h i hi).1 e, eq_true e]; exact q_neg1
  · have h1 : V i 0 = 1 := by have := (hs i hi).1; omega
    have hz := (hs i hi).2 h1
    unfold sz1 at hz
    rw [((h i hi).2 h1).1, eq_false e]; exact q_pos (by omega)
theorem r_common (N : Nat) (τ : St) {a an b bn : Nat} (h1 : a < 100) (h2 : an < 100) (h3 : b < 100) (h4 : bn < 100) : f_X4_common N (nI a) (nI an) (nI b) (nI bn) τ = some (nI (cm a an b bn), τ) := by
  unfold f_X4_common
  simp (disch := omega) only [nI_add, q_le]
  unfold cm
  split
  · split
    · split
      · rw [show min (a + an) (b + bn) - max a b = 0 by omega]; rfl
      · rw [q_sub (by omega)]; congr 3; omega
    · split
      · rw [show min (a + an) (b + bn) - max a b = 0 by omega]; rfl
      · rw [q_sub (by omega)]; congr 3; omega
  · split
    · split
      · rw [show min (a + an) (b + bn) - max a b = 0 by omega]; rfl
      · rw [q_sub (by omega)]; congr 3; omega
    · split
      · rw [show min (a + an) (b + bn) - max a b = 0 by omega]; rfl
      · rw [q_sub (by omega)]; congr 3; omega
theorem r_area (N : Nat) {τ : St} {i j : Nat} {a b : Nat → Nat} (hi : i < 6) (hj : j < 6) (hp : RP τ i a) (hq : RP τ j b) (ha : sz1 a) (hb : sz1 b) : f_X4_area N (nI i) (nI j) τ = some (nI (ar2 a b), τ) := by
  obtain ⟨p0, p1, p2, p3, p4, p5, p6⟩ := hp
  obtain ⟨q0, q1, q2, q3, q4, q5, q6⟩ := hq
  unfold sz1 at ha hb
  unfold f_X4_area
  simp only [qiT hi, qiT hj, qix hi, qix hj, ↓reduceIte]
  rw [p1, p4, q1, q4, r_common N τ (by omega) (by omega) (by omega) (by omega), bn_some, p2, p5, q2, q5, r_common N τ (by omega) (by omega) (by omega) (by omega), bn_some, q_mul]
  rfl
theorem so_self {V : PV} (hs : SZ V) {i : Nat} (hi : i < 6) : so V i i = false := by
  unfold so
  by_cases h : V i 0 = 1
  · have := (hs i hi).2 h
    unfold sz1 at this
    have e : so2 (V i) (V i) = false := by
      unfold so2
      rw [show (V i 3 == V i 3 + V i 6) = false from by simp; omega]; rfl
    rw [e]; simp
  · simp [h]
theorem r_standsOn (N : Nat) {τ : St} {V : PV} (h : RV τ V) (hs : SZ V) {i j : Nat} (hi : i < 6) (hj : j < 6) : f_X4_standsOn N (nI i) (nI j) τ = some (bI (so V i j), τ) := by
  unfold f_X4_standsOn
  simp (disch := omega) only [qiT hi, qiT hj, qix hi, qix hj, ↓reduceIte, q_eq, r_way h hs hi, r_way h hs hj]
  by_cases e : i = j
  · subst e; rw [if_pos rfl, so_self hs hi]; rfl
  · rw [if_neg e]
    by_cases e1 : V i 0 = 0
    · rw [if_pos e1, so_unp' (by omega)]; rfl
    · rw [if_neg e1]
      by_cases e2 : V j 0 = 0
      · rw [if_pos e2, so_unp (by omega)]; rfl
      · have g1 : V i 0 = 1 := by have := (hs i hi).1; omega
        have g2 : V j 0 = 1 := by have := (hs j hj).1; omega
        have z1 := (hs i hi).2 g1
        have z2 := (hs j hj).2 g2
        have a1 := ar2_le (b := V j) z1
        have R1 := (h i hi).2 g1
        have R2 := (h j hj).2 g2
        rw [if_neg e2, r_area N hi hj R1 R2 z1 z2, bn_some, R1.2.2.2.1, R2.2.2.2.1, R2.2.2.2.2.2.2, nI_add]
        unfold sz1 at z1 z2
        have e0 : (nI (ar2 (V i) (V j)) ≤ 0) = (ar2 (V i) (V j) = 0) := (q_le (b := 0) (by omega) (by decide)).trans (by simp)
        simp (disch := omega) only [q_eq, e0]
        simp only [so, so2, g1, g2, beq_self_eq_true, Bool.true_and]
        by_cases h1 : V i 3 = V j 3 + V j 6
        · rw [if_pos h1]
          by_cases h2 : ar2 (V i) (V j) = 0
          · rw [if_pos h2]; simp [h2, bI]
          · rw [if_neg h2]; simp [h1, Nat.pos_of_ne_zero h2, bI]
        · rw [if_neg h1]; simp [h1, bI]
def RN (τ : St) (n : Nat) : Prop := τ 25 4 = nI n ∧ n ≤ 6
theorem qnT {τ : St} {n k : Nat} (h : RN τ n) (hk : n ≤ k) (hk2 : k < 100) : (τ 25 4 ≤ nI k) = True := by
  rw [h.1, q_le (by have := h.2; omega) (by omega)]; exact eq_true hk
theorem qnF {τ : St} {n k : Nat} (h : RN τ n) (hk : k < n) : (τ 25 4 ≤ nI k) = False := by
  have := h.2
  rw [h.1, q_le (by omega) (by omega)]; exact eq_false (by omega)
theorem r_sup' (N : Nat) {τ : St} {V : PV} {n : Nat} (hn6 : RN τ n) (h : RV τ V) (hs : SZ V) {i : Nat} (hi : i < 6) (hp : V i 0 = 1) (c : Int32) : ∀ r k f a, k + r = n → r < f → lp_X4_supportOf_27 N c f (nI i) (nI a) (nI k) τ = some (nI (a + up (supT V i) r k), τ) := by
  intro r
  induction r with
  | zero =>
    intro k f a hk hf
    obtain ⟨f, rfl, -⟩ := fuel1 hf
    have := hn6.2
    simp only [lp_X4_supportOf_27, qnT hn6 (show n ≤ k by omega) (by omega), ↓reduceIte, up, Nat.add_zero]
  | succ r ih =>
    intro k f a hk hf
    obtain ⟨f, rfl, hf⟩ := fuel1 hf
    have hk6 : k < 6 := by have := hn6.2; omega
    simp only [lp_X4_supportOf_27, qnF hn6 (show k < n by omega), nI_1, ↓reduceIte, r_standsOn N h hs hi hk6, bn_some, bI_0, up]
    by_cases hc : so V i k = false
    · have : supT V i k = 0 := by
        unfold supT
        rw [if_neg]
        intro ⟨h1, h2⟩
        simp [so, hp, h1, h2] at hc
      rw [if_pos hc, Int32.add_zero, ih (k + 1) f a (by omega) (by omega), this, Nat.zero_add]
    · have hk1 : V k 0 = 1 := by
        refine Classical.byContradiction fun e => hc (so_unp e i)
      have h2 : so2 (V i) (V k) = true := by
        have := Bool.of_not_eq_false hc
        simpa [so, hp, hk1] using this
      have : supT V i k = ar2 (V i) (V k) := by unfold supT; rw [if_pos ⟨hk1, h2⟩]
      rw [if_neg hc, r_area N hi hk6 ((h i hi).2 hp) ((h k hk6).2 hk1) ((hs i hi).2 hp) ((hs k hk6).2 hk1), bn_some, nI_add, ih (k + 1) f _ (by omega) (by omega), this, Nat.add_assoc]
theorem r_sup (N : Nat) (hN : 7 ≤ N) {τ : St} {V : PV} {n : Nat} (hn6 : RN τ n) (h : RV τ V) (hs : SZ V) (hnp : NP n V) {i : Nat} (hi : i < 6) (hp : V i 0 = 1) : f_X4_supportOf N (nI i) τ = some (nI (sup V i), τ) := by
  have R := (h i hi).2 hp
  have hz := (hs i hi).2 hp
  unfold sz1 at hz
  have := r_sup' N hn6 h hs hi hp (nI i) n 0 N 0 (by omega) (by have := hn6.2; omega)
  rw [Nat.zero_add, up_cut hn6.2 (fun j h1 _ => by unfold supT; rw [if_neg (by rw [hnp j h1]; simp)])] at this
  unfold f_X4_supportOf
  simp only [qiT hi, qix hi, ↓reduceIte]
  rw [R.2.2.2.1, R.2.2.2.2.1, R.2.2.2.2.2.1, q_mul, show (0 : Int32) = nI 0 from rfl, this]
  simp (disch := omega) only [q_eq, sup]
  by_cases e : V i 3 = 0
  · rw [if_pos e, if_pos e]
  · rw [if_neg e, if_neg e]
