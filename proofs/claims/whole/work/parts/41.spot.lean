/-! layer 2: pictures of plans; a spot's functions -/
def cm (a an b bn : Nat) : Nat := min (a + an) (b + bn) - max a b
def ar2 (a b : Nat → Nat) : Nat := cm (a 1) (a 4) (b 1) (b 4) * cm (a 2) (a 5) (b 2) (b 5)
abbrev PV : Type := Nat → Nat → Nat
/-- a stands on b -/
def so2 (a b : Nat → Nat) : Bool := a 3 == b 3 + b 6 && decide (0 < ar2 a b)
def so (V : PV) (i j : Nat) : Bool := V i 0 == 1 && (V j 0 == 1 && so2 (V i) (V j))
def sz1 (a : Nat → Nat) : Prop := a 1 ≤ 8 ∧ a 2 ≤ 8 ∧ a 3 ≤ 8 ∧ 1 ≤ a 4 ∧ a 4 ≤ 8 ∧ 1 ≤ a 5 ∧ a 5 ≤ 8 ∧ 1 ≤ a 6 ∧ a 6 ≤ 8 ∧ a 7 < 6
def SZ (V : PV) : Prop := ∀ i, i < 6 → V i 0 ≤ 1 ∧ (V i 0 = 1 → sz1 (V i))
def SP (σ : St) (p : Nat) (a : Nat → Nat) : Prop := σ p 1 = nI (a 1) ∧ σ p 2 = nI (a 2) ∧ σ p 3 = nI (a 3) ∧ σ p 4 = nI (a 4) ∧ σ p 5 = nI (a 5) ∧ σ p 6 = nI (a 6) ∧ σ p 7 = nI (a 7)
def CV (σ : St) (b : Nat) (V : PV) : Prop := ∀ i, i < 6 → σ (13 + 6 * b + i) 0 = nI (V i 0) ∧ (V i 0 = 1 → SP σ (13 + 6 * b + i) (V i))
theorem q_pl0 {v : Nat} (h : v ≤ 1) : ((nI v &&& 1 : Int32) = 0) = (v = 0) := by
  match v, h with
  | 0, _ => exact eq_true (by decide) |>.trans (eq_true rfl).symm
  | 1, _ => exact (eq_false (by decide)).trans (eq_false (by decide)).symm
theorem q_min {a b : Nat} (ha : a < 2 ^ 31) (hb : b < 2 ^ 31) : mmin (nI a) (nI b) = nI (min a b) := by
  unfold mmin; simp only [q_lt hb ha]
  by_cases h : b < a
  · rw [if_pos h, Nat.min_eq_right (by omega)]
  · rw [if_neg h, Nat.min_eq_left (by omega)]
theorem q_max {a b : Nat} (ha : a < 2 ^ 31) (hb : b < 2 ^ 31) : mmax (nI a) (nI b) = nI (max a b) := by
  unfold mmax; simp only [q_lt ha hb]
  by_cases h : a < b
  · rw [if_pos h, Nat.max_eq_right (by omega)]
  · rw [if_neg h, Nat.max_eq_left (by omega)]
theorem cm_pos {a an b bn : Nat} (h1 : 1 ≤ an) (h2 : 1 ≤ bn) : 0 < cm a an b bn ↔ a < b + bn ∧ b < a + an := by unfold cm; omega
theorem cm_le {a an b bn : Nat} : cm a an b bn ≤ an := by unfold cm; omega
theorem cm_comm (a an b bn : Nat) : cm a an b bn = cm b bn a an := by unfold cm; rw [Nat.min_comm, Nat.max_comm]
theorem ar2_comm (a b : Nat → Nat) : ar2 a b = ar2 b a := by unfold ar2; rw [cm_comm (a 1), cm_comm (a 2)]
theorem ar2_pos (a b : Nat → Nat) : 0 < ar2 a b ↔ 0 < cm (a 1) (a 4) (b 1) (b 4) ∧ 0 < cm (a 2) (a 5) (b 2) (b 5) := by
  unfold ar2
  constructor
  · intro h
    exact ⟨Nat.pos_of_mul_pos_right h, Nat.pos_of_mul_pos_left h⟩
  · exact fun h => Nat.mul_pos h.1 h.2
theorem ar2_le {a b : Nat → Nat} (h : sz1 a) : ar2 a b ≤ 64 := by
  obtain ⟨-, -, -, -, h4, -, h5, -⟩ := h
  exact Nat.mul_le_mul (Nat.le_trans cm_le h4) (Nat.le_trans cm_le h5)
theorem c_mfa (N : Nat) {σ : St} {p q : Nat} {a b : Nat → Nat} (hp : SP σ p a) (hq : SP σ q b) (ha : sz1 a) (hb : sz1 b) : f_X2_meetsFromAbove N p q σ = some (bI (decide (0 < ar2 a b)), σ) := by
  obtain ⟨p1, p2, p3, p4, p5, p6, p7⟩ := hp
  obtain ⟨q1, q2, q3, q4, q5, q6, q7⟩ := hq
  unfold sz1 at ha hb
  unfold f_X2_meetsFromAbove
  rw [p1, p2, p4, p5, q1, q2, q4, q5]
  simp (disch := omega) only [nI_add, q_le]
  have e := ar2_pos a b
  rw [cm_pos (by omega) (by omega), cm_pos (by omega) (by omega)] at e
  by_cases h : 0 < ar2 a b
  · have := e.mp h
    rw [if_neg (by omega), if_neg (by omega), if_neg (by omega), if_neg (by omega), decide_eq_true h]; rfl
  · rw [decide_eq_false h]
    split
    · rfl
    · split
      · rfl
      · split
        · rfl
        · split
          · rfl
          · exact absurd (e.mpr (by omega)) h
theorem c_meets (N : Nat) {σ : St} {p q : Nat} {a b : Nat → Nat} (hp : SP σ p a) (hq : SP σ q b) (ha : sz1 a) (hb : sz1 b) : f_X2_meets N p q σ = some (bI (decide (0 < ar2 a b ∧ 0 < cm (a 3) (a 6) (b 3) (b 6))), σ) := by
  unfold f_X2_meets
  rw [c_mfa N hp hq ha hb, bn_some]
  obtain ⟨p1, p2, p3, p4, p5, p6, p7⟩ := hp
  obtain ⟨q1, q2, q3, q4, q5, q6, q7⟩ := hq
  unfold sz1 at ha hb
  rw [p3, p6, q3, q6]
  simp (disch := omega) only [nI_add, q_le, bI_0, cm_pos]
  by_cases h : 0 < ar2 a b
  · rw [if_neg (by simp [h])]
    by_cases h2 : b 3 + b 6 ≤ a 3
    · rw [if_pos h2, decide_eq_false (by omega)]; rfl
    · rw [if_neg h2]
      by_cases h3 : a 3 + a 6 ≤ b 3
      · rw [if_pos h3, decide_eq_false (by omega)]; rfl
      · rw [if_neg h3, decide_eq_true (by omega)]; rfl
  · rw [if_pos (by simp [h]), decide_eq_false (by omega)]; rfl
theorem c_standsOn (N : Nat) {σ : St} {p q : Nat} {a b : Nat → Nat} (hp : SP σ p a) (hq : SP σ q b) (ha : sz1 a) (hb : sz1 b) : f_X2_standsOn N p q σ = some (bI (so2 a b), σ) := by
  unfold f_X2_standsOn
  rw [c_mfa N hp hq ha hb]
  obtain ⟨p1, p2, p3, p4, p5, p6, p7⟩ := hp
  obtain ⟨q1, q2, q3, q4, q5, q6, q7⟩ := hq
  unfold sz1 at ha hb
  rw [p3, q3, q6]
  simp (disch := omega) only [nI_add, q_eq, bn_some, bI_0, so2]
  by_cases h : a 3 = b 3 + b 6
  · rw [if_pos h]
    by_cases h2 : 0 < ar2 a b
    · rw [if_neg (by simp [h2])]; simp [h, h2, bI]
    · rw [if_pos (by simp [h2])]; simp [h2, bI]
  · rw [if_neg h]; simp [h, bI]
theorem c_commonArea (N : Nat) {σ : St} {p q : Nat} {a b : Nat → Nat} (hp : SP σ p a) (hq : SP σ q b) (ha : sz1 a) (hb : sz1 b) (h : 0 < ar2 a b) : f_X2_commonArea N p q σ = some (nI (ar2 a b), σ) := by
  obtain ⟨p1, p2, p3, p4, p5, p6, p7⟩ := hp
  obtain ⟨q1, q2, q3, q4, q5, q6, q7⟩ := hq
  unfold sz1 at ha hb
  have e := (ar2_pos a b).mp h
  unfold f_X2_commonArea
  rw [p1, p2, p4, p5, q1, q2, q4, q5]
  simp only [nI_add]
  rw [q_min (by omega) (by omega), q_min (by omega) (by omega), q_max (by omega) (by omega), q_max (by omega) (by omega), q_sub (by unfold cm at e; omega), q_sub (by unfold cm at e; omega), q_mul]
  rfl
theorem c_area (N : Nat) {σ : St} {p : Nat} {a : Nat → Nat} (h0 : σ p 0 = nI (a 0)) (h1 : a 0 ≤ 1) (hp : a 0 = 1 → SP σ p a) : f_X2_area N p σ = some (nI (if a 0 = 1 then a 4 * a 5 else 0), σ) := by
  unfold f_X2_area
  rw [h0]
  simp only [q_pl0 h1]
  by_cases h : a 0 = 0
  · rw [if_pos h, if_neg (by omega)]; rfl
  · have h2 : a 0 = 1 := by omega
    obtain ⟨p1, p2, p3, p4, p5, p6, p7⟩ := hp h2
    rw [if_neg h, if_pos h2, p4, p5, q_mul]
theorem c_volume (N : Nat) {σ : St} {p : Nat} {a : Nat → Nat} (h0 : σ p 0 = nI (a 0)) (h1 : a 0 ≤ 1) (hp : a 0 = 1 → SP σ p a) : f_X2_volume N p σ = some (nI (if a 0 = 1 then a 4 * a 5 * a 6 else 0), σ) := by
  unfold f_X2_volume
  rw [c_area N h0 h1 hp, bn_some]
  by_cases h : a 0 = 1
  · obtain ⟨p1, p2, p3, p4, p5, p6, p7⟩ := hp h
    rw [if_pos h, if_pos h, p6, q_mul]
  · rw [if_neg h, if_neg h]
    rw [show nI 0 = 0 from rfl, Int32.zero_mul]
/-- the cell x y z lies in a -/
def cov (a : Nat → Nat) (x y z : Nat) : Bool := decide (a 1 ≤ x ∧ x < a 1 + a 4 ∧ a 2 ≤ y ∧ y < a 2 + a 5 ∧ a 3 ≤ z ∧ z < a 3 + a 6)
theorem c_covers (N : Nat) {σ : St} {p : Nat} {a : Nat → Nat} {x y z : Nat} (hp : SP σ p a) (ha : sz1 a) (hx : x < 8) (hy : y < 8) (hz : z < 8) : f_X2_covers N p (nI x) (nI y) (nI z) σ = some (bI (cov a x y z), σ) := by
  obtain ⟨p1, p2, p3, p4, p5, p6, p7⟩ := hp
  unfold sz1 at ha
  unfold f_X2_covers
  rw [p1, p2, p3, p4, p5, p6]
  simp (disch := omega) only [nI_add, q_le, q_lt]
  unfold cov
  by_cases h : a 1 ≤ x ∧ x < a 1 + a 4 ∧ a 2 ≤ y ∧ y < a 2 + a 5 ∧ a 3 ≤ z ∧ z < a 3 + a 6
  · rw [if_neg (by omega), if_neg (by omega), if_neg (by omega), if_neg (by omega), if_neg (by omega), if_neg (by omega), decide_eq_true h]; rfl
  · rw [decide_eq_false h]
    repeat (split; rfl)
    exact absurd (by omega) h
