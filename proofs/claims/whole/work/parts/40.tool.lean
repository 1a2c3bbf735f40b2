/-! layer 2: numbers, bits, loops -/
theorem q_1 : (1 : Int32) = nI 1 := rfl
theorem q_inb {k n : Nat} (h : k < n) (hn : n < 2 ^ 31) : inb (nI k) n = true := by
  unfold inb; exact decide_eq_true (nI_in h hn)
theorem q_ix {k : Nat} (h : k < 2 ^ 31) : ix (nI k) = k := nI_clamp h
theorem q_mul (a b : Nat) : nI a * nI b = nI (a * b) := (Int32.ofNat_mul a b).symm
theorem q_sub {a b : Nat} (h : b ≤ a) : nI a - nI b = nI (a - b) := by
  have : nI a = nI (a - b) + nI b := by rw [nI_add]; congr 1; omega
  rw [this, Int32.add_sub_cancel]
theorem q_pred {k : Nat} (h : 0 < k) : nI k + (-1) = nI (k - 1) := by
  have e : nI k = nI (k - 1) + 1 := by rw [nI_1]; congr 1; omega
  rw [e]
  have : (nI (k - 1) + 1 + (-1) : Int32) = nI (k - 1) + (1 + (-1)) := Int32.add_assoc _ _ _
  rw [this, show (1 + (-1) : Int32) = 0 from rfl, Int32.add_zero]
theorem q_le {a b : Nat} (ha : a < 2 ^ 31) (hb : b < 2 ^ 31) : (nI a ≤ nI b) = (a ≤ b) := propext (nI_leI ha hb)
theorem q_lt {a b : Nat} (ha : a < 2 ^ 31) (hb : b < 2 ^ 31) : (nI a < nI b) = (a < b) := propext (nI_ltI ha hb)
theorem q_eq {a b : Nat} (ha : a < 2 ^ 31) (hb : b < 2 ^ 31) : (nI a = nI b) = (a = b) := propext (nI_eq ha hb)
theorem q6T {k : Nat} (h : 6 ≤ k) (hk : k < 2 ^ 31) : ((6 : Int32) ≤ nI k) = True := (q_le (a := 6) (by decide) hk).trans (eq_true h)
theorem q6F {k : Nat} (h : k < 6) : ((6 : Int32) ≤ nI k) = False := (q_le (a := 6) (by decide) (by omega)).trans (eq_false (by omega))
theorem qiT {k : Nat} (h : k < 6) : (inb (nI k) 6 = true) = True := eq_true (q_inb h (by decide))
theorem qix {k : Nat} (h : k < 6) : ix (nI k) = k := q_ix (by omega)
theorem q_pos {n : Nat} (h : n < 2 ^ 31) : (nI n < 0) = False := eq_false (nI_pos h)
theorem q_neg1 : ((-1 : Int32) < 0) = True := eq_true (by decide)
theorem q_neg1n {n : Nat} (h : n < 2 ^ 31) : (nI n = -1) = False := eq_false fun e => by
  have := nI_pos h; rw [e] at this; exact this (by decide)
theorem q_of {x : Int32} (h : 0 ≤ x) : ∃ j : Nat, j < 2 ^ 31 ∧ x = nI j := nI_of (Int32.not_lt.mpr h)
theorem q_and0 : (nI 0 &&& 1 : Int32) = 0 := by decide
theorem q_and1 : (nI 1 &&& 1 : Int32) = 1 := by decide
/-- truth as a number -/
def bI (c : Bool) : Int32 := if c = true then 1 else 0
theorem bI_t : bI true = 1 := rfl
theorem bI_f : bI false = 0 := rfl
theorem bI_0 (c : Bool) : (bI c = 0) = (c = false) := by cases c <;> simp [bI]
theorem bI_1 (c : Bool) : (bI c = 1) = (c = true) := by cases c <;> simp [bI]
theorem bI_ok (c : Bool) : (bI c = 0 ∨ bI c = 1) = True := by cases c <;> simp [bI]
theorem bn_some {α β : Type} (a : α) (τ : St) (f : α → St → Option β) : bn (some (a, τ)) f = f a τ := rfl
theorem bv_some {β : Type} (τ : St) (f : St → Option β) : bv (some τ) f = f τ := rfl
/-! sums, all, first -/
def up (f : Nat → Nat) : Nat → Nat → Nat
  | 0, _ => 0
  | r + 1, k => f k + up f r (k + 1)
def ba (f : Nat → Bool) : Nat → Nat → Bool
  | 0, _ => true
  | r + 1, k => f k && ba f r (k + 1)
theorem ba_iff (f : Nat → Bool) : ∀ r k, ba f r k = true ↔ ∀ j, k ≤ j → j < k + r → f j = true := by
  intro r
  induction r with
  | zero => intro k; simp only [ba, true_iff]; intro j h1 h2; omega
  | succ r ih =>
    intro k
    simp only [ba, Bool.and_eq_true, ih]
    constructor
    · intro ⟨h1, h2⟩ j h3 h4
      by_cases e : j = k
      · exact e ▸ h1
      · exact h2 j (by omega) (by omega)
    · intro h
      exact ⟨h k (by omega) (by omega), fun j h1 h2 => h j (by omega) (by omega)⟩
theorem up_congr {f g : Nat → Nat} : ∀ r k, (∀ j, k ≤ j → j < k + r → f j = g j) → up f r k = up g r k := by
  intro r
  induction r with
  | zero => intro k _; rfl
  | succ r ih =>
    intro k h
    simp only [up]
    rw [h k (by omega) (by omega), ih (k + 1) (fun j h1 h2 => h j (by omega) (by omega))]
theorem up_le {f g : Nat → Nat} : ∀ r k, (∀ j, k ≤ j → j < k + r → f j ≤ g j) → up f r k ≤ up g r k := by
  intro r
  induction r with
  | zero => intro k _; exact Nat.le_refl _
  | succ r ih =>
    intro k h
    simp only [up]
    exact Nat.add_le_add (h k (by omega) (by omega)) (ih (k + 1) (fun j h1 h2 => h j (by omega) (by omega)))
theorem up_const (c : Nat) : ∀ r k, up (fun _ => c) r k = r * c := by
  intro r
  induction r with
  | zero => intro k; simp [up]
  | succ r ih => intro k; simp only [up, ih, Nat.succ_mul]; omega
theorem up_bound {f : Nat → Nat} {c : Nat} (r k : Nat) (h : ∀ j, k ≤ j → j < k + r → f j ≤ c) : up f r k ≤ r * c := by
  rw [← up_const c r k]; exact up_le r k h
theorem up_split (f : Nat → Nat) : ∀ a b k, up f (a + b) k = up f a k + up f b (k + a) := by
  intro a
  induction a with
  | zero => intro b k; simp [up]
  | succ a ih =>
    intro b k
    rw [show a + 1 + b = (a + b) + 1 by omega]
    simp only [up, ih]
    rw [show k + (a + 1) = k + 1 + a by omega]; omega
theorem up_zero {f : Nat → Nat} (r k : Nat) (h : ∀ j, k ≤ j → j < k + r → f j = 0) : up f r k = 0 := by
  have := up_bound (f := f) (c := 0) r k (fun j h1 h2 => by rw [h j h1 h2]; exact Nat.le_refl _)
  omega
/-- a loop up to n, its terms beyond n nothing: as one up to 6 -/
theorem up_cut {f : Nat → Nat} {n : Nat} (hn : n ≤ 6) (h : ∀ j, n ≤ j → j < 6 → f j = 0) : up f n 0 = up f 6 0 := by
  have e := up_split f n (6 - n) 0
  rw [show n + (6 - n) = 6 by omega, up_zero (f := f) (6 - n) (0 + n) (fun j h1 h2 => h j (by omega) (by omega))] at e
  omega
theorem ba_split (f : Nat → Bool) : ∀ a b k, ba f (a + b) k = (ba f a k && ba f b (k + a)) := by
  intro a
  induction a with
  | zero => intro b k; simp [ba]
  | succ a ih =>
    intro b k
    rw [show a + 1 + b = (a + b) + 1 by omega]
    simp only [ba, ih]
    rw [show k + (a + 1) = k + 1 + a by omega, Bool.and_assoc]
theorem ba_cut {f : Nat → Bool} {n : Nat} (hn : n ≤ 6) (h : ∀ j, n ≤ j → j < 6 → f j = true) : ba f n 0 = ba f 6 0 := by
  have e := ba_split f n (6 - n) 0
  rw [show n + (6 - n) = 6 by omega, (ba_iff f (6 - n) (0 + n)).mpr (fun j h1 h2 => h j (by omega) (by omega)), Bool.and_true] at e
  exact e.symm
/-! bits -/
def tb (m k : Nat) : Bool := (m >>> k) % 2 == 1
theorem q_bit : ∀ m, m < 512 → ∀ k, k < 9 → ((nI m >>> (nI k &&& 31)) &&& 1 : Int32) = bI (tb m k) := by decide +kernel
theorem q_or : ∀ m, m < 64 → ∀ k, k < 6 → (nI m ||| (1 <<< (nI k &&& 31)) : Int32) = nI (m ||| 2 ^ k) := by decide +kernel
theorem q_orr : ∀ m, m < 64 → ∀ k, k < 64 → (nI m ||| nI k : Int32) = nI (m ||| k) := by decide +kernel
theorem q_ors : ∀ m, m < 512 → ∀ k, k < 9 → (nI m ||| (1 <<< (nI k &&& 31)) : Int32) = nI (m ||| 2 ^ k) := by decide +kernel
theorem q_sh1 : ∀ k, k < 6 → ((1 : Int32) <<< (nI k &&& 31)) = nI (2 ^ k) := by decide +kernel
theorem or_lt6 : ∀ m, m < 64 → ∀ k, k < 64 → m ||| k < 64 := fun m hm k hk => Nat.or_lt_two_pow (n := 6) hm hk
theorem tb_or (a b k : Nat) : tb (a ||| b) k = (tb a k || tb b k) := by
  have h : ∀ m : Nat, tb m k = m.testBit k := fun m => by
    simp [tb, Nat.testBit_eq_decide_div_mod_eq, Nat.shiftRight_eq_div_pow]
    rfl
  rw [h, h, h, Nat.testBit_or]
theorem tb_pow (i k : Nat) : tb (2 ^ i) k = (i == k) := by
  have h : ∀ m : Nat, tb m k = m.testBit k := fun m => by
    simp [tb, Nat.testBit_eq_decide_div_mod_eq, Nat.shiftRight_eq_div_pow]
    rfl
  rw [h, Nat.testBit_two_pow]; rfl
theorem tb_0 (k : Nat) : tb 0 k = false := by simp [tb]
