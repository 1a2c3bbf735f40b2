/-! layer 2: the class's plans -/
def fi (f : Nat → Bool) : Nat → Nat → Int32
  | 0, _ => -1
  | r + 1, k => if f k = true then nI k else fi f r (k + 1)
def mxh (V : PV) : Nat → Nat → Nat → Nat
  | 0, _, a => a
  | r + 1, k, a => mxh V r (k + 1) (if V k 0 = 1 then max a (V k 3 + V k 6) else a)
def mk6 (f : Nat → Bool) (e : Nat → Nat) : Nat → Nat → Nat → Nat
  | 0, _, m => m
  | r + 1, k, m => mk6 f e r (k + 1) (if f k = true then m ||| 2 ^ (e k) else m)
def volT (V : PV) (j : Nat) : Nat := if V j 0 = 1 then V j 4 * V j 5 * V j 6 else 0
def wtT (V : PV) (wt : Nat → Nat) (j : Nat) : Nat := if V j 0 = 1 then wt j else 0
def supT (V : PV) (i j : Nat) : Nat := if V j 0 = 1 ∧ so2 (V i) (V j) = true then ar2 (V i) (V j) else 0
def sup (V : PV) (i : Nat) : Nat := if V i 3 = 0 then V i 4 * V i 5 else up (supT V i) 6 0
def BX (σ : St) (p f : Nat) (B : Nat → Nat) : Prop := σ p f = nI (B 0) ∧ σ p (f + 1) = nI (B 1) ∧ σ p (f + 2) = nI (B 2) ∧ 1 ≤ B 0 ∧ B 0 ≤ 8 ∧ 1 ≤ B 1 ∧ B 1 ≤ 8 ∧ 1 ≤ B 2 ∧ B 2 ≤ 8
theorem c_takes (N b : Nat) {σ : St} {B : Nat → Nat} (hB : BX σ (2 + b) 0 B) {x y z : Nat} (hx : x < 100) (hy : y < 100) (hz : z < 100) : f_X1_takes N b (nI x) (nI y) (nI z) σ = some (bI (decide (x ≤ B 0 ∧ y ≤ B 1 ∧ z ≤ B 2)), σ) := by
  obtain ⟨b0, b1, b2, b3⟩ := hB
  unfold f_X1_takes
  rw [b0, b1, b2]
  simp (disch := omega) only [q_lt]
  by_cases h : x ≤ B 0 ∧ y ≤ B 1 ∧ z ≤ B 2
  · rw [if_neg (by omega), if_neg (by omega), if_neg (by omega), decide_eq_true h]; rfl
  · rw [decide_eq_false h]
    repeat (split; rfl)
    exact absurd (by omega) h
theorem fuel1 {r n : Nat} (h : r < n) : ∃ m, n = m + 1 ∧ r ≤ m := ⟨n - 1, by omega, by omega⟩
theorem c_size' (N b : Nat) {σ : St} {V : PV} (hV : CV σ b V) (hs : SZ V) : ∀ r k n a, k + r = 6 → r < n → lp_X1_size_4 N b n (nI a) (nI k) σ = some (nI (a + up (fun j => V j 0) r k), σ) := by
  intro r
  induction r with
  | zero =>
    intro k n a hk hn
    obtain ⟨n, rfl, -⟩ := fuel1 hn
    simp only [lp_X1_size_4, q6T (show 6 ≤ k by omega) (by omega), ↓reduceIte, up, Nat.add_zero]
  | succ r ih =>
    intro k n a hk hn
    obtain ⟨n, rfl, hn⟩ := fuel1 hn
    have hk6 : k < 6 := by omega
    have hs1 := (hs k hk6).1
    simp only [lp_X1_size_4, q6F hk6, qiT hk6, qix hk6, nI_1, ↓reduceIte, (hV k hk6).1, q_pl0 hs1, up]
    by_cases h : V k 0 = 0
    · rw [if_pos h, ih (k + 1) n a (by omega) (by omega), h, Nat.zero_add]
    · rw [if_neg h, ih (k + 1) n (a + 1) (by omega) (by omega), show V k 0 = 1 by omega, Nat.add_assoc]
theorem c_size (N b : Nat) (hN : 7 ≤ N) {σ : St} {V : PV} (hV : CV σ b V) (hs : SZ V) : f_X1_size N b σ = some (nI (up (fun j => V j 0) 6 0), σ) := by
  have := c_size' N b hV hs 6 0 N 0 rfl (by omega)
  rw [Nat.zero_add] at this; exact this
theorem c_vol' (N b : Nat) {σ : St} {V : PV} (hV : CV σ b V) (hs : SZ V) : ∀ r k n a, k + r = 6 → r < n → lp_X1_volume_4 N b n (nI a) (nI k) σ = some (nI (a + up (volT V) r k), σ) := by
  intro r
  induction r with
  | zero =>
    intro k n a hk hn
    obtain ⟨n, rfl, -⟩ := fuel1 hn
    simp only [lp_X1_volume_4, q6T (show 6 ≤ k by omega) (by omega), ↓reduceIte, up, Nat.add_zero]
  | succ r ih =>
    intro k n a hk hn
    obtain ⟨n, rfl, hn⟩ := fuel1 hn
    have hk6 : k < 6 := by omega
    simp only [lp_X1_volume_4, q6F hk6, qiT hk6, qix hk6, nI_1, ↓reduceIte, c_volume N (hV k hk6).1 (hs k hk6).1 (hV k hk6).2, bn_some, nI_add, up]
    rw [ih (k + 1) n _ (by omega) (by omega), Nat.add_assoc]; rfl
theorem c_vol (N b : Nat) (hN : 7 ≤ N) {σ : St} {V : PV} (hV : CV σ b V) (hs : SZ V) : f_X1_volume N b σ = some (nI (up (volT V) 6 0), σ) := by
  have := c_vol' N b hV hs 6 0 N 0 rfl (by omega)
  rw [Nat.zero_add] at this; exact this
/-- the weights that the spots keep -/
def CWt (σ : St) (b : Nat) (V : PV) (wt : Nat → Nat) : Prop := ∀ i, i < 6 → V i 0 = 1 → σ (13 + 6 * b + i) 8 = nI (wt i)
theorem c_weight' (N b : Nat) {σ : St} {V : PV} {wt : Nat → Nat} (hV : CV σ b V) (hs : SZ V) (hw : CWt σ b V wt) : ∀ r k n a, k + r = 6 → r < n → lp_X1_weight_4 N b n (nI a) (nI k) σ = some (nI (a + up (wtT V wt) r k), σ) := by
  intro r
  induction r with
  | zero =>
    intro k n a hk hn
    obtain ⟨n, rfl, -⟩ := fuel1 hn
    simp only [lp_X1_weight_4, q6T (show 6 ≤ k by omega) (by omega), ↓reduceIte, up, Nat.add_zero]
  | succ r ih =>
    intro k n a hk hn
    obtain ⟨n, rfl, hn⟩ := fuel1 hn
    have hk6 : k < 6 := by omega
    have hs1 := (hs k hk6).1
    simp only [lp_X1_weight_4, q6F hk6, qiT hk6, qix hk6, nI_1, ↓reduceIte, (hV k hk6).1, q_pl0 hs1, up]
    by_cases h : V k 0 = 0
    · rw [if_pos h, ih (k + 1) n a (by omega) (by omega), wtT, if_neg (by omega), Nat.zero_add]
    · rw [if_neg h, hw k hk6 (by omega), nI_add, ih (k + 1) n _ (by omega) (by omega), wtT, if_pos (by omega), Nat.add_assoc]
theorem c_weight (N b : Nat) (hN : 7 ≤ N) {σ : St} {V : PV} {wt : Nat → Nat} (hV : CV σ b V) (hs : SZ V) (hw : CWt σ b V wt) : f_X1_weight N b σ = some (nI (up (wtT V wt) 6 0), σ) := by
  have := c_weight' N b hV hs hw 6 0 N 0 rfl (by omega)
  rw [Nat.zero_add] at this; exact this
theorem c_end (N : Nat) {σ : St} {p : Nat} {a : Nat → Nat} (hp : SP σ p a) (x : Nat) (hx : x < 3) : f_X2_endAlong N p (nI x) σ = some (nI (a (1 + x) + a (4 + x)), σ) := by
  obtain ⟨p1, p2, p3, p4, p5, p6, p7⟩ := hp
  unfold f_X2_endAlong
  match x, hx with
  | 0, _ => rw [p1, p4, nI_add]; rfl
  | 1, _ => rw [p2, p5, nI_add]; rfl
  | 2, _ => rw [p3, p6, nI_add]; rfl
theorem c_top' (N b : Nat) {σ : St} {V : PV} (hV : CV σ b V) (hs : SZ V) : ∀ r k n a, k + r = 6 → r < n → a < 100 → lp_X1_top_4 N b n (nI a) (nI k) σ = some (nI (mxh V r k a), σ) := by
  intro r
  induction r with
  | zero =>
    intro k n a hk hn _
    obtain ⟨n, rfl, -⟩ := fuel1 hn
    simp only [lp_X1_top_4, q6T (show 6 ≤ k by omega) (by omega), ↓reduceIte, mxh]
  | succ r ih =>
    intro k n a hk hn ha
    obtain ⟨n, rfl, hn⟩ := fuel1 hn
    have hk6 : k < 6 := by omega
    have hs1 := hs k hk6
    simp only [lp_X1_top_4, q6F hk6, qiT hk6, qix hk6, nI_1, ↓reduceIte, (hV k hk6).1, q_pl0 hs1.1, mxh]
    by_cases h : V k 0 = 0
    · rw [if_pos h, ih (k + 1) n a (by omega) (by omega) ha, if_neg (by omega)]
    · have h1 : V k 0 = 1 := by omega
      have hz := hs1.2 h1
      unfold sz1 at hz
      have e : f_X2_endAlong N (13 + 6 * b + k) 2 σ = some (nI (V k 3 + V k 6), σ) := c_end N ((hV k hk6).2 h1) 2 (by decide)
      rw [if_neg h, e, bn_some, q_max (by omega) (by omega), ih (k + 1) n _ (by omega) (by omega) (by omega), if_pos h1]
theorem c_top (N b : Nat) (hN : 7 ≤ N) {σ : St} {V : PV} (hV : CV σ b V) (hs : SZ V) : f_X1_top N b σ = some (nI (mxh V 6 0 0), σ) := c_top' N b hV hs 6 0 N 0 rfl (by omega) (by omega)
def pIn (V : PV) (x y z j : Nat) : Bool := V j 0 == 1 && cov (V j) x y z
theorem c_pieceIn' (N b : Nat) {σ : St} {V : PV} (hV : CV σ b V) (hs : SZ V) {x y z : Nat} (hx : x < 8) (hy : y < 8) (hz : z < 8) (c1 c2 c3 : Int32) : ∀ r k n, k + r = 6 → r < n → lp_X1_pieceIn_3 N b c1 c2 c3 n (nI x) (nI y) (nI z) (nI k) σ = some (fi (pIn V x y z) r k, σ) := by
  intro r
  induction r with
  | zero =>
    intro k n hk hn
    obtain ⟨n, rfl, -⟩ := fuel1 hn
    simp only [lp_X1_pieceIn_3, q6T (show 6 ≤ k by omega) (by omega), ↓reduceIte, fi]
  | succ r ih =>
    intro k n hk hn
    obtain ⟨n, rfl, hn⟩ := fuel1 hn
    have hk6 : k < 6 := by omega
    have hs1 := hs k hk6
    simp only [lp_X1_pieceIn_3, q6F hk6, qiT hk6, qix hk6, nI_1, ↓reduceIte, (hV k hk6).1, q_pl0 hs1.1, fi]
    by_cases h : V k 0 = 0
    · rw [if_pos h, ih (k + 1) n (by omega) (by omega), if_neg (by simp [pIn, h])]
    · have h1 : V k 0 = 1 := by omega
      rw [if_neg h, c_covers N ((hV k hk6).2 h1) (hs1.2 h1) hx hy hz, bn_some]
      simp only [bI_0]
      by_cases hc : cov (V k) x y z = false
      · rw [if_pos hc, ih (k + 1) n (by omega) (by omega), if_neg (by simp [pIn, hc])]
      · rw [if_neg hc, if_pos (by simpa [pIn, h1] using hc)]
theorem c_pieceIn (N b : Nat) (hN : 7 ≤ N) {σ : St} {V : PV} (hV : CV σ b V) (hs : SZ V) {x y z : Nat} (hx : x < 8) (hy : y < 8) (hz : z < 8) : f_X1_pieceIn N b (nI x) (nI y) (nI z) σ = some (fi (pIn V x y z) 6 0, σ) := c_pieceIn' N b hV hs hx hy hz _ _ _ 6 0 N rfl (by omega)
theorem c_ends' (N b : Nat) {σ : St} {V : PV} (hV : CV σ b V) (hs : SZ V) {x : Nat} (hx : x < 3) (he : ∀ i, i < 6 → V i 0 = 1 → V i (1 + x) + V i (4 + x) < 9) (c : Int32) : ∀ r k n m, k + r = 6 → r < n → m < 512 → lp_X1_ends_4 N b c n (nI x) (nI m) (nI k) σ = some (nI (mk6 (fun j => V j 0 == 1) (fun j => V j (1 + x) + V j (4 + x)) r k m), σ) := by
  intro r
  induction r with
  | zero =>
    intro k n m hk hn _
    obtain ⟨n, rfl, -⟩ := fuel1 hn
    simp only [lp_X1_ends_4, q6T (show 6 ≤ k by omega) (by omega), ↓reduceIte, mk6]
  | succ r ih =>
    intro k n m hk hn hm
    obtain ⟨n, rfl, hn⟩ := fuel1 hn
    have hk6 : k < 6 := by omega
    have hs1 := hs k hk6
    simp only [lp_X1_ends_4, q6F hk6, qiT hk6, qix hk6, nI_1, ↓reduceIte, (hV k hk6).1, q_pl0 hs1.1, mk6]
    by_cases h : V k 0 = 0
    · rw [if_pos h, ih (k + 1) n m (by omega) (by omega) hm, if_neg (by simp [h])]
    · have h1 : V k 0 = 1 := by omega
      have he1 := he k hk6 h1
      rw [if_neg h, c_end N ((hV k hk6).2 h1) x hx, bn_some, q_ors m hm _ he1, ih (k + 1) n _ (by omega) (by omega) (Nat.or_lt_two_pow (n := 9) hm (Nat.pow_lt_pow_right (by decide) he1)), if_pos (by simp [h1])]
def eM (V : PV) (x : Nat) : Nat := mk6 (fun j => V j 0 == 1) (fun j => V j (1 + x) + V j (4 + x)) 6 0 1
theorem c_ends (N b : Nat) (hN : 7 ≤ N) {σ : St} {V : PV} (hV : CV σ b V) (hs : SZ V) {x : Nat} (hx : x < 3) (he : ∀ i, i < 6 → V i 0 = 1 → V i (1 + x) + V i (4 + x) < 9) : f_X1_ends N b (nI x) σ = some (nI (eM V x), σ) := c_ends' N b hV hs hx he _ 6 0 N 1 rfl (by omega) (by omega)
theorem tb_mk6 (f : Nat → Bool) (e : Nat → Nat) (j : Nat) : ∀ r k m, tb (mk6 f e r k m) j = true ↔ tb m j = true ∨ ∃ i, k ≤ i ∧ i < k + r ∧ f i = true ∧ e i = j := by
  intro r
  induction r with
  | zero => intro k m; simp only [mk6]; constructor
            · exact Or.inl
            · rintro (h | ⟨i, h1, h2, -⟩)
              · exact h
              · omega
  | succ r ih =>
    intro k m
    simp only [mk6, ih]
    constructor
    · rintro (h | ⟨i, h1, h2, h3⟩)
      · by_cases hf : f k = true
        · rw [if_pos hf, tb_or, tb_pow, Bool.or_eq_true, beq_iff_eq] at h
          exact h.elim Or.inl fun h => Or.inr ⟨k, by omega, by omega, hf, h⟩
        · rw [if_neg hf] at h; exact Or.inl h
      · exact Or.inr ⟨i, by omega, by omega, h3⟩
    · rintro (h | ⟨i, h1, h2, h3⟩)
      · refine Or.inl ?_
        split
        · rw [tb_or, h]; rfl
        · exact h
      · by_cases e1 : i = k
        · subst e1
          refine Or.inl ?_
          rw [if_pos h3.1, tb_or, tb_pow, h3.2]; simp
        · exact Or.inr ⟨i, by omega, by omega, h3⟩
theorem mk6_lt {f : Nat → Bool} {e : Nat → Nat} {w : Nat} : ∀ r k m, m < 2 ^ w → (∀ i, k ≤ i → i < k + r → f i = true → e i < w) → mk6 f e r k m < 2 ^ w := by
  intro r
  induction r with
  | zero => intro k m h _; exact h
  | succ r ih =>
    intro k m h he
    simp only [mk6]
    refine ih _ _ ?_ (fun i h1 h2 => he i (by omega) (by omega))
    split
    · rename_i hf
      exact Nat.or_lt_two_pow h (Nat.pow_lt_pow_right (by decide) (he k (by omega) (by omega) hf))
    · exact h
theorem c_sup' (N b : Nat) {σ : St} {V : PV} (hV : CV σ b V) (hs : SZ V) {i : Nat} (hi : i < 6) (hp : V i 0 = 1) : ∀ r k n a, k + r = 6 → r < n → lp_X1_supportOf_16 N b (13 + 6 * b + i) n (nI a) (nI k) σ = some (nI (a + up (supT V i) r k), σ) := by
  intro r
  induction r with
  | zero =>
    intro k n a hk hn
    obtain ⟨n, rfl, -⟩ := fuel1 hn
    simp only [lp_X1_supportOf_16, q6T (show 6 ≤ k by omega) (by omega), ↓reduceIte, up, Nat.add_zero]
  | succ r ih =>
    intro k n a hk hn
    obtain ⟨n, rfl, hn⟩ := fuel1 hn
    have hk6 : k < 6 := by omega
    have hs1 := hs k hk6
    simp only [lp_X1_supportOf_16, q6F hk6, qiT hk6, qix hk6, nI_1, ↓reduceIte, (hV k hk6).1, q_pl0 hs1.1, up]
    by_cases h : V k 0 = 0
    · rw [if_pos h, ih (k + 1) n a (by omega) (by omega), supT, if_neg (by omega), Nat.zero_add]
    · have h1 : V k 0 = 1 := by omega
      rw [if_neg h, c_standsOn N ((hV i hi).2 hp) ((hV k hk6).2 h1) ((hs i hi).2 hp) (hs1.2 h1), bn_some]
      simp only [bI_0]
      by_cases hc : so2 (V i) (V k) = false
      · rw [if_pos hc, ih (k + 1) n a (by omega) (by omega), supT, if_neg (by simp [hc]), Nat.zero_add]
      · have hc' : so2 (V i) (V k) = true := by simpa using hc
        have har : 0 < ar2 (V i) (V k) := by
          have := hc'
          unfold so2 at this
          exact of_decide_eq_true (Bool.and_eq_true _ _ ▸ this).2
        rw [if_neg hc, c_commonArea N ((hV i hi).2 hp) ((hV k hk6).2 h1) ((hs i hi).2 hp) (hs1.2 h1) har, bn_some, nI_add, ih (k + 1) n _ (by omega) (by omega), supT, if_pos ⟨h1, hc'⟩, Nat.add_assoc]
theorem c_sup (N b : Nat) (hN : 7 ≤ N) {σ : St} {V : PV} (hV : CV σ b V) (hs : SZ V) {i : Nat} (hi : i < 6) (hp : V i 0 = 1) : f_X1_supportOf N b (13 + 6 * b + i) σ = some (nI (sup V i), σ) := by
  unfold f_X1_supportOf
  have hz := (hs i hi).2 hp
  unfold sz1 at hz
  rw [((hV i hi).2 hp).2.2.1, c_area N (hV i hi).1 (hs i hi).1 (hV i hi).2, bn_some]
  have := c_sup' N b hV hs hi hp 6 0 N 0 rfl (by omega)
  rw [Nat.zero_add] at this
  rw [show (0 : Int32) = nI 0 from rfl, this]
  simp (disch := omega) only [q_eq, sup]
  by_cases h : V i 3 = 0
  · rw [if_pos h, if_pos h, if_pos hp]
  · rw [if_neg h, if_neg h]
def roomT (V : PV) (i j : Nat) : Bool := decide (V j 0 = 1 → j = i ∨ ¬ (0 < ar2 (V j) (V i) ∧ 0 < cm (V j 3) (V j 6) (V i 3) (V i 6)))
theorem c_room' (N b : Nat) {σ : St} {V : PV} (hV : CV σ b V) (hs : SZ V) {i : Nat} (hi : i < 6) (hp : V i 0 = 1) : ∀ r k n, k + r = 6 → r < n → lp_X1_hasRoomFor_2 N b (13 + 6 * b + i) n (nI k) σ = some (bI (ba (roomT V i) r k), σ) := by
  intro r
  induction r with
  | zero =>
    intro k n hk hn
    obtain ⟨n, rfl, -⟩ := fuel1 hn
    simp only [lp_X1_hasRoomFor_2, q6T (show 6 ≤ k by omega) (by omega), ↓reduceIte, ba]; rfl
  | succ r ih =>
    intro k n hk hn
    obtain ⟨n, rfl, hn⟩ := fuel1 hn
    have hk6 : k < 6 := by omega
    have hs1 := hs k hk6
    simp only [lp_X1_hasRoomFor_2, q6F hk6, qiT hk6, qix hk6, nI_1, ↓reduceIte, (hV k hk6).1, q_pl0 hs1.1, ba]
    by_cases h : V k 0 = 0
    · rw [if_pos h, ih (k + 1) n (by omega) (by omega), roomT, decide_eq_true (fun e => by omega), Bool.true_and]
    · have h1 : V k 0 = 1 := by omega
      rw [if_neg h]
      by_cases e : 13 + 6 * b + k = 13 + 6 * b + i
      · rw [if_pos e, ih (k + 1) n (by omega) (by omega), roomT, decide_eq_true (fun _ => Or.inl (by omega)), Bool.true_and]
      · rw [if_neg e, c_meets N ((hV k hk6).2 h1) ((hV i hi).2 hp) (hs1.2 h1) ((hs i hi).2 hp), bn_some]
        simp only [bI_0, decide_eq_false_iff_not]
        by_cases hc : ¬ (0 < ar2 (V k) (V i) ∧ 0 < cm (V k 3) (V k 6) (V i 3) (V i 6))
        · rw [if_pos hc, ih (k + 1) n (by omega) (by omega), roomT, decide_eq_true (fun _ => Or.inr hc), Bool.true_and]
        · rw [if_neg hc, roomT, decide_eq_false (fun H => (H h1).elim (fun e2 => e (by omega)) hc), Bool.false_and]; rfl
theorem c_room (N b : Nat) (hN : 7 ≤ N) {σ : St} {V : PV} (hV : CV σ b V) (hs : SZ V) {i : Nat} (hi : i < 6) (hp : V i 0 = 1) : f_X1_hasRoomFor N b (13 + 6 * b + i) σ = some (bI (ba (roomT V i) 6 0), σ) := c_room' N b hV hs hi hp 6 0 N rfl (by omega)
