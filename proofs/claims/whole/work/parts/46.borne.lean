/-! layer 2: what a piece bears, by the reference -/
def be (f : Nat → Bool) : Nat → Nat → Bool
  | 0, _ => false
  | r + 1, k => f k || be f r (k + 1)
theorem be_iff (f : Nat → Bool) : ∀ r k, be f r k = true ↔ ∃ j, k ≤ j ∧ j < k + r ∧ f j = true := by
  intro r
  induction r with
  | zero => intro k; simp only [be]; constructor
            · intro h; cases h
            · intro ⟨j, h1, h2, _⟩; omega
  | succ r ih =>
    intro k
    simp only [be, Bool.or_eq_true, ih]
    constructor
    · rintro (h | ⟨j, h1, h2, h3⟩)
      · exact ⟨k, by omega, by omega, h⟩
      · exact ⟨j, by omega, by omega, h3⟩
    · intro ⟨j, h1, h2, h3⟩
      by_cases e : j = k
      · exact Or.inl (e ▸ h3)
      · exact Or.inr ⟨j, by omega, by omega, h3⟩
theorem q_bit0 {m k : Nat} (hm : m < 512) (hk : k < 9) : (((nI m >>> (nI k &&& 31)) &&& 1 : Int32) = 0) = (tb m k = false) := by rw [q_bit m hm k hk, bI_0]
theorem q_bit1 {m k : Nat} (hm : m < 512) (hk : k < 9) : (((nI m >>> (nI k &&& 31)) &&& 1 : Int32) = 1) = (tb m k = true) := by rw [q_bit m hm k hk, bI_1]
theorem r_b27 (N : Nat) {τ : St} {V : PV} {n : Nat} (hn6 : RN τ n) (h : RV τ V) (hs : SZ V) (c p : Int32) (k6 : Int32 → Int32 → Int32 → St → Option (Int32 × St)) (k15 : Int32 → Int32 → Int32 → Int32 → St → Option (Int32 × St)) {o : Nat} (ho : o < 6) :
    ∀ r k f m mo, m < 64 → k + r = n → r < f → lp_X4_borne_27 N c k6 k15 f p (nI m) mo (nI o) (nI k) τ = (if tb m o = false ∧ be (fun k => tb m k && so V o k) r k = true then k15 p (nI (m ||| 2 ^ o)) 1 (nI (o + 1)) τ else k15 p (nI m) mo (nI (o + 1)) τ) := by
  intro r
  induction r with
  | zero =>
    intro k f m mo hm hk hf
    obtain ⟨f, rfl, -⟩ := fuel1 hf
    have := hn6.2
    simp only [lp_X4_borne_27, qnT hn6 (show n ≤ k by omega) (by omega), ↓reduceIte, be, nI_1, Bool.false_eq_true, and_false]
  | succ r ih =>
    intro k f m mo hm hk hf
    obtain ⟨f, rfl, hf⟩ := fuel1 hf
    have hk6 : k < 6 := by have := hn6.2; omega
    simp only [lp_X4_borne_27, qnF hn6 (show k < n by omega), nI_1, ↓reduceIte, r_standsOn N h hs ho hk6, bn_some, bI_0, q_bit0 (show m < 512 by omega) (show o < 9 by omega), q_bit1 (show m < 512 by omega) (show k < 9 by omega)]
    have hb : be (fun k => tb m k && so V o k) (r + 1) k = ((tb m k && so V o k) || be (fun k => tb m k && so V o k) r (k + 1)) := rfl
    by_cases h1 : tb m o = false
    · rw [if_pos h1]
      by_cases h2 : tb m k = true
      · rw [if_pos h2]
        by_cases h3 : so V o k = false
        · rw [if_pos h3, ih (k + 1) f m mo hm (by omega) (by omega)]
          have : be (fun k => tb m k && so V o k) (r + 1) k = be (fun k => tb m k && so V o k) r (k + 1) := by rw [hb, h3]; simp
          simp only [this]
        · have h3' := Bool.of_not_eq_false h3
          have hm' : m ||| 2 ^ o < 64 := Nat.or_lt_two_pow (n := 6) hm (Nat.pow_lt_pow_right (by decide) ho)
          rw [if_neg h3, q_or m hm o ho, ih (k + 1) f _ 1 hm' (by omega) (by omega), if_neg (by rw [tb_or, tb_pow]; simp), if_pos ⟨h1, by rw [hb, h2, h3']; rfl⟩]
      · rw [if_neg h2, ih (k + 1) f m mo hm (by omega) (by omega)]
        have : be (fun k => tb m k && so V o k) (r + 1) k = be (fun k => tb m k && so V o k) r (k + 1) := by rw [hb, Bool.eq_false_iff.mpr h2]; simp
        simp only [this]
    · rw [if_neg h1, ih (k + 1) f m mo hm (by omega) (by omega), if_neg (fun h => h1 h.1), if_neg (fun h => h1 h.1)]
theorem r_b15 (N : Nat) (hN : 7 ≤ N) {τ : St} {V : PV} {n : Nat} (hn6 : RN τ n) (h : RV τ V) (hs : SZ V) (c p : Int32) (k6 : Int32 → Int32 → Int32 → St → Option (Int32 × St)) :
    ∀ r o f m mo, m < 64 → o + r = n → r < f → ∃ m' mo', lp_X4_borne_15 N c k6 f p (nI m) mo (nI o) τ = k6 p (nI m') mo' τ ∧ m' < 64 ∧ (∀ j, tb m j = true → tb m' j = true) ∧
      (∀ C : Nat → Prop, (∀ l j, l < 6 → j < 6 → C l → so V j l = true → C j) → (∀ j, tb m j = true → C j) → ∀ j, tb m' j = true → C j) ∧
      ((mo' = mo ∧ m' = m ∧ ∀ o' k, o ≤ o' → o' < n → k < n → tb m k = true → so V o' k = true → tb m o' = true) ∨ (mo' = 1 ∧ m' ≠ m)) := by
  intro r
  induction r with
  | zero =>
    intro o f m mo hm ho hf
    obtain ⟨f, rfl, -⟩ := fuel1 hf
    have := hn6.2
    refine ⟨m, mo, ?_, hm, fun _ h => h, fun _ _ h => h, Or.inl ⟨rfl, rfl, fun o' k h1 h2 => by omega⟩⟩
    simp only [lp_X4_borne_15, qnT hn6 (show n ≤ o by omega) (by omega), ↓reduceIte]
  | succ r ih =>
    intro o f m mo hm ho hf
    obtain ⟨f, rfl, hf⟩ := fuel1 hf
    have ho6 : o < 6 := by have := hn6.2; omega
    have e27 := r_b27 N hn6 h hs c p k6 (fun w1 w2 w3 w4 σ => lp_X4_borne_15 N c k6 f w1 w2 w3 w4 σ) ho6 n 0 N m mo hm (by omega) (by have := hn6.2; omega)
    have e : lp_X4_borne_15 N c k6 (f + 1) p (nI m) mo (nI o) τ = lp_X4_borne_27 N c k6 (fun w1 w2 w3 w4 σ => lp_X4_borne_15 N c k6 f w1 w2 w3 w4 σ) N p (nI m) mo (nI o) (nI 0) τ := by
      simp only [lp_X4_borne_15, qnF hn6 (show o < n by omega), ↓reduceIte]; rfl
    rw [e, e27]
    by_cases hc : tb m o = false ∧ be (fun k => tb m k && so V o k) n 0 = true
    · rw [if_pos hc]
      have hm' : m ||| 2 ^ o < 64 := Nat.or_lt_two_pow (n := 6) hm (Nat.pow_lt_pow_right (by decide) ho6)
      obtain ⟨m', mo', g1, g2, g3, g4, g5⟩ := ih (o + 1) f (m ||| 2 ^ o) 1 hm' (by omega) (by omega)
      have hin : tb (m ||| 2 ^ o) o = true := by rw [tb_or, tb_pow]; simp
      refine ⟨m', mo', g1, g2, fun j hj => g3 j (by rw [tb_or, hj]; rfl), fun C hC hmC => g4 C hC ?_, Or.inr ⟨?_, ?_⟩⟩
      · intro j hj
        rw [tb_or, tb_pow, Bool.or_eq_true, beq_iff_eq] at hj
        rcases hj with hj | rfl
        · exact hmC j hj
        · obtain ⟨k, -, hk2, hk3⟩ := (be_iff _ n 0).mp hc.2
          rw [Bool.and_eq_true] at hk3
          exact hC k o (by have := hn6.2; omega) ho6 (hmC k hk3.1) hk3.2
      · exact g5.elim (fun g => g.1) (fun g => g.1)
      · intro e
        have := g3 o hin
        rw [e, hc.1] at this; cases this
    · rw [if_neg hc]
      obtain ⟨m', mo', g1, g2, g3, g4, g5⟩ := ih (o + 1) f m mo hm (by omega) (by omega)
      refine ⟨m', mo', g1, g2, g3, g4, g5.elim (fun ⟨a1, a2, a3⟩ => Or.inl ⟨a1, a2, fun o' k h1 h2 h3 h4 h5 => ?_⟩) Or.inr⟩
      by_cases e : o' = o
      · subst e
        refine Bool.of_not_eq_false fun hf => hc ⟨hf, (be_iff _ n 0).mpr ⟨k, by omega, by omega, by rw [h4, h5]; rfl⟩⟩
      · exact a3 o' k (by omega) h2 h3 h4 h5
def RW (τ : St) (n : Nat) (wt : Nat → Nat) : Prop := ∀ i, i < n → τ 27 i = nI (wt i)
theorem r_b96 (N : Nat) {τ : St} {n : Nat} (hn6 : RN τ n) {wt : Nat → Nat} (hw : RW τ n wt) (c v3 : Int32) {m p : Nat} (hm : m < 64) (hp : p < 6) : ∀ r k f a, k + r = n → r < f → lp_X4_borne_96 N c f (nI p) (nI m) v3 (nI a) (nI k) τ = some (nI (a + up (fun j => if j ≠ p ∧ tb m j = true then wt j else 0) r k), τ) := by
  intro r
  induction r with
  | zero =>
    intro k f a hk hf
    obtain ⟨f, rfl, -⟩ := fuel1 hf
    have := hn6.2
    simp only [lp_X4_borne_96, qnT hn6 (show n ≤ k by omega) (by omega), ↓reduceIte, up, Nat.add_zero]
  | succ r ih =>
    intro k f a hk hf
    obtain ⟨f, rfl, hf⟩ := fuel1 hf
    have hk6 : k < 6 := by have := hn6.2; omega
    simp (disch := omega) only [lp_X4_borne_96, qnF hn6 (show k < n by omega), qiT hk6, qix hk6, nI_1, ↓reduceIte, q_bit1, q_eq, up, Int32.add_zero]
    by_cases h1 : k = p
    · rw [if_pos h1, ih (k + 1) f a (by omega) (by omega), if_neg (by omega), Nat.zero_add]
    · rw [if_neg h1]
      by_cases h2 : tb m k = true
      · rw [if_pos h2, hw k (by omega), nI_add, ih (k + 1) f _ (by omega) (by omega), if_pos ⟨h1, h2⟩, Nat.add_assoc]
      · rw [if_neg h2, ih (k + 1) f a (by omega) (by omega), if_neg (fun h => h2 h.2), Nat.zero_add]
theorem rch_z {V : PV} (hs : SZ V) {p k : Nat} (hp6 : p < 6) (h : Rch V p k) : V p 3 < V k 3 := by
  have key : ∀ j l, l < 6 → so V j l = true → V l 3 < V j 3 := fun j l hl hso => by
    simp [so, so2] at hso
    have := (hs l hl).2 hso.2.1
    unfold sz1 at this
    omega
  exact h (fun j => V p 3 < V j 3) (fun j _ hso => key j p hp6 hso) (fun l j hl _ hc hso => Nat.lt_trans hc (key j l hl hso))
theorem r_b6 (N : Nat) (hN : 7 ≤ N) {τ : St} {V : PV} {n : Nat} (hn6 : RN τ n) (h : RV τ V) (hs : SZ V) (hnp : NP n V) {wt : Nat → Nat} (hw : RW τ n wt) (c : Int32) {p : Nat} (hp : p < 6) (hpl : V p 0 = 1) :
    ∀ e m f, m < 64 → 6 ≤ cnt m + e → e + 1 < f → tb m p = true → (∀ j, tb m j = true → j = p ∨ Rch V p j) → lp_X4_borne_6 N c f (nI p) (nI m) 1 τ = some (nI (brn V wt p), τ) := by
  have hn := hn6.2
  intro e
  induction e with
  | zero =>
    intro m f hm hc hf hin hle
    obtain ⟨f, rfl, hf⟩ := fuel1 hf
    obtain ⟨m', mo', g1, g2, g3, g4, g5⟩ := r_b15 N hN hn6 h hs c (nI p) (fun w1 w2 w3 σ => lp_X4_borne_6 N c f w1 w2 w3 σ) n 0 N m 0 hm (by omega) (by omega)
    have e1 : lp_X4_borne_6 N c (f + 1) (nI p) (nI m) 1 τ = lp_X4_borne_6 N c f (nI p) (nI m') mo' τ := by
      rw [← g1]; simp only [lp_X4_borne_6]; rw [if_neg (by decide)]; rfl
    rw [e1]
    rcases g5 with ⟨rfl, rfl, g6⟩ | ⟨rfl, g6⟩
    · obtain ⟨f, rfl, -⟩ := fuel1 (show 0 < f by omega)
      have := r_b96 N hn6 hw c 0 hm hp n 0 N 0 (by omega) (by omega)
      simp only [lp_X4_borne_6, ↓reduceIte]
      refine this.trans ?_
      congr 3
      rw [Nat.zero_add]
      unfold brn
      have key : ∀ j, j < n → ((if j ≠ p ∧ tb m' j = true then wt j else 0) = (if rB V p j = true then wt j else 0)) := fun j hj => by
        have : (j ≠ p ∧ tb m' j = true) ↔ rB V p j = true := by
          rw [rB_iff]
          constructor
          · intro ⟨a, b⟩; exact (hle j b).resolve_left a
          · intro hR
            refine ⟨fun e => ?_, ?_⟩
            · have := rch_z hs hp hR; rw [e] at this; omega
            · exact (hR (fun j => tb m' j = true) (fun x _ hx => g6 x p (by omega) (by refine Nat.lt_of_not_le fun hh => ?_; have := hnp x hh; simp [so, this] at hx) (by refine Nat.lt_of_not_le fun hh => ?_; have := hnp p hh; omega) hin hx)
                (fun l x _ _ hl hx => g6 x l (by omega) (by refine Nat.lt_of_not_le fun hh => ?_; have := hnp x hh; simp [so, this] at hx) (by refine Nat.lt_of_not_le fun hh => ?_; have := hnp l hh; simp [so, this] at hx) hl hx))
        by_cases h1 : rB V p j = true
        · rw [if_pos h1, if_pos (this.mpr h1)]
        · rw [if_neg h1, if_neg (fun h2 => h1 (this.mp h2))]
      rw [up_congr n 0 (fun j _ h2 => key j (by omega))]
      exact up_cut hn (fun j h1 _ => by
        rw [if_neg]
        intro hr
        have := rch_placed ((rB_iff V p j).mp hr)
        rw [hnp j h1] at this; cases this)
    · have := cnt_lt m hm m' g2 (fun j _ hj => g3 j hj) (fun e => g6 e.symm)
      have := cnt_le m' g2
      omega
  | succ e ih =>
    intro m f hm hc hf hin hle
    obtain ⟨f, rfl, hf⟩ := fuel1 hf
    obtain ⟨m', mo', g1, g2, g3, g4, g5⟩ := r_b15 N hN hn6 h hs c (nI p) (fun w1 w2 w3 σ => lp_X4_borne_6 N c f w1 w2 w3 σ) n 0 N m 0 hm (by omega) (by omega)
    have e1 : lp_X4_borne_6 N c (f + 1) (nI p) (nI m) 1 τ = lp_X4_borne_6 N c f (nI p) (nI m') mo' τ := by
      rw [← g1]; simp only [lp_X4_borne_6]; rw [if_neg (by decide)]; rfl
    rw [e1]
    rcases g5 with ⟨rfl, rfl, g6⟩ | ⟨rfl, g6⟩
    · obtain ⟨f, rfl, -⟩ := fuel1 (show 0 < f by omega)
      have := r_b96 N hn6 hw c 0 hm hp n 0 N 0 (by omega) (by omega)
      simp only [lp_X4_borne_6, ↓reduceIte]
      refine this.trans ?_
      congr 3
      rw [Nat.zero_add]
      unfold brn
      have key : ∀ j, j < n → ((if j ≠ p ∧ tb m' j = true then wt j else 0) = (if rB V p j = true then wt j else 0)) := fun j hj => by
        have : (j ≠ p ∧ tb m' j = true) ↔ rB V p j = true := by
          rw [rB_iff]
          constructor
          · intro ⟨a, b⟩; exact (hle j b).resolve_left a
          · intro hR
            refine ⟨fun e => ?_, ?_⟩
            · have := rch_z hs hp hR; rw [e] at this; omega
            · exact (hR (fun j => tb m' j = true) (fun x _ hx => g6 x p (by omega) (by refine Nat.lt_of_not_le fun hh => ?_; have := hnp x hh; simp [so, this] at hx) (by refine Nat.lt_of_not_le fun hh => ?_; have := hnp p hh; omega) hin hx)
                (fun l x _ _ hl hx => g6 x l (by omega) (by refine Nat.lt_of_not_le fun hh => ?_; have := hnp x hh; simp [so, this] at hx) (by refine Nat.lt_of_not_le fun hh => ?_; have := hnp l hh; simp [so, this] at hx) hl hx))
        by_cases h1 : rB V p j = true
        · rw [if_pos h1, if_pos (this.mpr h1)]
        · rw [if_neg h1, if_neg (fun h2 => h1 (this.mp h2))]
      rw [up_congr n 0 (fun j _ h2 => key j (by omega))]
      exact up_cut hn (fun j h1 _ => by
        rw [if_neg]
        intro hr
        have := rch_placed ((rB_iff V p j).mp hr)
        rw [hnp j h1] at this; cases this)
    · have := cnt_lt m hm m' g2 (fun j _ hj => g3 j hj) (fun e => g6 e.symm)
      exact ih m' f g2 (by omega) (by omega) (g3 p hin) (g4 (fun j => j = p ∨ Rch V p j) (fun l j hl hj hcl hso => Or.inr (by
        rcases hcl with rfl | hcl
        · exact fun C h1 h2 => h1 j hj hso
        · exact fun C h1 h2 => h2 l j hl hj (hcl C h1 h2) hso)) hle)
theorem r_borne (N : Nat) (hN : 9 ≤ N) {τ : St} {V : PV} {n : Nat} (hn6 : RN τ n) (h : RV τ V) (hs : SZ V) (hnp : NP n V) {wt : Nat → Nat} (hw : RW τ n wt) {p : Nat} (hp : p < 6) (hpl : V p 0 = 1) : f_X4_borne N (nI p) τ = some (nI (brn V wt p), τ) := by
  unfold f_X4_borne
  rw [q_sh1 p hp]
  have h64 : 2 ^ p < 64 := Nat.pow_lt_pow_right (a := 2) (by decide) hp
  exact r_b6 N (by omega) hn6 h hs hnp hw _ hp hpl 6 (2 ^ p) N h64 (by omega) (by omega) (by rw [tb_pow]; simp) (fun j hj => by rw [tb_pow, beq_iff_eq] at hj; exact Or.inl hj.symm)
