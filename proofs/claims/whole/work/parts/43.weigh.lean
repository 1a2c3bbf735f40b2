/-! layer 2: who stands on whom; weights -/
def X10 (b : Nat) (σ σ' : St) : Prop := ∀ p f, ¬ (f = 10 ∧ 13 + 6 * b ≤ p ∧ p < 19 + 6 * b) → σ' p f = σ p f
theorem X10.rf (b : Nat) (σ : St) : X10 b σ σ := fun _ _ _ => rfl
theorem X10.tr {b : Nat} {σ τ υ : St} (h : X10 b σ τ) (k : X10 b τ υ) : X10 b σ υ := fun p f hp => (k p f hp).trans (h p f hp)
theorem SP.of {σ τ : St} {p : Nat} {a : Nat → Nat} (h : SP σ p a) (e : ∀ f, 1 ≤ f → f ≤ 7 → τ p f = σ p f) : SP τ p a := by
  obtain ⟨p1, p2, p3, p4, p5, p6, p7⟩ := h
  exact ⟨(e 1 (by decide) (by decide)).trans p1, (e 2 (by decide) (by decide)).trans p2, (e 3 (by decide) (by decide)).trans p3, (e 4 (by decide) (by decide)).trans p4, (e 5 (by decide) (by decide)).trans p5, (e 6 (by decide) (by decide)).trans p6, (e 7 (by decide) (by decide)).trans p7⟩
theorem CV.x10 {b c : Nat} {σ τ : St} {V : PV} (h : CV σ c V) (k : X10 b σ τ) : CV τ c V := fun i hi => ⟨(k _ _ (by omega)).trans (h i hi).1, fun hp => ((h i hi).2 hp).of fun f _ h2 => k _ _ (by omega)⟩
/-- the set of those that stand on k -/
def sm (V : PV) (k : Nat) : Nat := mk6 (fun j => so V j k) (fun j => j) 6 0 0
theorem sm_lt (V : PV) (k : Nat) : sm V k < 64 := mk6_lt (w := 6) 6 0 0 (by decide) (fun i _ h _ => by omega)
theorem tb_sm (V : PV) (k j : Nat) (hj : j < 6) : tb (sm V k) j = so V j k := by
  have := tb_mk6 (fun j => so V j k) (fun j => j) j 6 0 0
  rw [tb_0] at this
  cases h : so V j k
  · cases h2 : tb (sm V k) j
    · rfl
    · obtain h3 | ⟨i, -, -, h4, h5⟩ := this.mp h2
      · cases h3
      · rw [h5] at h4; rw [h] at h4; cases h4
  · exact this.mpr (Or.inr ⟨j, by omega, by omega, h, rfl⟩)
theorem so_unp {V : PV} {k : Nat} (h : V k 0 ≠ 1) (j : Nat) : so V j k = false := by simp [so, h]
theorem so_unp' {V : PV} {k : Nat} (h : V k 0 ≠ 1) (j : Nat) : so V k j = false := by simp [so, h]
theorem c_note23 (N b : Nat) {V : PV} (hs : SZ V) {k : Nat} (hk : k < 6) (kk : Int32 → St → Option St) (hp : V k 0 = 1) : ∀ r j n m σ, CV σ b V → σ (13 + 6 * b + k) 10 = nI m → m < 64 → j + r = 6 → r < n →
    ∃ τ, lp_X1_noteStanders_23 N b kk n (nI k) (nI j) σ = kk (nI (k + 1)) τ ∧ (∀ p f, ¬ (p = 13 + 6 * b + k ∧ f = 10) → τ p f = σ p f) ∧ τ (13 + 6 * b + k) 10 = nI (mk6 (fun i => so V i k) (fun i => i) r j m) := by
  intro r
  induction r with
  | zero =>
    intro j n m σ hV hm _ hj hn
    obtain ⟨n, rfl, -⟩ := fuel1 hn
    refine ⟨σ, ?_, fun _ _ _ => rfl, hm⟩
    simp only [lp_X1_noteStanders_23, q6T (show 6 ≤ j by omega) (by omega), ↓reduceIte, nI_1]
  | succ r ih =>
    intro j n m σ hV hm hm6 hj hn
    obtain ⟨n, rfl, hn⟩ := fuel1 hn
    have hj6 : j < 6 := by omega
    have hs1 := hs j hj6
    simp only [lp_X1_noteStanders_23, q6F hj6, qiT hj6, qix hj6, qiT hk, qix hk, nI_1, ↓reduceIte, (hV j hj6).1, (hV k hk).1, q_pl0 hs1.1, q_pl0 (hs k hk).1, show ¬ V k 0 = 0 by omega, mk6]
    by_cases h : V j 0 = 0
    · rw [if_pos h, if_neg (by rw [so_unp' (by omega)]; decide)]
      exact ih (j + 1) n m σ hV hm hm6 (by omega) (by omega)
    · have h1 : V j 0 = 1 := by omega
      rw [if_neg h, c_standsOn N ((hV j hj6).2 h1) ((hV k hk).2 hp) (hs1.2 h1) ((hs k hk).2 hp), bn_some]
      have hso : so V j k = so2 (V j) (V k) := by simp [so, h1, hp]
      simp only [bI_0, hso]
      by_cases hc : so2 (V j) (V k) = false
      · rw [if_pos hc, if_neg (by rw [hc]; decide)]
        exact ih (j + 1) n m σ hV hm hm6 (by omega) (by omega)
      · rw [if_neg hc, if_pos (by simpa using hc), hm, q_or m hm6 j hj6]
        have hne : ∀ p f, ¬ (p = 13 + 6 * b + k ∧ f = 10) → su σ (13 + 6 * b + k) 10 (nI (m ||| 2 ^ j)) p f = σ p f := fun p f h => su_ne σ _ h
        obtain ⟨τ, t1, t2, t3⟩ := ih (j + 1) n (m ||| 2 ^ j) (su σ (13 + 6 * b + k) 10 (nI (m ||| 2 ^ j))) (CV.x10 (b := b) hV (fun p f h => hne p f (by omega))) (su_same _ _ _ _) (Nat.or_lt_two_pow (n := 6) hm6 (Nat.pow_lt_pow_right (by decide) hj6)) (by omega) (by omega)
        exact ⟨τ, t1, fun p f h => (t2 p f h).trans (hne p f h), t3⟩
theorem c_note2 (N b : Nat) (hN : 7 ≤ N) {V : PV} (hs : SZ V) : ∀ r k n σ, CV σ b V → (∀ j, j < k → σ (13 + 6 * b + j) 10 = nI (sm V j)) → k + r = 6 → r < n →
    ∃ τ, lp_X1_noteStanders_2 N b n (nI k) σ = some τ ∧ X10 b σ τ ∧ ∀ j, j < 6 → τ (13 + 6 * b + j) 10 = nI (sm V j) := by
  intro r
  induction r with
  | zero =>
    intro k n σ hV hm hk hn
    obtain ⟨n, rfl, -⟩ := fuel1 hn
    refine ⟨σ, ?_, X10.rf _ _, fun j hj => hm j (by omega)⟩
    simp only [lp_X1_noteStanders_2, q6T (show 6 ≤ k by omega) (by omega), ↓reduceIte]
  | succ r ih =>
    intro k n σ hV hm hk hn
    obtain ⟨n, rfl, hn⟩ := fuel1 hn
    have hk6 : k < 6 := by omega
    simp only [lp_X1_noteStanders_2, q6F hk6, qiT hk6, qix hk6, ↓reduceIte]
    have hne : ∀ p f, ¬ (p = 13 + 6 * b + k ∧ f = 10) → su σ (13 + 6 * b + k) 10 0 p f = σ p f := fun p f h => su_ne σ _ h
    have hV1 : CV (su σ (13 + 6 * b + k) 10 0) b V := CV.x10 (b := b) hV (fun p f h => hne p f (by omega))
    obtain ⟨τ, t1, t2, t3⟩ : ∃ τ, lp_X1_noteStanders_23 N b (fun w1 σ => lp_X1_noteStanders_2 N b n w1 σ) N (nI k) 0 (su σ (13 + 6 * b + k) 10 0) = lp_X1_noteStanders_2 N b n (nI (k + 1)) τ ∧ (∀ p f, ¬ (p = 13 + 6 * b + k ∧ f = 10) → τ p f = su σ (13 + 6 * b + k) 10 0 p f) ∧ τ (13 + 6 * b + k) 10 = nI (sm V k) := by
      by_cases hp : V k 0 = 1
      · exact c_note23 N b hs hk6 _ hp 6 0 N 0 _ hV1 (su_same _ _ _ _) (by decide) rfl (by omega)
      · have hp0 : V k 0 = 0 := by have := (hs k hk6).1; omega
        refine ⟨_, ?_, fun _ _ _ => rfl, ?_⟩
        · obtain ⟨N', rfl⟩ : ∃ N', N = N' + 1 := ⟨N - 1, by omega⟩
          simp only [lp_X1_noteStanders_23]
          rw [if_neg (by decide)]
          simp only [qiT hk6, qix hk6, ↓reduceIte, (hV1 k hk6).1, nI_1]
          rw [if_pos (by rw [hp0]; decide)]
        · rw [su_same]
          have : sm V k = 0 := by
            unfold sm
            have : ∀ r j m, mk6 (fun j => so V j k) (fun j => j) r j m = m := by
              intro r
              induction r with
              | zero => intro j m; rfl
              | succ r ih => intro j m; unfold mk6; rw [if_neg (by rw [so_unp hp]; decide)]; exact ih _ _
            exact this _ _ _
          rw [this]; rfl
    obtain ⟨υ, u1, u2, u3⟩ := ih (k + 1) n τ (CV.x10 (b := b) hV1 (fun p f h => t2 p f (by omega))) (fun j hj => by
      by_cases e : j = k
      · rw [e]; exact t3
      · rw [t2 _ _ (by omega), hne _ _ (by omega)]; exact hm j (by omega)) (by omega) (by omega)
    exact ⟨υ, t1.trans u1, X10.tr (X10.tr (fun p f h => hne p f (by omega)) (fun p f h => t2 p f (by omega))) u2, u3⟩
theorem c_note (N b : Nat) (hN : 7 ≤ N) {V : PV} (hs : SZ V) {σ : St} (hV : CV σ b V) : ∃ τ, f_X1_noteStanders N b σ = some τ ∧ X10 b σ τ ∧ ∀ j, j < 6 → τ (13 + 6 * b + j) 10 = nI (sm V j) := c_note2 N b hN hs 6 0 N σ hV (fun j hj => by omega) rfl (by omega)
/-! sets that are closed -/
def gr (st : Nat → Nat) : Nat → Nat → Nat → Nat
  | 0, _, m => m
  | r + 1, k, m => gr st r (k + 1) (if tb m k = true then m ||| st k else m)
def cnt (m : Nat) : Nat := up (fun j => if tb m j = true then 1 else 0) 6 0
theorem tb_ext : ∀ m, m < 64 → ∀ m', m' < 64 → (∀ j, j < 6 → tb m j = tb m' j) → m = m' := by decide +kernel
theorem cnt_lt : ∀ m, m < 64 → ∀ m', m' < 64 → (∀ j, j < 6 → tb m j = true → tb m' j = true) → m ≠ m' → cnt m < cnt m' := by decide +kernel
theorem cnt_le : ∀ m, m < 64 → cnt m ≤ 6 := by decide +kernel
theorem cnt_pos : ∀ m, m < 64 → 0 ≠ m → 1 ≤ cnt m := by decide +kernel
theorem gr_lt {st : Nat → Nat} (hst : ∀ j, j < 6 → st j < 64) : ∀ r k m, k + r ≤ 6 → m < 64 → gr st r k m < 64 := by
  intro r
  induction r with
  | zero => intro k m _ h; exact h
  | succ r ih =>
    intro k m hk h
    simp only [gr]
    refine ih _ _ (by omega) ?_
    split
    · exact or_lt6 _ h _ (hst k (by omega))
    · exact h
theorem gr_sub {st : Nat → Nat} {j : Nat} : ∀ r k m, tb m j = true → tb (gr st r k m) j = true := by
  intro r
  induction r with
  | zero => intro k m h; exact h
  | succ r ih =>
    intro k m h
    simp only [gr]
    refine ih _ _ ?_
    split
    · rw [tb_or, h]; rfl
    · exact h
theorem gr_ad {st : Nat → Nat} {j i : Nat} : ∀ r k m, tb m i = true → k ≤ i → i < k + r → tb (st i) j = true → tb (gr st r k m) j = true := by
  intro r
  induction r with
  | zero => intro k m _ h1 h2; omega
  | succ r ih =>
    intro k m h h1 h2 h3
    simp only [gr]
    by_cases e : i = k
    · subst e
      rw [if_pos h]
      exact gr_sub _ _ _ (by rw [tb_or, h3, Bool.or_true])
    · refine ih _ _ ?_ (by omega) (by omega) h3
      split
      · rw [tb_or, h]; rfl
      · exact h
theorem gr_least {st : Nat → Nat} {C : Nat → Prop} (hC : ∀ i j, i < 6 → C i → tb (st i) j = true → C j) : ∀ r k m, k + r ≤ 6 → (∀ j, tb m j = true → C j) → ∀ j, tb (gr st r k m) j = true → C j := by
  intro r
  induction r with
  | zero => intro k m _ h; exact h
  | succ r ih =>
    intro k m hk h
    simp only [gr]
    refine ih _ _ (by omega) ?_
    intro j hj
    split at hj
    · rename_i hb
      rw [tb_or, Bool.or_eq_true] at hj
      exact hj.elim (h j) (hC k j (by omega) (h k hb))
    · exact h j hj
/-- m is the least closed set that holds st i -/
def Lst (st : Nat → Nat) (s0 m : Nat) : Prop := m < 64 ∧ (∀ j, j < 6 → tb s0 j = true → tb m j = true) ∧ (∀ i j, i < 6 → j < 6 → tb m i = true → tb (st i) j = true → tb m j = true) ∧ (∀ C : Nat → Prop, (∀ j, tb s0 j = true → C j) → (∀ i j, i < 6 → C i → tb (st i) j = true → C j) → ∀ j, tb m j = true → C j)
theorem c_won80 (N b q : Nat) {σ : St} {m : Nat} {wt : Nat → Nat} (hm : m < 64) (hw : ∀ j, j < 6 → tb m j = true → σ (13 + 6 * b + j) 8 = nI (wt j)) (v3 : Int32) : ∀ r k n a, k + r = 6 → r < n → lp_X1_weightOn_80 N b q n (nI m) v3 (nI a) (nI k) σ = some (nI (a + up (fun j => if tb m j = true then wt j else 0) r k), σ) := by
  intro r
  induction r with
  | zero =>
    intro k n a hk hn
    obtain ⟨n, rfl, -⟩ := fuel1 hn
    simp only [lp_X1_weightOn_80, q6T (show 6 ≤ k by omega) (by omega), ↓reduceIte, up, Nat.add_zero]
  | succ r ih =>
    intro k n a hk hn
    obtain ⟨n, rfl, hn⟩ := fuel1 hn
    have hk6 : k < 6 := by omega
    have hb := q_bit m (by omega) k (by omega)
    simp only [lp_X1_weightOn_80, q6F hk6, qiT hk6, qix hk6, nI_1, ↓reduceIte, f_X3_isIn, hb, bI_1, up]
    by_cases h : tb m k = true
    · rw [if_pos h, bn_some, if_neg (by decide), if_pos h, hw k hk6 h, nI_add, ih (k + 1) n _ (by omega) (by omega), Nat.add_assoc]
    · rw [if_neg h, bn_some, if_pos rfl, if_neg h, ih (k + 1) n _ (by omega) (by omega), Nat.zero_add]
theorem c_won30 (N b q : Nat) {σ : St} {st : Nat → Nat} (hst : ∀ j, j < 6 → st j < 64) (h10 : ∀ j, j < 6 → σ (13 + 6 * b + j) 10 = nI (st j)) (kk : Int32 → Int32 → Int32 → St → Option (Int32 × St)) (v3 : Int32) (ro : Nat) : ∀ r k n m, m < 64 → k + r = 6 → r < n → lp_X1_weightOn_30 N b q kk n (nI m) v3 (nI ro) (nI k) σ = kk (nI (gr st r k m)) v3 (nI (ro + 1)) σ := by
  intro r
  induction r with
  | zero =>
    intro k n m hm hk hn
    obtain ⟨n, rfl, -⟩ := fuel1 hn
    simp only [lp_X1_weightOn_30, q6T (show 6 ≤ k by omega) (by omega), ↓reduceIte, gr, nI_1]
  | succ r ih =>
    intro k n m hm hk hn
    obtain ⟨n, rfl, hn⟩ := fuel1 hn
    have hk6 : k < 6 := by omega
    have hb := q_bit m (by omega) k (by omega)
    simp only [lp_X1_weightOn_30, q6F hk6, qiT hk6, qix hk6, nI_1, ↓reduceIte, f_X3_isIn, hb, bI_1, gr]
    by_cases h : tb m k = true
    · rw [if_pos h, bn_some, if_neg (by decide), if_pos h, h10 k hk6, q_orr m hm _ (hst k hk6), ih (k + 1) n _ (or_lt6 _ hm _ (hst k hk6)) (by omega) (by omega)]
    · rw [if_neg h, bn_some, if_pos rfl, if_neg h, ih (k + 1) n m hm (by omega) (by omega)]
theorem c_won10 (N b q : Nat) (hN : 7 ≤ N) {σ : St} {st : Nat → Nat} (hst : ∀ j, j < 6 → st j < 64) (h10 : ∀ j, j < 6 → σ (13 + 6 * b + j) 10 = nI (st j)) {s0 : Nat} {wt : Nat → Nat} (hw : ∀ m, Lst st s0 m → ∀ j, j < 6 → tb m j = true → σ (13 + 6 * b + j) 8 = nI (wt j)) :
    ∀ r ro n m bf, m < 64 → bf < 64 → ro + r = 6 → r < n → (∀ j, j < 6 → tb s0 j = true → tb m j = true) → (∀ C : Nat → Prop, (∀ j, tb s0 j = true → C j) → (∀ i j, i < 6 → C i → tb (st i) j = true → C j) → ∀ j, tb m j = true → C j) →
      (bf = m → ∀ i j, i < 6 → j < 6 → tb m i = true → tb (st i) j = true → tb m j = true) → (bf ≠ m → ro + 1 ≤ cnt m) → ∃ m', Lst st s0 m' ∧ lp_X1_weightOn_10 N b q n (nI m) (nI bf) (nI ro) σ = some (nI (up (fun j => if tb m' j = true then wt j else 0) 6 0), σ) := by
  have fin : ∀ m (v3 : Int32), Lst st s0 m → lp_X1_weightOn_80 N b q N (nI m) v3 0 0 σ = some (nI (up (fun j => if tb m j = true then wt j else 0) 6 0), σ) := fun m v3 hm => by
    have := c_won80 N b q hm.1 (hw m hm) v3 6 0 N 0 rfl (by omega)
    rw [Nat.zero_add] at this; exact this
  intro r
  induction r with
  | zero =>
    intro ro n m bf hm hbf hr hn h1 h2 h3 h4
    obtain ⟨n, rfl, -⟩ := fuel1 hn
    by_cases e : bf = m
    · have hL : Lst st s0 m := ⟨hm, h1, h3 e, h2⟩
      refine ⟨m, hL, ?_⟩
      simp only [lp_X1_weightOn_10, q6T (show 6 ≤ ro by omega) (by omega), ↓reduceIte]
      exact fin m _ hL
    · have := h4 e
      have := cnt_le m hm
      omega
  | succ r ih =>
    intro ro n m bf hm hbf hr hn h1 h2 h3 h4
    obtain ⟨n, rfl, hn⟩ := fuel1 hn
    have hr6 : ro < 6 := by omega
    simp (disch := omega) only [lp_X1_weightOn_10, q6F hr6, ↓reduceIte, q_eq]
    by_cases e : bf = m
    · have hL : Lst st s0 m := ⟨hm, h1, h3 e, h2⟩
      refine ⟨m, hL, ?_⟩
      rw [if_pos e]
      exact fin m _ hL
    · rw [if_neg e]
      have g6 := gr_lt hst 6 0 m (by omega) hm
      obtain ⟨m', hL, hm'⟩ := ih (ro + 1) n (gr st 6 0 m) m g6 hm (by omega) (by omega) (fun j hj h => gr_sub _ _ _ (h1 j hj h)) (fun C hc1 hc2 => gr_least hc2 6 0 m (by omega) (h2 C hc1 hc2))
        (fun e2 i j hi hj hti htj => by
          rw [← e2] at hti ⊢
          rw [e2]
          exact gr_ad 6 0 m hti (by omega) (by omega) htj)
        (fun ne => by
          have := cnt_lt m hm _ g6 (fun j _ h => gr_sub _ _ _ h) ne
          have := h4 e
          omega)
      refine ⟨m', hL, ?_⟩
      have := c_won30 N b q hst h10 (fun w2 w3 w4 σ => lp_X1_weightOn_10 N b q n w2 w3 w4 σ) (nI m) ro 6 0 N m hm rfl (by omega)
      exact this.trans hm'
theorem c_won (N b q : Nat) (hN : 7 ≤ N) {σ : St} {st : Nat → Nat} (hst : ∀ j, j < 6 → st j < 64) (h10 : ∀ j, j < 6 → σ (13 + 6 * b + j) 10 = nI (st j)) {s0 : Nat} (hs0 : s0 < 64) (hq : σ q 10 = nI s0) {wt : Nat → Nat} (hw : ∀ m, Lst st s0 m → ∀ j, j < 6 → tb m j = true → σ (13 + 6 * b + j) 8 = nI (wt j)) : ∃ m', Lst st s0 m' ∧ f_X1_weightOn N b q σ = some (nI (up (fun j => if tb m' j = true then wt j else 0) 6 0), σ) := by
  unfold f_X1_weightOn
  rw [hq]
  exact c_won10 N b q hN hst h10 hw 6 0 N s0 0 hs0 (by decide) rfl (by omega) (fun _ _ h => h) (fun _ h _ => h) (fun e i j hi _ h => by rw [← e, tb_0] at h; cases h) (fun e => cnt_pos s0 hs0 e)
