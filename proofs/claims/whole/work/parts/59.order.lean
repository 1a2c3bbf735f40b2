/-! layer 2: the order of the pieces -/
def bkt (n : Nat) (rk : Nat → Nat) (un : Nat → Bool) (r : Nat) : List Nat := elf (fun i => un i && rk i == r) n 0
def catL (n : Nat) (rk : Nat → Nat) (un : Nat → Bool) : Nat → Nat → List Nat
  | 0, _ => []
  | q + 1, r => bkt n rk un r ++ catL n rk un q (r + 1)
def ordL (n : Nat) (rk : Nat → Nat) (un : Nat → Bool) : List Nat := catL n rk un 10 0
theorem elf_length (f : Nat → Bool) : ∀ r k, (elf f r k).length = up (fun j => if f j = true then 1 else 0) r k := by
  intro r
  induction r with
  | zero => intro k; rfl
  | succ r ih =>
    intro k
    by_cases h : f k = true
    · rw [elf_t h, List.length_cons, ih]; simp only [up]; rw [if_pos h]; omega
    · rw [elf_f (Bool.eq_false_iff.mpr h), ih]; simp only [up]; rw [if_neg h]; omega
theorem up_add (f g : Nat → Nat) : ∀ r k, up f r k + up g r k = up (fun j => f j + g j) r k := by
  intro r
  induction r with
  | zero => intro k; rfl
  | succ r ih => intro k; simp only [up]; rw [← ih]; omega
theorem catL_length (n : Nat) (rk : Nat → Nat) (un : Nat → Bool) : ∀ q r, (catL n rk un q r).length = up (fun j => if un j = true ∧ r ≤ rk j ∧ rk j < r + q then 1 else 0) n 0 := by
  intro q
  induction q with
  | zero => intro r; rw [catL, up_zero]; rfl; intro j _ _; rw [if_neg (by omega)]
  | succ q ih =>
    intro r
    rw [catL, List.length_append, bkt, elf_length, ih, up_add]
    refine up_congr n 0 fun j _ _ => ?_
    cases un j with
    | false => simp
    | true =>
      simp only [Bool.true_and, beq_iff_eq, true_and]
      by_cases e : rk j = r
      · rw [if_pos e, if_neg (by omega), if_pos (by omega)]
      · rw [if_neg e]
        by_cases e2 : r + 1 ≤ rk j ∧ rk j < r + 1 + q
        · rw [if_pos e2, if_pos (by omega)]
        · rw [if_neg e2, if_neg (by omega)]
theorem ordL_len (n : Nat) (rk : Nat → Nat) (un : Nat → Bool) : (ordL n rk un).length ≤ n := by
  unfold ordL
  rw [catL_length]
  have := up_bound (f := fun j => if un j = true ∧ 0 ≤ rk j ∧ rk j < 0 + 10 then 1 else 0) (c := 1) n 0 (fun j _ _ => by split <;> omega)
  omega
theorem catL_mem {n : Nat} {rk : Nat → Nat} {un : Nat → Bool} {x : Nat} : ∀ q r, x ∈ catL n rk un q r → x < n ∧ un x = true ∧ r ≤ rk x ∧ rk x < r + q := by
  intro q
  induction q with
  | zero => intro r h; cases h
  | succ q ih =>
    intro r h
    rw [catL, List.mem_append] at h
    rcases h with h | h
    · have := elf_lt _ _ _ h
      simp only [Bool.and_eq_true, beq_iff_eq] at this
      exact ⟨by omega, this.2.2.1, by omega, by omega⟩
    · have := ih _ h; exact ⟨this.1, this.2.1, by omega, by omega⟩
theorem elf_nodup {f : Nat → Bool} : ∀ r k, (elf f r k).Nodup := by
  intro r
  induction r with
  | zero => intro k; exact List.nodup_nil
  | succ r ih =>
    intro k
    by_cases h : f k = true
    · rw [elf_t h, List.nodup_cons]
      exact ⟨fun hm => by have := elf_lt _ _ _ hm; omega, ih _⟩
    · rw [elf_f (Bool.eq_false_iff.mpr h)]; exact ih _
theorem catL_nodup {n : Nat} {rk : Nat → Nat} {un : Nat → Bool} : ∀ q r, (catL n rk un q r).Nodup := by
  intro q
  induction q with
  | zero => intro r; exact List.nodup_nil
  | succ q ih =>
    intro r
    rw [catL, List.nodup_append]
    refine ⟨elf_nodup _ _, ih _, fun a ha b hb e => ?_⟩
    have h1 := elf_lt _ _ _ ha
    simp only [Bool.and_eq_true, beq_iff_eq] at h1
    have h2 := catL_mem _ _ hb
    rw [e] at h1
    omega
theorem catL_split (n : Nat) (rk : Nat → Nat) (un : Nat → Bool) : ∀ a b r, catL n rk un (a + b) r = catL n rk un a r ++ catL n rk un b (r + a) := by
  intro a
  induction a with
  | zero => intro b r; rw [Nat.zero_add, catL]; rfl
  | succ a ih =>
    intro b r
    rw [show a + 1 + b = (a + b) + 1 by omega, catL, catL, ih, List.append_assoc, show r + 1 + a = r + (a + 1) by omega]
theorem bkt_succ (n : Nat) (rk : Nat → Nat) (un : Nat → Bool) (r : Nat) : bkt (n + 1) rk un r = bkt n rk un r ++ (if un n = true ∧ rk n = r then [n] else []) := by
  unfold bkt
  rw [elf_split, Nat.zero_add]
  congr 1
  by_cases h : un n = true ∧ rk n = r
  · rw [if_pos h, elf_t (by simp [h.1, h.2])]; rfl
  · rw [if_neg h, elf_f (by cases hu : un n <;> simp_all)]; rfl
theorem catL_skip {n : Nat} {rk : Nat → Nat} {un : Nat → Bool} : ∀ q r, (un n = false ∨ rk n < r ∨ r + q ≤ rk n) → catL (n + 1) rk un q r = catL n rk un q r := by
  intro q
  induction q with
  | zero => intro r _; rfl
  | succ q ih =>
    intro r h
    have h' : un n = false ∨ rk n < r + 1 ∨ r + 1 + q ≤ rk n := by
      rcases h with h | h | h
      · exact Or.inl h
      · exact Or.inr (Or.inl (by omega))
      · exact Or.inr (Or.inr (by omega))
    rw [catL, catL, ih (r + 1) h', bkt_succ, if_neg, List.append_nil]
    intro ⟨h1, h2⟩
    rcases h with h | h | h
    · rw [h1] at h; cases h
    · omega
    · omega
/-- one more piece in the order -/
theorem ordL_ins {n : Nat} {rk : Nat → Nat} {un : Nat → Bool} (hu : un n = true) (hr : rk n ≤ 9) : ∃ X Y, ordL n rk un = X ++ Y ∧ ordL (n + 1) rk un = X ++ n :: Y ∧ (∀ x, x ∈ X → x < n ∧ rk x ≤ rk n) ∧ ∀ x, x ∈ Y → x < n ∧ rk n < rk x := by
  refine ⟨catL n rk un (rk n + 1) 0, catL n rk un (9 - rk n) (rk n + 1), ?_, ?_, fun x hx => ?_, fun x hx => ?_⟩
  · have := catL_split n rk un (rk n + 1) (9 - rk n) 0
    rwa [show rk n + 1 + (9 - rk n) = 10 by omega, Nat.zero_add] at this
  · have h1 := catL_split (n + 1) rk un (rk n) (10 - rk n) 0
    rw [show rk n + (10 - rk n) = 10 by omega, Nat.zero_add, show 10 - rk n = (9 - rk n) + 1 by omega, catL_skip (rk n) 0 (by omega)] at h1
    have h2 : catL (n + 1) rk un (9 - rk n + 1) (rk n) = (bkt n rk un (rk n) ++ [n]) ++ catL n rk un (9 - rk n) (rk n + 1) := by
      rw [catL, catL_skip (9 - rk n) (rk n + 1) (by omega), bkt_succ, if_pos ⟨hu, rfl⟩]
    have h3 := catL_split n rk un (rk n) 1 0
    rw [Nat.zero_add] at h3
    have h4 : catL n rk un 1 (rk n) = bkt n rk un (rk n) := by rw [catL, catL, List.append_nil]
    show catL (n + 1) rk un 10 0 = _
    rw [h1, h2, h3, h4]
    simp
  · have := catL_mem _ _ hx; exact ⟨this.1, by omega⟩
  · have := catL_mem _ _ hx; exact ⟨this.1, by omega⟩
theorem ordL_skip {n : Nat} {rk : Nat → Nat} {un : Nat → Bool} (hu : un n = false) : ordL (n + 1) rk un = ordL n rk un := catL_skip 10 0 (Or.inl hu)
/-! the class -/
def CU (σ : St) (n : Nat) (rk : Nat → Nat) (un : Nat → Bool) : Prop := σ 0 4 = nI n ∧ ∀ i, i < n → σ (5 + i) 6 = nI (rk i) ∧ rk i ≤ 9 ∧ (σ (5 + i) 7 = -1 ↔ un i = true)
theorem CU.fr {σ τ : St} {n : Nat} {rk : Nat → Nat} {un : Nat → Bool} (h : CU σ n rk un) (hn : n ≤ 6) (k : ∀ p f, (p = 0 ∧ f = 4 ∨ 5 ≤ p ∧ p < 11) → τ p f = σ p f) : CU τ n rk un := ⟨(k _ _ (by omega)).trans h.1, fun i hi => ⟨(k _ _ (by omega)).trans (h.2 i hi).1, (h.2 i hi).2.1, by rw [k _ _ (by omega)]; exact (h.2 i hi).2.2⟩⟩
theorem c_packed (N : Nat) {σ : St} {n : Nat} {rk : Nat → Nat} {un : Nat → Bool} (h : CU σ n rk un) {i : Nat} (hi : i < n) : f_X0_isPacked N (5 + i) σ = some (bI (!un i), σ) := by
  unfold f_X0_isPacked
  by_cases e : un i = true
  · rw [if_pos ((h.2 i hi).2.2.mpr e), e]; rfl
  · rw [if_neg (fun h1 => e ((h.2 i hi).2.2.mp h1)), Bool.eq_false_iff.mpr e]; rfl
theorem OC.push {σ : St} {L : List Nat} {v : Nat} (h : OC σ 0 L) : OC (su (su σ 4 L.length (nI v)) 0 5 (nI (L.length + 1))) 0 (L ++ [v]) := by
  refine ⟨by rw [su_same, List.length_append, Nat.zero_add]; rfl, fun j p hp => ?_⟩
  rw [su_ne _ _ (by omega)]
  by_cases e : j < L.length
  · rw [su_ne _ _ (by omega)]
    rw [List.getElem?_append_left e] at hp
    exact h.2 j p hp
  · rw [List.getElem?_append_right (by omega)] at hp
    have : j - L.length = 0 := by
      refine Classical.byContradiction fun e2 => ?_
      rw [List.getElem?_eq_none (by simp; omega)] at hp; cases hp
    rw [this] at hp
    have hv : v = p := by simpa using hp
    rw [show 0 + j = L.length by omega, su_same, hv]
def FO (σ τ : St) : Prop := ∀ p f, ¬ (p = 4) → ¬ (p = 0 ∧ f = 5) → τ p f = σ p f
theorem FO.tr {σ τ υ : St} (h : FO σ τ) (k : FO τ υ) : FO σ υ := fun p f h1 h2 => (k p f h1 h2).trans (h p f h1 h2)
theorem c_put15 (N : Nat) {n : Nat} (hn : n ≤ 6) {rk : Nat → Nat} {un : Nat → Bool} {r : Nat} (hr : r < 10) (kk : Int32 → St → Option St) : ∀ q k f L σ, CU σ n rk un → OC σ 0 L → k + q = n → q < f → L.length + (elf (fun i => un i && rk i == r) q k).length ≤ 6 → ∃ τ, lp_X3_putInOrder_15 N kk f (nI r) (nI k) σ = kk (nI (r + 1)) τ ∧ OC τ 0 (L ++ elf (fun i => un i && rk i == r) q k) ∧ FO σ τ := by
  intro q
  induction q with
  | zero =>
    intro k f L σ hU hO hk hf _
    obtain ⟨f, rfl, -⟩ := fuel1 hf
    refine ⟨σ, ?_, by rw [elf, List.append_nil]; exact hO, fun _ _ _ _ => rfl⟩
    simp (disch := omega) only [lp_X3_putInOrder_15, hU.1, q_le, show n ≤ k by omega, ↓reduceIte, nI_1]
  | succ q ih =>
    intro k f L σ hU hO hk hf hlen
    obtain ⟨f, rfl, hf⟩ := fuel1 hf
    have hk6 : k < 6 := by omega
    have h5 : σ 0 5 = nI L.length := by have := hO.1; rwa [Nat.zero_add] at this
    have hrk := (hU.2 k (by omega)).2.1
    simp (disch := omega) only [lp_X3_putInOrder_15, hU.1, q_le, show ¬ n ≤ k by omega, ↓reduceIte, nI_1, h5, qiT hk6, qix hk6, (hU.2 k (show k < n by omega)).1, c_packed N hU (show k < n by omega), bn_some, bI_0, q_eq]
    by_cases h6 : 6 ≤ L.length
    · rw [if_pos (of_eq_true (q6T h6 (by omega)))]
      refine ⟨σ, rfl, ?_, fun _ _ _ _ => rfl⟩
      have : (elf (fun i => un i && rk i == r) (q + 1) k).length = 0 := by omega
      rw [List.length_eq_zero_iff.mp this, List.append_nil]; exact hO
    · rw [if_neg (of_eq_false (q6F (show L.length < 6 by omega)))]
      by_cases e1 : rk k = r
      · rw [if_pos e1]
        by_cases e2 : (!un k) = false
        · have hu : un k = true := by simpa using e2
          rw [if_pos e2, if_pos (q_inb (show L.length < 6 by omega) (by decide)), q_ix (by omega)]
          have ht : elf (fun i => un i && rk i == r) (q + 1) k = k :: elf (fun i => un i && rk i == r) q (k + 1) := elf_t (by simp [hu, e1])
          rw [ht, List.length_cons] at hlen
          have e4 : su σ 4 L.length (nI k) 0 5 + 1 = nI (L.length + 1) := by rw [su_ne _ _ (by omega), h5, nI_1]
          rw [e4]
          have hfr : FO σ (su (su σ 4 L.length (nI k)) 0 5 (nI (L.length + 1))) := fun p g h1 h2 => by rw [su_ne _ _ (by omega), su_ne _ _ (by omega)]
          obtain ⟨τ, t1, t2, t3⟩ := ih (k + 1) f (L ++ [k]) _ (hU.fr hn fun p g e => hfr p g (by omega) (by omega)) hO.push (by omega) (by omega) (by rw [List.length_append, List.length_singleton]; omega)
          refine ⟨τ, t1, ?_, hfr.tr t3⟩
          rw [ht]
          simpa using t2
        · rw [if_neg e2]
          have ht : elf (fun i => un i && rk i == r) (q + 1) k = elf (fun i => un i && rk i == r) q (k + 1) := elf_f (by cases h : un k <;> simp_all)
          rw [ht] at hlen ⊢
          exact ih (k + 1) f L σ hU hO (by omega) (by omega) hlen
      · rw [if_neg e1]
        have ht : elf (fun i => un i && rk i == r) (q + 1) k = elf (fun i => un i && rk i == r) q (k + 1) := elf_f (by simp [e1])
        rw [ht] at hlen ⊢
        exact ih (k + 1) f L σ hU hO (by omega) (by omega) hlen
theorem c_put7 (N : Nat) (hN : 11 ≤ N) {n : Nat} (hn : n ≤ 6) {rk : Nat → Nat} {un : Nat → Bool} : ∀ q r f L σ, CU σ n rk un → OC σ 0 L → r + q = 10 → q < f → L.length + (catL n rk un q r).length ≤ 6 → ∃ τ, lp_X3_putInOrder_7 N f (nI r) σ = some τ ∧ OC τ 0 (L ++ catL n rk un q r) ∧ FO σ τ := by
  intro q
  induction q with
  | zero =>
    intro r f L σ hU hO hr hf _
    obtain ⟨f, rfl, -⟩ := fuel1 hf
    refine ⟨σ, ?_, by rw [catL, List.append_nil]; exact hO, fun _ _ _ _ => rfl⟩
    simp only [lp_X3_putInOrder_7]
    rw [if_pos (show (9 : Int32) < nI r from (nI_ltI (a := 9) (by decide) (by omega)).mpr (by omega))]
  | succ q ih =>
    intro r f L σ hU hO hr hf hlen
    obtain ⟨f, rfl, hf⟩ := fuel1 hf
    rw [catL, List.length_append] at hlen
    obtain ⟨τ, t1, t2, t3⟩ := c_put15 N hn (r := r) (by omega) (fun w1 σ => lp_X3_putInOrder_7 N f w1 σ) n 0 N L σ hU hO (by omega) (by omega) (by unfold bkt at hlen; omega)
    obtain ⟨υ, u1, u2, u3⟩ := ih (r + 1) f (L ++ bkt n rk un r) τ (hU.fr hn fun p g e => t3 p g (by omega) (by omega)) t2 (by omega) (by omega) (by rw [List.length_append]; omega)
    refine ⟨υ, ?_, by rw [catL, ← List.append_assoc]; exact u2, t3.tr u3⟩
    simp only [lp_X3_putInOrder_7]
    rw [if_neg (show ¬ (9 : Int32) < nI r from fun h => by have := (nI_ltI (a := 9) (by decide) (by omega)).mp h; omega)]
    exact t1.trans u1
theorem c_order (N : Nat) (hN : 11 ≤ N) {n : Nat} (hn : n ≤ 6) {rk : Nat → Nat} {un : Nat → Bool} {σ : St} (hU : CU σ n rk un) : ∃ τ, f_X3_putInOrder N σ = some τ ∧ OC τ 0 (ordL n rk un) ∧ FO σ τ := by
  have hl := ordL_len n rk un
  unfold ordL at hl
  obtain ⟨τ, t1, t2, t3⟩ := c_put7 N hN hn 10 0 N [] (su σ 0 5 0) (hU.fr hn fun p g e => su_ne _ _ (by omega)) ⟨su_same _ _ _ _, fun j p h => by cases h⟩ rfl (by omega) (by rw [List.length_nil]; omega)
  exact ⟨τ, t1, t2, FO.tr (fun p g h1 h2 => su_ne _ _ (by omega)) t3⟩
