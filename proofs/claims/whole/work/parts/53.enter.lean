/-! layer 2: the reference's rows of ends -/
def EN (τ : St) (i a : Nat) (L : List Nat) : Prop := τ 49 (7 * a + i) = nI L.length ∧ ∀ k e, L[k]? = some e → τ 48 (56 * a + 8 * i + k) = nI e
theorem r_59 (N : Nat) {i a v n c : Nat} (hi : i < 6) (ha : a < 3) (hv : v < 100) (hn : n < 8) {l t : Nat → Nat} (hl : ∀ j, j < n → l j < 100) (H1 : ∀ j, j < c → t j = l j ∧ l j ≤ v) (H2 : t c = v) (H3 : ∀ j, c < j → j ≤ n → t j = l (j - 1) ∧ v < l (j - 1)) (hc : c ≤ n) (a1 a2 a3 : Int32) :
    ∀ r k f τ, k = c + r → k ≤ n → r < f → (∀ j, j < k → τ 48 (56 * a + 8 * i + j) = nI (l j)) → (∀ j, k < j → j ≤ n → τ 48 (56 * a + 8 * i + j) = nI (t j)) →
    ∃ υ, lp_X4_end_59 N a1 a2 a3 f (nI i) (nI a) (nI v) (nI (56 * a + 8 * i)) (nI n) (nI k) τ = some υ ∧ (∀ j, j ≤ n → υ 48 (56 * a + 8 * i + j) = nI (t j)) ∧ υ 49 (7 * a + i) = nI (n + 1) ∧ ∀ p g, ¬ (p = 48 ∧ 56 * a + 8 * i ≤ g ∧ g < 56 * a + 8 * i + 8) → ¬ (p = 49 ∧ g = 7 * a + i) → υ p g = τ p g := by
  intro r
  induction r with
  | zero =>
    intro k f τ hk hkn hf h1 h2
    obtain ⟨f, rfl, -⟩ := fuel1 hf
    have hk' : k = c := hk
    subst hk'
    have fin : (if inb (nI (56 * a + 8 * i) + nI k) 168 = true then if inb ((7 * nI a) + nI i) 21 = true then some (su (su τ 48 (ix (nI (56 * a + 8 * i) + nI k)) (nI v)) 49 (ix ((7 * nI a) + nI i)) (nI n + 1)) else none else none) = some (su (su τ 48 (56 * a + 8 * i + k) (nI v)) 49 (7 * a + i) (nI (n + 1))) := by
      rw [nI_add, show (7 : Int32) * nI a = nI (7 * a) from q_mul 7 a, nI_add, if_pos (q_inb (by omega) (by decide)), if_pos (q_inb (by omega) (by decide)), q_ix (by omega), q_ix (by omega), nI_1]
    have hw : lp_X4_end_59 N a1 a2 a3 (f + 1) (nI i) (nI a) (nI v) (nI (56 * a + 8 * i)) (nI n) (nI k) τ = some (su (su τ 48 (56 * a + 8 * i + k) (nI v)) 49 (7 * a + i) (nI (n + 1))) := by
      by_cases e : k = 0
      · simp only [lp_X4_end_59]
        rw [if_pos (by rw [q_le0 (by omega)]; exact e)]
        exact fin
      · have hl1 := (H1 (k - 1) (by omega)).2
        have ek : nI (56 * a + 8 * i) + nI k - 1 = nI (56 * a + 8 * i + (k - 1)) := by
          rw [nI_add]
          have := nI_pred (56 * a + 8 * i + (k - 1))
          rwa [show 56 * a + 8 * i + (k - 1) + 1 = 56 * a + 8 * i + k by omega] at this
        simp only [lp_X4_end_59]
        rw [if_neg (by rw [q_le0 (by omega)]; exact e), ek, if_pos (q_inb (by omega) (by decide)), q_ix (by omega), h1 (k - 1) (by omega), if_pos (by rw [q_le (by omega) (by omega)]; exact hl1)]
        exact fin
    refine ⟨_, hw, fun j hj => ?_, su_same _ _ _ _, fun p g e1 e2 => ?_⟩
    · rw [su_ne _ _ (by omega)]
      by_cases e : j = k
      · subst e; rw [su_same, H2]
      · rw [su_ne _ _ (by omega)]
        by_cases lt : j < k
        · rw [h1 j lt, (H1 j lt).1]
        · exact h2 j (by omega) hj
    · rw [su_ne _ _ (by omega), su_ne _ _ (by omega)]
  | succ r ih =>
    intro k f τ hk hkn hf h1 h2
    obtain ⟨f, rfl, hf⟩ := fuel1 hf
    have h3 := H3 k (by omega) hkn
    have ek : nI (56 * a + 8 * i) + nI k - 1 = nI (56 * a + 8 * i + (k - 1)) := by
      rw [nI_add]
      have := nI_pred (56 * a + 8 * i + (k - 1))
      rwa [show 56 * a + 8 * i + (k - 1) + 1 = 56 * a + 8 * i + k by omega] at this
    have hl2 := hl (k - 1) (by omega)
    simp only [lp_X4_end_59]
    rw [if_neg (by rw [q_le0 (by omega)]; omega), ek, if_pos (q_inb (by omega) (by decide)), q_ix (by omega), h1 (k - 1) (by omega), if_neg (by rw [q_le (by omega) (by omega)]; omega), if_pos (q_inb (by omega) (by decide)), nI_add, if_pos (q_inb (by omega) (by decide)), q_ix (by omega), q_pred (by omega)]
    obtain ⟨υ, u1, u2, u3, u4⟩ := ih (k - 1) f (su τ 48 (56 * a + 8 * i + k) (nI (l (k - 1)))) (by omega) (by omega) (by omega) (fun j hj => by rw [su_ne _ _ (by omega)]; exact h1 j (by omega)) (fun j hj hjn => by
      by_cases e : j = k
      · subst e; rw [su_same, h3.1]
      · rw [su_ne _ _ (by omega)]; exact h2 j (by omega) hjn)
    exact ⟨υ, u1, u2, u3, fun p g e1 e2 => by rw [u4 p g e1 e2, su_ne _ _ (by omega)]⟩
theorem r_27 (N : Nat) (hN : 9 ≤ N) {i a v n : Nat} (hi : i < 6) (ha : a < 3) (hv : v < 100) (hn : n < 8) {l : Nat → Nat} (hl : ∀ j, j < n → l j < 100) {τ : St} (h1 : ∀ j, j < n → τ 48 (56 * a + 8 * i + j) = nI (l j)) (a1 a2 a3 : Int32) :
    ∀ r k f, k + r = n → r < f → lp_X4_end_27 N a1 a2 a3 f (nI i) (nI a) (nI v) (nI (56 * a + 8 * i)) (nI n) (nI k) τ = if be (fun j => l j == v) r k = true then some τ else lp_X4_end_59 N a1 a2 a3 N (nI i) (nI a) (nI v) (nI (56 * a + 8 * i)) (nI n) (nI n) τ := by
  intro r
  induction r with
  | zero =>
    intro k f hk hf
    obtain ⟨f, rfl, -⟩ := fuel1 hf
    simp only [lp_X4_end_27]
    rw [if_pos (by rw [q_le (by omega) (by omega)]; omega), if_neg (by simp [be])]
  | succ r ih =>
    intro k f hk hf
    obtain ⟨f, rfl, hf⟩ := fuel1 hf
    have hlk := hl k (by omega)
    have hb : be (fun j => l j == v) (r + 1) k = ((l k == v) || be (fun j => l j == v) r (k + 1)) := rfl
    simp only [lp_X4_end_27]
    rw [if_neg (by rw [q_le (by omega) (by omega)]; omega), nI_add, if_pos (q_inb (by omega) (by decide)), q_ix (by omega), h1 k (by omega), nI_1, ih (k + 1) f (by omega) (by omega), hb]
    by_cases e : l k = v
    · rw [if_pos (by rw [e]), if_pos (by simp [e])]
    · rw [if_neg (by rw [q_eq (by omega) (by omega)]; exact e), show (l k == v) = false by simp [e], Bool.false_or]
theorem elf_split (f : Nat → Bool) : ∀ a b k, elf f (a + b) k = elf f a k ++ elf f b (k + a) := by
  intro a
  induction a with
  | zero => intro b k; simp [elf]
  | succ a ih =>
    intro b k
    rw [show a + 1 + b = (a + b) + 1 by omega, show k + (a + 1) = k + 1 + a by omega]
    by_cases h : f k = true
    · rw [elf_t h, elf_t h, ih, List.cons_append]
    · rw [elf_f (Bool.eq_false_iff.mpr h), elf_f (Bool.eq_false_iff.mpr h), ih]
theorem elf_congr {f g : Nat → Bool} : ∀ r k, (∀ j, k ≤ j → j < k + r → f j = g j) → elf f r k = elf g r k := by
  intro r
  induction r with
  | zero => intro k _; rfl
  | succ r ih =>
    intro k h
    have := ih (k + 1) (fun j h1 h2 => h j (by omega) (by omega))
    by_cases e : f k = true
    · rw [elf_t e, elf_t (by rw [← h k (by omega) (by omega)]; exact e), this]
    · rw [elf_f (Bool.eq_false_iff.mpr e), elf_f (by rw [← h k (by omega) (by omega)]; exact Bool.eq_false_iff.mpr e), this]
theorem elf_len {f : Nat → Bool} : ∀ r k, (elf f r k).length ≤ r := by
  intro r
  induction r with
  | zero => intro k; simp [elf]
  | succ r ih =>
    intro k
    have := ih (k + 1)
    by_cases h : f k = true
    · rw [elf_t h, List.length_cons]; omega
    · rw [elf_f (Bool.eq_false_iff.mpr h)]; omega
/-- a number more in the set -/
theorem elf_ins {m v : Nat} (hv : v < 9) (h : tb m v = false) : ∃ L1 L2, elf (tb m) 9 0 = L1 ++ L2 ∧ elf (tb (m ||| 2 ^ v)) 9 0 = L1 ++ v :: L2 ∧ (∀ x, x ∈ L1 → x < v) ∧ ∀ x, x ∈ L2 → v < x ∧ x < 9 := by
  have hne : ∀ j, j ≠ v → tb (m ||| 2 ^ v) j = tb m j := fun j hj => by
    rw [tb_or, tb_pow, show (v == j) = false by simp; omega, Bool.or_false]
  refine ⟨elf (tb m) v 0, elf (tb m) (8 - v) (v + 1), ?_, ?_, fun x hx => by have := elf_lt _ _ _ hx; omega, fun x hx => by have := elf_lt _ _ _ hx; omega⟩
  · have := elf_split (tb m) v (9 - v) 0
    rw [show v + (9 - v) = 9 by omega, show 9 - v = (8 - v) + 1 by omega, Nat.zero_add, elf_f h] at this
    exact this
  · have := elf_split (tb (m ||| 2 ^ v)) v (9 - v) 0
    rw [show v + (9 - v) = 9 by omega, show 9 - v = (8 - v) + 1 by omega, Nat.zero_add, elf_t (f := tb (m ||| 2 ^ v)) (r := 8 - v) (k := v) (by rw [tb_or, tb_pow]; simp)] at this
    rw [this, elf_congr v 0 (fun j _ hj => hne j (by omega)), elf_congr (8 - v) (v + 1) (fun j hj _ => hne j (by omega))]
theorem elf_mem {f : Nat → Bool} {v : Nat} : ∀ r k, k ≤ v → v < k + r → f v = true → v ∈ elf f r k := by
  intro r
  induction r with
  | zero => intro k h1 h2; omega
  | succ r ih =>
    intro k h1 h2 hf
    by_cases e : v = k
    · subst e; rw [elf_t hf]; exact List.mem_cons_self
    · have := ih (k + 1) (by omega) (by omega) hf
      by_cases h : f k = true
      · rw [elf_t h]; exact List.mem_cons_of_mem _ this
      · rw [elf_f (Bool.eq_false_iff.mpr h)]; exact this
def FN (i a : Nat) (τ υ : St) : Prop := ∀ p g, ¬ (p = 48 ∧ 56 * a + 8 * i ≤ g ∧ g < 56 * a + 8 * i + 8) → ¬ (p = 49 ∧ g = 7 * a + i) → υ p g = τ p g
theorem r_end (N : Nat) (hN : 9 ≤ N) {i a v m : Nat} (hi : i < 6) (ha : a < 3) (hv : v < 9) {τ : St} (h : EN τ i a (elf (tb m) 9 0)) (hlen : (elf (tb m) 9 0).length < 8) : ∃ υ, f_X4_end N (nI i) (nI a) (nI v) τ = some υ ∧ EN υ i a (elf (tb (m ||| 2 ^ v)) 9 0) ∧ (elf (tb (m ||| 2 ^ v)) 9 0).length ≤ (elf (tb m) 9 0).length + 1 ∧ FN i a τ υ := by
  have hl0 : ∀ j, j < (elf (tb m) 9 0).length → (elf (tb m) 9 0).getD j 0 < 9 ∧ τ 48 (56 * a + 8 * i + j) = nI ((elf (tb m) 9 0).getD j 0) := fun j hj => by
    have e : (elf (tb m) 9 0)[j]? = some ((elf (tb m) 9 0).getD j 0) := by
      rw [List.getD_eq_getElem?_getD, List.getElem?_eq_getElem hj]; rfl
    refine ⟨?_, h.2 j _ e⟩
    have := elf_lt 9 0 _ (List.mem_of_getElem? e)
    omega
  have e27 := r_27 N hN hi ha (show v < 100 by omega) hlen (l := fun j => (elf (tb m) 9 0).getD j 0) (fun j hj => by have := (hl0 j hj).1; omega) (fun j hj => (hl0 j hj).2) (nI i) (nI a) (nI v) (elf (tb m) 9 0).length 0 N (by omega) (by omega)
  have e0 : f_X4_end N (nI i) (nI a) (nI v) τ = lp_X4_end_27 N (nI i) (nI a) (nI v) N (nI i) (nI a) (nI v) (nI (56 * a + 8 * i)) (nI (elf (tb m) 9 0).length) (nI 0) τ := by
    unfold f_X4_end
    rw [show (7 : Int32) * nI a = nI (7 * a) from q_mul 7 a, nI_add, if_pos (q_inb (by omega) (by decide)), q_ix (by omega), h.1, show (56 : Int32) * nI a = nI (56 * a) from q_mul 56 a, show (8 : Int32) * nI i = nI (8 * i) from q_mul 8 i, nI_add]; rfl
  rw [e0, e27]
  by_cases hb : tb m v = true
  · have hm : m ||| 2 ^ v = m ∨ True := Or.inr trivial
    have hin : be (fun j => (elf (tb m) 9 0).getD j 0 == v) (elf (tb m) 9 0).length 0 = true := by
      rw [be_iff]
      obtain ⟨j, hj⟩ := List.getElem?_of_mem (elf_mem (f := tb m) (v := v) 9 0 (by omega) (by omega) hb)
      have hjl : j < (elf (tb m) 9 0).length := by
        refine Nat.lt_of_not_le fun hh => ?_
        rw [List.getElem?_eq_none hh] at hj; cases hj
      exact ⟨j, by omega, by omega, by rw [List.getD_eq_getElem?_getD, hj]; simp⟩
    have hs : elf (tb (m ||| 2 ^ v)) 9 0 = elf (tb m) 9 0 := elf_congr 9 0 fun j _ _ => by
      rw [tb_or, tb_pow]
      by_cases e : v = j
      · subst e; rw [hb]; rfl
      · rw [show (v == j) = false by simp [e], Bool.or_false]
    rw [if_pos hin, hs]
    exact ⟨τ, rfl, h, by omega, fun _ _ _ _ => rfl⟩
  · have hb' := Bool.eq_false_iff.mpr hb
    have hin : ¬ be (fun j => (elf (tb m) 9 0).getD j 0 == v) (elf (tb m) 9 0).length 0 = true := by
      rw [be_iff]
      rintro ⟨j, -, hj, hj2⟩
      have e : (elf (tb m) 9 0)[j]? = some ((elf (tb m) 9 0).getD j 0) := by
        rw [List.getD_eq_getElem?_getD, List.getElem?_eq_getElem (by omega)]; rfl
      have := elf_lt 9 0 _ (List.mem_of_getElem? e)
      rw [beq_iff_eq] at hj2
      rw [hj2, hb'] at this
      cases this.2.2
    rw [if_neg hin]
    obtain ⟨L1, L2, g1, g2, g3, g4⟩ := elf_ins hv hb'
    have hlen2 : (elf (tb m) 9 0).length = L1.length + L2.length := by rw [g1, List.length_append]
    obtain ⟨υ, u1, u2, u3, u4⟩ := r_59 N (i := i) (a := a) (v := v) (n := (elf (tb m) 9 0).length) (c := L1.length) hi ha (by omega) hlen (l := fun j => (elf (tb m) 9 0).getD j 0) (t := fun j => (L1 ++ v :: L2).getD j 0) (fun j hj => by have := (hl0 j hj).1; omega)
      (fun j hj => by
        have e1 : (L1 ++ v :: L2).getD j 0 = L1.getD j 0 := by simp [List.getD_eq_getElem?_getD, List.getElem?_append_left hj]
        have e2 : (elf (tb m) 9 0).getD j 0 = L1.getD j 0 := by rw [g1]; simp [List.getD_eq_getElem?_getD, List.getElem?_append_left hj]
        refine ⟨by show (L1 ++ v :: L2).getD j 0 = _; rw [e1, e2], ?_⟩
        have e3 : L1[j]? = some (L1.getD j 0) := by rw [List.getD_eq_getElem?_getD, List.getElem?_eq_getElem hj]; rfl
        have := g3 _ (List.mem_of_getElem? e3)
        show (elf (tb m) 9 0).getD j 0 ≤ v
        rw [e2]; omega)
      (by show (L1 ++ v :: L2).getD L1.length 0 = v; simp [List.getD_eq_getElem?_getD])
      (fun j h1 h2 => by
        have e1 : (L1 ++ v :: L2).getD j 0 = L2.getD (j - L1.length - 1) 0 := by
          rw [List.getD_eq_getElem?_getD, List.getElem?_append_right (by omega), show j - L1.length = (j - L1.length - 1) + 1 by omega, List.getElem?_cons_succ, ← List.getD_eq_getElem?_getD]
          rw [show j - L1.length - 1 + 1 - 1 = j - L1.length - 1 by omega]
        have e2 : (elf (tb m) 9 0).getD (j - 1) 0 = L2.getD (j - L1.length - 1) 0 := by
          rw [g1, List.getD_eq_getElem?_getD, List.getElem?_append_right (by omega), ← List.getD_eq_getElem?_getD, show j - 1 - L1.length = j - L1.length - 1 by omega]
        refine ⟨by show (L1 ++ v :: L2).getD j 0 = _; rw [e1, e2], ?_⟩
        have e3 : L2[j - L1.length - 1]? = some (L2.getD (j - L1.length - 1) 0) := by rw [List.getD_eq_getElem?_getD, List.getElem?_eq_getElem (by omega)]; rfl
        have := g4 _ (List.mem_of_getElem? e3)
        show v < (elf (tb m) 9 0).getD (j - 1) 0
        rw [e2]; omega)
      (by omega) (nI i) (nI a) (nI v) L2.length (elf (tb m) 9 0).length N τ (by omega) (by omega) (by omega) (fun j hj => (hl0 j hj).2) (fun j h1 h2 => by omega)
    refine ⟨υ, u1, ⟨?_, fun k e hk => ?_⟩, ?_, u4⟩
    · rw [u3, g2, hlen2, List.length_append, List.length_cons]; congr 1
    · rw [g2] at hk
      have hkl : k < (L1 ++ v :: L2).length := by
        refine Nat.lt_of_not_le fun hh => ?_
        rw [List.getElem?_eq_none hh] at hk; cases hk
      rw [List.length_append, List.length_cons] at hkl
      rw [u2 k (by omega)]
      congr 1
      rw [List.getD_eq_getElem?_getD, hk]; rfl
    · rw [g2, hlen2, List.length_append, List.length_cons]; omega
