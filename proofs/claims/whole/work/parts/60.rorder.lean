/-! layer 2: the reference's order -/
def RU (τ : St) (n : Nat) (rk : Nat → Nat) (un : Nat → Bool) : Prop := RN τ n ∧ ∀ i, i < n → τ 30 i = nI (rk i) ∧ rk i ≤ 9 ∧ (0 ≤ τ 31 i ↔ un i = false)
theorem RU.fr {τ υ : St} {n : Nat} {rk : Nat → Nat} {un : Nat → Bool} (h : RU τ n rk un) (k : ∀ p f, (p = 25 ∧ f = 4 ∨ p = 30 ∨ p = 31) → υ p f = τ p f) : RU υ n rk un := ⟨⟨(k _ _ (by omega)).trans h.1.1, h.1.2⟩, fun i hi => ⟨(k _ _ (by omega)).trans (h.2 i hi).1, (h.2 i hi).2.1, by rw [k _ _ (by omega)]; exact (h.2 i hi).2.2⟩⟩
def OR (τ : St) (L : List Nat) : Prop := τ 25 28 = nI L.length ∧ ∀ j p, L[j]? = some p → τ 43 j = nI p
theorem r_fo29 (N : Nat) {n v m c : Nat} {rk : Nat → Nat} {un : Nat → Bool} (hv : v < n) (hm : m < 6) {l t : Nat → Nat} (hl : ∀ j, j < m → l j < n) (H1 : ∀ j, j < c → t j = l j ∧ rk (l j) ≤ rk v) (H2 : t c = v) (H3 : ∀ j, c < j → j ≤ m → t j = l (j - 1) ∧ rk v < rk (l (j - 1))) (hc : c ≤ m) (kk : Int32 → St → Option St) :
    ∀ r k f τ, RU τ n rk un → k = c + r → k ≤ m → r < f → τ 25 28 = nI m → (∀ j, j < k → τ 43 j = nI (l j)) → (∀ j, k < j → j ≤ m → τ 43 j = nI (t j)) →
    ∃ υ, lp_X4_findOrder_29 N kk f (nI v) (nI k) τ = kk (nI (v + 1)) υ ∧ (∀ j, j ≤ m → υ 43 j = nI (t j)) ∧ υ 25 28 = nI (m + 1) ∧ ∀ p g, ¬ (p = 43) → ¬ (p = 25 ∧ g = 28) → υ p g = τ p g := by
  intro r
  induction r with
  | zero =>
    intro k f τ hU hk hkm hf h28 h1 h2
    obtain ⟨f, rfl, -⟩ := fuel1 hf
    have hn := hU.1.2
    have hk' : k = c := hk
    subst hk'
    have fin : (if inb (nI k) 6 = true then kk (nI v + 1) (su (su τ 43 (ix (nI k)) (nI v)) 25 28 (((su τ 43 (ix (nI k)) (nI v)) 25 28) + 1)) else none) = kk (nI (v + 1)) (su (su τ 43 k (nI v)) 25 28 (nI (m + 1))) := by
      rw [if_pos (q_inb (by omega) (by decide)), q_ix (by omega), nI_1, su_ne _ _ (by omega), h28, nI_1]
    have hw : lp_X4_findOrder_29 N kk (f + 1) (nI v) (nI k) τ = kk (nI (v + 1)) (su (su τ 43 k (nI v)) 25 28 (nI (m + 1))) := by
      by_cases e : k = 0
      · simp only [lp_X4_findOrder_29]
        rw [if_pos (by rw [q_le0 (by omega)]; exact e)]
        exact fin
      · have hl1 := (H1 (k - 1) (by omega)).2
        have hl2 := hl (k - 1) (by omega)
        have ek : nI k - 1 = nI (k - 1) := by
          have := nI_pred (k - 1)
          rwa [show k - 1 + 1 = k by omega] at this
        have b1 := (hU.2 (l (k - 1)) hl2).2.1
        have b2 := (hU.2 v hv).2.1
        simp only [lp_X4_findOrder_29]
        rw [if_neg (by rw [q_le0 (by omega)]; exact e), ek, if_pos (q_inb (by omega) (by decide)), q_ix (by omega), h1 (k - 1) (by omega), if_pos (q_inb (by omega) (by decide)), if_pos (q_inb (by omega) (by decide)), q_ix (by omega), q_ix (by omega), (hU.2 _ hl2).1, (hU.2 v hv).1, if_pos (by rw [q_le (by omega) (by omega)]; exact hl1)]
        exact fin
    refine ⟨_, hw, fun j hj => ?_, su_same _ _ _ _, fun p g e1 e2 => ?_⟩
    · rw [su_ne _ _ (by omega)]
      by_cases e : j = k
      · subst e; rw [su_same, H2]
      · rw [su_ne _ _ (by omega)]
        by_cases lt : j < k
        · rw [h1 j lt, (H1 j lt).1]
        · exact h2 j (by omega) hj
    · rw [su_ne _ _ (by omega), su_ne _ _ (by omega)]
  | succ r ih =>
    intro k f τ hU hk hkm hf h28 h1 h2
    obtain ⟨f, rfl, hf⟩ := fuel1 hf
    have hn := hU.1.2
    have h3 := H3 k (by omega) hkm
    have ek : nI k - 1 = nI (k - 1) := by
      have := nI_pred (k - 1)
      rwa [show k - 1 + 1 = k by omega] at this
    have hl2 := hl (k - 1) (by omega)
    have b1 := (hU.2 (l (k - 1)) hl2).2.1
    have b2 := (hU.2 v hv).2.1
    simp only [lp_X4_findOrder_29]
    rw [if_neg (by rw [q_le0 (by omega)]; omega), ek, if_pos (q_inb (by omega) (by decide)), q_ix (by omega), h1 (k - 1) (by omega), if_pos (q_inb (by omega) (by decide)), if_pos (q_inb (by omega) (by decide)), q_ix (by omega), q_ix (by omega), (hU.2 _ hl2).1, (hU.2 v hv).1, if_neg (by rw [q_le (by omega) (by omega)]; omega), if_pos (q_inb (by omega) (by decide)), if_pos (q_inb (by omega) (by decide)), q_ix (by omega), q_pred (by omega)]
    obtain ⟨υ, u1, u2, u3, u4⟩ := ih (k - 1) f (su τ 43 k (nI (l (k - 1)))) (hU.fr fun p g e => su_ne _ _ (by omega)) (by omega) (by omega) (by omega) ((su_ne _ _ (by omega)).trans h28) (fun j hj => by rw [su_ne _ _ (by omega)]; exact h1 j (by omega)) (fun j hj hjn => by
      by_cases e : j = k
      · subst e; rw [su_same, h3.1]
      · rw [su_ne _ _ (by omega)]; exact h2 j (by omega) hjn)
    exact ⟨υ, u1, u2, u3, fun p g e1 e2 => by rw [u4 p g e1 e2, su_ne _ _ (by omega)]⟩
theorem getD_at {L : List Nat} {j : Nat} (h : j < L.length) : L[j]? = some (L.getD j 0) := getD_mem h
theorem r_fo7 (N : Nat) (hN : 9 ≤ N) {n : Nat} {rk : Nat → Nat} {un : Nat → Bool} : ∀ r k f τ, RU τ n rk un → OR τ (ordL k rk un) → k + r = n → r < f → ∃ υ, lp_X4_findOrder_7 N f (nI k) τ = some υ ∧ OR υ (ordL n rk un) ∧ ∀ p g, ¬ (p = 43) → ¬ (p = 25 ∧ g = 28) → υ p g = τ p g := by
  intro r
  induction r with
  | zero =>
    intro k f τ hU hO hk hf
    obtain ⟨f, rfl, -⟩ := fuel1 hf
    have hn := hU.1.2
    have e : k = n := by omega
    subst e
    refine ⟨τ, ?_, hO, fun _ _ _ _ => rfl⟩
    simp only [lp_X4_findOrder_7, qnT hU.1 (Nat.le_refl _) (by omega), ↓reduceIte]
  | succ r ih =>
    intro k f τ hU hO hk hf
    obtain ⟨f, rfl, hf⟩ := fuel1 hf
    have hn := hU.1.2
    have hk6 : k < 6 := by omega
    have hkn : k < n := by omega
    simp only [lp_X4_findOrder_7, qnF hU.1 hkn, qiT hk6, qix hk6, nI_1, ↓reduceIte]
    by_cases hu : un k = false
    · rw [if_pos ((hU.2 k hkn).2.2.mpr hu)]
      exact ih (k + 1) f τ hU (by rw [ordL_skip hu]; exact hO) (by omega) (by omega)
    · rw [if_neg (fun h => hu ((hU.2 k hkn).2.2.mp h))]
      have hu' := Bool.of_not_eq_false hu
      obtain ⟨X, Y, e1, e2, e3, e4⟩ := ordL_ins hu' (hU.2 k hkn).2.1
      have hlen := ordL_len k rk un
      have hl2 : (ordL k rk un).length = X.length + Y.length := by rw [e1, List.length_append]
      obtain ⟨υ, u1, u2, u3, u4⟩ := r_fo29 N (n := n) (v := k) (m := (ordL k rk un).length) (c := X.length) (rk := rk) (un := un) hkn (by omega) (l := fun j => (ordL k rk un).getD j 0) (t := fun j => (X ++ k :: Y).getD j 0)
        (fun j hj => by
          have := catL_mem _ _ (List.mem_of_getElem? (getD_at hj))
          show (ordL k rk un).getD j 0 < n
          have h1 : (ordL k rk un).getD j 0 < k := this.1
          omega)
        (fun j hj => by
          have f1 : (X ++ k :: Y).getD j 0 = X.getD j 0 := by simp [List.getD_eq_getElem?_getD, List.getElem?_append_left hj]
          have f2 : (ordL k rk un).getD j 0 = X.getD j 0 := by rw [e1]; simp [List.getD_eq_getElem?_getD, List.getElem?_append_left hj]
          refine ⟨by show (X ++ k :: Y).getD j 0 = _; rw [f1, f2], ?_⟩
          have := e3 _ (List.mem_of_getElem? (getD_at hj))
          show rk ((ordL k rk un).getD j 0) ≤ rk k
          rw [f2]; exact this.2)
        (by show (X ++ k :: Y).getD X.length 0 = k; simp [List.getD_eq_getElem?_getD])
        (fun j h1 h2 => by
          have f1 : (X ++ k :: Y).getD j 0 = Y.getD (j - X.length - 1) 0 := by
            rw [List.getD_eq_getElem?_getD, List.getElem?_append_right (by omega), show j - X.length = (j - X.length - 1) + 1 by omega, List.getElem?_cons_succ, ← List.getD_eq_getElem?_getD]
            rw [show j - X.length - 1 + 1 - 1 = j - X.length - 1 by omega]
          have f2 : (ordL k rk un).getD (j - 1) 0 = Y.getD (j - X.length - 1) 0 := by
            rw [e1, List.getD_eq_getElem?_getD, List.getElem?_append_right (by omega), ← List.getD_eq_getElem?_getD, show j - 1 - X.length = j - X.length - 1 by omega]
          refine ⟨by show (X ++ k :: Y).getD j 0 = _; rw [f1, f2], ?_⟩
          have := e4 _ (List.mem_of_getElem? (getD_at (show j - X.length - 1 < Y.length by omega)))
          show rk k < rk ((ordL k rk un).getD (j - 1) 0)
          rw [f2]; exact this.2)
        (by omega) (fun w1 σ => lp_X4_findOrder_7 N f w1 σ) Y.length (ordL k rk un).length N τ hU (by omega) (by omega) (by omega) hO.1 (fun j hj => hO.2 j _ (getD_at hj)) (fun j h1 h2 => by omega)
      obtain ⟨φ, v1, v2, v3⟩ := ih (k + 1) f υ (hU.fr fun p g e => u4 p g (by omega) (by omega)) ⟨by rw [u3, e2, hl2, List.length_append, List.length_cons]; congr 1, fun j p hp => by
        rw [e2] at hp
        have hj : j < (X ++ k :: Y).length := by
          refine Nat.lt_of_not_le fun hh => ?_
          rw [List.getElem?_eq_none hh] at hp; cases hp
        rw [List.length_append, List.length_cons] at hj
        rw [u2 j (by omega)]
        congr 1
        rw [List.getD_eq_getElem?_getD, hp]; rfl⟩ (by omega) (by omega)
      refine ⟨φ, ?_, v2, fun p g h1 h2 => (v3 p g h1 h2).trans (u4 p g h1 h2)⟩
      rw [hO.1]
      exact u1.trans v1
theorem r_order (N : Nat) (hN : 9 ≤ N) {n : Nat} {rk : Nat → Nat} {un : Nat → Bool} {τ : St} (hU : RU τ n rk un) : ∃ υ, f_X4_findOrder N τ = some υ ∧ OR υ (ordL n rk un) ∧ ∀ p g, ¬ (p = 43) → ¬ (p = 25 ∧ g = 28) → υ p g = τ p g := by
  have hn := hU.1.2
  have h0 : ordL 0 rk un = [] := List.length_eq_zero_iff.mp (by have := ordL_len 0 rk un; omega)
  obtain ⟨υ, u1, u2, u3⟩ := r_fo7 N hN n 0 N (su τ 25 28 0) (hU.fr fun p g e => su_ne _ _ (by omega)) ⟨by rw [su_same, h0]; rfl, fun j p hp => by rw [h0] at hp; cases hp⟩ (by omega) (by omega)
  exact ⟨υ, u1, u2, fun p g h1 h2 => (u3 p g h1 h2).trans (su_ne _ _ (by omega))⟩
/-! rank: a piece's place in the order -/
def befT (rk : Nat → Nat) (un : Nat → Bool) (p j : Nat) : Nat := if un j = true ∧ (rk j < rk p ∨ rk j = rk p ∧ j < p) then 1 else 0
theorem c_pos' (N : Nat) {σ : St} {n p : Nat} {rk : Nat → Nat} {un : Nat → Bool} (hU : CU σ n rk un) (hn : n ≤ 6) (hp : p < n) (c1 : Int32) : ∀ r k f a, k + r = n → r < f → lp_X3_positionOf_5 N (5 + p) c1 f (nI p) (nI a) (nI k) σ = some (nI (a + up (befT rk un p) r k), σ) := by
  have hrp := hU.2 p hp
  intro r
  induction r with
  | zero =>
    intro k f a hk hf
    obtain ⟨f, rfl, -⟩ := fuel1 hf
    simp (disch := omega) only [lp_X3_positionOf_5, hU.1, q_le, show n ≤ k by omega, ↓reduceIte, up, Nat.add_zero]
  | succ r ih =>
    intro k f a hk hf
    obtain ⟨f, rfl, hf⟩ := fuel1 hf
    have hk6 : k < 6 := by omega
    have hrk := hU.2 k (show k < n by omega)
    simp (disch := omega) only [lp_X3_positionOf_5, hU.1, q_le, show ¬ n ≤ k by omega, ↓reduceIte, nI_1, qiT hk6, qix hk6, hrk.1, hrp.1, q_lt, q_eq, c_packed N hU (show k < n by omega), bn_some, bI_0, up]
    have hu : (!un k) = false ↔ un k = true := by cases un k <;> simp
    unfold befT
    by_cases e1 : rk k < rk p
    · rw [if_pos e1]
      by_cases e2 : un k = true
      · rw [if_pos (hu.mpr e2), ih (k + 1) f _ (by omega) (by omega), if_pos ⟨e2, Or.inl e1⟩, Nat.add_assoc]; rfl
      · rw [if_neg (fun h => e2 (hu.mp h)), ih (k + 1) f _ (by omega) (by omega), if_neg (fun h => e2 h.1), Nat.zero_add]; rfl
    · rw [if_neg e1]
      by_cases e3 : rk k = rk p
      · rw [if_pos e3]
        by_cases e4 : p ≤ k
        · rw [if_pos e4, ih (k + 1) f _ (by omega) (by omega), if_neg (fun h => by have := h.2; omega), Nat.zero_add]; rfl
        · rw [if_neg e4]
          by_cases e2 : un k = true
          · rw [if_pos (hu.mpr e2), ih (k + 1) f _ (by omega) (by omega), if_pos ⟨e2, Or.inr ⟨e3, by omega⟩⟩, Nat.add_assoc]; rfl
          · rw [if_neg (fun h => e2 (hu.mp h)), ih (k + 1) f _ (by omega) (by omega), if_neg (fun h => e2 h.1), Nat.zero_add]; rfl
      · rw [if_neg e3, ih (k + 1) f _ (by omega) (by omega), if_neg (fun h => by have := h.2; omega), Nat.zero_add]; rfl
theorem c_pos (N : Nat) (hN : 9 ≤ N) {σ : St} {n p : Nat} {rk : Nat → Nat} {un : Nat → Bool} (hU : CU σ n rk un) (hn : n ≤ 6) (hp : p < n) : f_X3_positionOf N (5 + p) (nI p) σ = some (nI (up (befT rk un p) n 0), σ) := by
  have := c_pos' N hU hn hp (nI p) n 0 N 0 (by omega) (by omega)
  rw [Nat.zero_add] at this; exact this
theorem r_rank53 (N : Nat) {τ : St} {L : List Nat} (hO : OR τ L) (hL : L.length ≤ 6) {p : Nat} (hp : p < 6) (hlt : ∀ x, x ∈ L → x < 6) (c1 c2 v2 : Int32) {X Y : List Nat} (hLX : (L = X ++ p :: Y ∧ p ∉ X) ∨ (L = X ∧ Y = [] ∧ p ∉ X)) : ∀ r k f, k + r = X.length → r < f → (L = X → r + 1 < f ∨ True) → lp_X4_rank_53 N c1 c2 (f + 1) (nI p) v2 (nI k) τ = some (if L = X then -1 else nI X.length, τ) := by
  intro r
  induction r with
  | zero =>
    intro k f hk hf _
    have hk' : k = X.length := by omega
    subst hk'
    rcases hLX with ⟨h1, h2⟩ | ⟨h1, -, h2⟩
    · have hlen : L.length = X.length + (Y.length + 1) := by rw [h1, List.length_append, List.length_cons]
      have hg : L[X.length]? = some p := by rw [h1, List.getElem?_append_right (by omega), Nat.sub_self]; rfl
      have hne : ¬ L = X := fun e => by rw [e] at hlen; omega
      simp only [lp_X4_rank_53]
      rw [if_neg (by rw [hO.1, q_le (by omega) (by omega)]; omega), if_pos (q_inb (by omega) (by decide)), q_ix (by omega), hO.2 _ _ hg, if_pos rfl, if_neg hne]
    · simp only [lp_X4_rank_53]
      rw [if_pos (by rw [hO.1, h1, q_le (by rw [← h1]; omega) (by rw [← h1]; omega)]; omega), if_pos h1]
  | succ r ih =>
    intro k f hk hf ho
    obtain ⟨f, rfl, hf⟩ := fuel1 hf
    have hkX : k < X.length := by omega
    have hLk : L[k]? = some (X.getD k 0) := by
      rcases hLX with ⟨h1, h2⟩ | ⟨h1, -, h2⟩
      · rw [h1, List.getElem?_append_left hkX]; exact getD_at hkX
      · rw [h1]; exact getD_at hkX
    have hXl : X.length ≤ L.length := by
      rcases hLX with ⟨h1, h2⟩ | ⟨h1, -, h2⟩
      · rw [h1, List.length_append]; omega
      · rw [h1]; exact Nat.le_refl _
    have hmem := hlt _ (List.mem_of_getElem? hLk)
    have hpX : p ∉ X := by rcases hLX with ⟨h1, h2⟩ | ⟨h1, -, h2⟩ <;> exact h2
    have hnp : X.getD k 0 ≠ p := fun e => hpX (e ▸ List.mem_of_getElem? (getD_at hkX))
    rw [lp_X4_rank_53]
    rw [if_neg (by rw [hO.1, q_le (by omega) (by omega)]; omega), if_pos (q_inb (by omega) (by decide)), q_ix (by omega), hO.2 _ _ hLk, if_neg (by rw [q_eq (by omega) (by omega)]; exact hnp), nI_1]
    exact ih (k + 1) f (by omega) (by omega) (fun _ => Or.inr trivial)
