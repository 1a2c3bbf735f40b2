/-! layer 2: what holds between two calls -/
theorem rank_at {n p : Nat} {rk : Nat → Nat} {un : Nat → Bool} (hp : p < n) (hu : un p = true) (hr : rk p ≤ 9) : ∃ X Y, ordL n rk un = X ++ p :: Y ∧ p ∉ X ∧ X.length = up (befT rk un p) n 0 := by
  have h1 := catL_split n rk un (rk p) (10 - rk p) 0
  rw [show rk p + (10 - rk p) = 10 by omega, Nat.zero_add, show 10 - rk p = (9 - rk p) + 1 by omega] at h1
  have h3 : catL n rk un (9 - rk p + 1) (rk p) = bkt n rk un (rk p) ++ catL n rk un (9 - rk p) (rk p + 1) := rfl
  have h2 := elf_split (fun i => un i && rk i == rk p) p (n - p) 0
  rw [show p + (n - p) = n by omega, Nat.zero_add, show n - p = (n - p - 1) + 1 by omega, elf_t (f := fun i => un i && rk i == rk p) (k := p) (by simp [hu])] at h2
  refine ⟨catL n rk un (rk p) 0 ++ elf (fun i => un i && rk i == rk p) p 0, elf (fun i => un i && rk i == rk p) (n - p - 1) (p + 1) ++ catL n rk un (9 - rk p) (rk p + 1), ?_, ?_, ?_⟩
  · show catL n rk un 10 0 = _
    rw [h1, h3, bkt, h2]; simp
  · intro h
    rw [List.mem_append] at h
    rcases h with h | h
    · have := catL_mem _ _ h; omega
    · have := elf_lt _ _ _ h; omega
  · rw [List.length_append, catL_length, elf_length]
    have e : up (fun j => if (un j && rk j == rk p) = true then 1 else 0) p 0 = up (fun j => if (un j = true ∧ rk j = rk p) ∧ j < p then 1 else 0) n 0 := by
      have := up_split (fun j => if (un j = true ∧ rk j = rk p) ∧ j < p then 1 else 0) p (n - p) 0
      rw [show p + (n - p) = n by omega, up_zero (f := fun j => if (un j = true ∧ rk j = rk p) ∧ j < p then 1 else 0) (n - p) (0 + p) (fun j h1 h2 => by rw [if_neg (by omega)])] at this
      rw [this, Nat.add_zero]
      exact up_congr p 0 fun j _ hj => by
        by_cases e1 : un j = true ∧ rk j = rk p
        · rw [if_pos (by simp [e1.1, e1.2]), if_pos ⟨e1, by omega⟩]
        · rw [if_neg (by simpa using e1), if_neg (fun h => e1 h.1)]
    rw [e, up_add]
    refine up_congr n 0 fun j _ _ => ?_
    unfold befT
    by_cases hu : un j = true
    · by_cases e1 : rk j < rk p
      · rw [if_pos ⟨hu, by omega, by omega⟩, if_neg (by omega), if_pos ⟨hu, Or.inl e1⟩]
      · rw [if_neg (by omega)]
        by_cases e2 : rk j = rk p ∧ j < p
        · rw [if_pos ⟨⟨hu, e2.1⟩, e2.2⟩, if_pos ⟨hu, Or.inr e2⟩]
        · rw [if_neg (fun h => e2 ⟨h.1.2, h.2⟩), if_neg (fun h => h.2.elim e1 e2)]
    · rw [if_neg (fun h => hu h.1), if_neg (fun h => hu h.1.1), if_neg (fun h => hu h.1)]
def AI (c : CT) (rk : Nat → Nat) (pk : Nat → Int32) (V : PV) : Prop := CTok c ∧ (∀ i, xN c ≤ i → xL c i = -1 ∧ rk i = 0 ∧ pk i = -1 ∧ xM c i = 0) ∧ (∀ i, rk i ≤ 9 ∧ (pk i = -1 ∨ 0 ≤ pk i)) ∧ SZ V ∧ DV (xS c) V ∧ NP (xN c) V
def PC (c : CT) (rk : Nat → Nat) (pk : Nat → Int32) (σ : St) (i : Nat) : Prop := (i < xN c → PS σ (5 + i) (xS c i) ∧ σ (5 + i) 3 = nI (xW c i)) ∧ σ (5 + i) 5 = xL c i ∧ (∃ m, m < 64 ∧ σ (5 + i) 4 = nI m ∧ ∀ w, w < 6 → tb m w = lt (xM c i) (xS c i) w) ∧ σ (5 + i) 6 = nI (rk i) ∧ σ (5 + i) 7 = pk i
def CI (c : CT) (rk : Nat → Nat) (pk : Nat → Int32) (cl sd : Nat) (al : Bool) (V : PV) (σ : St) : Prop := σ 0 4 = nI (xN c) ∧ σ 0 6 = nI (xSh c) ∧ σ 0 7 = nI cl ∧ σ 0 9 = nI sd ∧ σ 0 12 = bI al ∧ BX σ 2 0 (xB c) ∧ BX σ 3 0 (xB c) ∧ (∀ i, i < 6 → PC c rk pk σ i) ∧ CV σ 0 V ∧ CWt σ 0 V (xW c) ∧ ∀ i, i < 6 → σ (19 + i) 0 = 0
def RPc (c : CT) (rk : Nat → Nat) (pk : Nat → Int32) (σ : St) (i : Nat) : Prop := (i < xN c → RS σ i (xS c i) ∧ σ 27 i = nI (xW c i) ∧ σ 29 i = xL c i ∧ σ 31 i = pk i) ∧ σ 28 i = nI (xM c i) ∧ σ 30 i = nI (rk i)
def RI (c : CT) (rk : Nat → Nat) (pk : Nat → Int32) (cl sd : Nat) (al : Bool) (V : PV) (σ : St) : Prop := RN σ (xN c) ∧ BX σ 25 1 (xB c) ∧ σ 25 11 = nI (xSh c) ∧ σ 25 12 = nI cl ∧ σ 25 26 = nI sd ∧ σ 25 27 = bI al ∧ (∀ i, i < 6 → RPc c rk pk σ i) ∧ RV σ V
def FCl (σ τ : St) : Prop := ∀ p f, 25 ≤ p → p ≤ 50 → τ p f = σ p f
def FRf (σ τ : St) : Prop := ∀ p f, (p < 25 ∨ p = 51) → τ p f = σ p f
theorem PC.fr {c : CT} {rk : Nat → Nat} {pk : Nat → Int32} {σ τ : St} {i : Nat} (h : PC c rk pk σ i) (k : ∀ f, τ (5 + i) f = σ (5 + i) f) : PC c rk pk τ i := by
  unfold PC PS at *
  simp only [k]; exact h
theorem CI.fr {c : CT} {rk : Nat → Nat} {pk : Nat → Int32} {cl sd : Nat} {al : Bool} {V : PV} {σ τ : St} (h : CI c rk pk cl sd al V σ) (k : ∀ p f, p < 25 → ¬ (13 ≤ p ∧ f = 10) → τ p f = σ p f) : CI c rk pk cl sd al V τ := by
  obtain ⟨h1, h2, h3, h4, h5, ⟨b0, b1, b2, b3⟩, ⟨d0, d1, d2, d3⟩, h8, h9, h10, h11⟩ := h
  refine ⟨(k _ _ (by omega) (by omega)).trans h1, (k _ _ (by omega) (by omega)).trans h2, (k _ _ (by omega) (by omega)).trans h3, (k _ _ (by omega) (by omega)).trans h4, (k _ _ (by omega) (by omega)).trans h5, ⟨(k _ _ (by omega) (by omega)).trans b0, (k _ _ (by omega) (by omega)).trans b1, (k _ _ (by omega) (by omega)).trans b2, b3⟩, ⟨(k _ _ (by omega) (by omega)).trans d0, (k _ _ (by omega) (by omega)).trans d1, (k _ _ (by omega) (by omega)).trans d2, d3⟩, fun i hi => (h8 i hi).fr fun f => k _ _ (by omega) (by omega), h9.fr fun p f _ _ _ => k p f (by omega) (by omega), h10.fr fun p f _ _ _ => k p f (by omega) (by omega), fun i hi => (k _ _ (by omega) (by omega)).trans (h11 i hi)⟩
theorem RI.fr {c : CT} {rk : Nat → Nat} {pk : Nat → Int32} {cl sd : Nat} {al : Bool} {V : PV} {σ τ : St} (h : RI c rk pk cl sd al V σ) (k : ∀ p f, 25 ≤ p → p ≤ 38 → ¬ (p = 25 ∧ f = 0) → ¬ (p = 25 ∧ f = 28) → τ p f = σ p f) : RI c rk pk cl sd al V τ := by
  obtain ⟨⟨h1, h1'⟩, ⟨b0, b1, b2, b3⟩, h3, h4, h5, h6, h7, h8⟩ := h
  refine ⟨⟨(k _ _ (by omega) (by omega) (by omega) (by omega)).trans h1, h1'⟩, ⟨(k _ _ (by omega) (by omega) (by omega) (by omega)).trans b0, (k _ _ (by omega) (by omega) (by omega) (by omega)).trans b1, (k _ _ (by omega) (by omega) (by omega) (by omega)).trans b2, b3⟩, (k _ _ (by omega) (by omega) (by omega) (by omega)).trans h3, (k _ _ (by omega) (by omega) (by omega) (by omega)).trans h4, (k _ _ (by omega) (by omega) (by omega) (by omega)).trans h5, (k _ _ (by omega) (by omega) (by omega) (by omega)).trans h6, fun i hi => ?_, h8.fe (i := 0) fun p g _ _ => k p g (by omega) (by omega) (by omega) (by omega)⟩
  have k' : ∀ p f, 26 ≤ p → p ≤ 38 → τ p f = σ p f := fun p f _ _ => k p f (by omega) (by omega) (by omega) (by omega)
  obtain ⟨g1, g2, g3⟩ := h7 i hi
  refine ⟨fun hn => ?_, (k' _ _ (by omega) (by omega)).trans g2, (k' _ _ (by omega) (by omega)).trans g3⟩
  obtain ⟨⟨s0, s1, s2⟩, q1, q2, q3⟩ := g1 hn
  exact ⟨⟨(k' _ _ (by omega) (by omega)).trans s0, (k' _ _ (by omega) (by omega)).trans s1, (k' _ _ (by omega) (by omega)).trans s2⟩, (k' _ _ (by omega) (by omega)).trans q1, (k' _ _ (by omega) (by omega)).trans q2, (k' _ _ (by omega) (by omega)).trans q3⟩
/-- what holds before a call of the law; k: how many calls there were -/
def Good (k : Nat) (σ : St) : Prop := ∃ c rk pk cl sd al V, AI c rk pk V ∧ CI c rk pk cl sd al V σ ∧ RI c rk pk cl sd al V σ ∧ cl ≤ k
/-! arguments -/
theorem arg_case (a : Int32) {n : Nat} (hn : n ≤ 6) : (∃ p, p < n ∧ a = nI p) ∨ a < 0 ∨ (¬ a < 0 ∧ ¬ a < nI n) := by
  by_cases h0 : a < 0
  · exact Or.inr (Or.inl h0)
  · by_cases h1 : a < nI n
    · obtain ⟨j, hj, rfl⟩ := nI_of h0
      exact Or.inl ⟨j, (nI_ltI hj (by omega)).mp h1, rfl⟩
    · exact Or.inr (Or.inr ⟨h0, h1⟩)
theorem rng_case (a : Int32) (M : Nat) (hM : M < 2 ^ 31) : (∃ m, m ≤ M ∧ a = nI m) ∨ a < 0 ∨ (¬ a < 0 ∧ ¬ a ≤ nI M) := by
  by_cases h0 : a < 0
  · exact Or.inr (Or.inl h0)
  · by_cases h1 : a ≤ nI M
    · obtain ⟨j, hj, rfl⟩ := nI_of h0
      exact Or.inl ⟨j, (nI_leI hj hM).mp h1, rfl⟩
    · exact Or.inr (Or.inr ⟨h0, h1⟩)
theorem c_known_in (N : Nat) {σ : St} {n p : Nat} (h : σ 0 4 = nI n) (hn : n ≤ 6) (hp : p < n) : f_X3_known N (nI p) σ = some (.inl (5 + p, σ)) := by
  unfold f_X3_known
  rw [if_neg (nI_pos (by omega)), h, if_pos ((nI_ltI (by omega) (by omega)).mpr hp), if_pos (q_inb (by omega) (by decide)), q_ix (by omega)]
theorem c_known_out (N : Nat) {σ : St} {n : Nat} {a : Int32} (h : σ 0 4 = nI n) (ha : a < 0 ∨ (¬ a < 0 ∧ ¬ a < nI n)) : f_X3_known N a σ = some (.inr ("java/util/NoSuchElementException", σ)) := by
  unfold f_X3_known
  rcases ha with ha | ⟨h1, h2⟩
  · rw [if_pos ha]
  · rw [if_neg h1, h, if_neg h2]
theorem c_spot_in (N : Nat) {σ : St} {n p : Nat} (h : σ 0 4 = nI n) (hn : n ≤ 6) (hp : p < n) : f_X3_spotOf N (nI p) σ = some (.inl (13 + 6 * 0 + p, σ)) := by
  unfold f_X3_spotOf
  rw [if_neg (nI_pos (by omega)), h, if_pos ((nI_ltI (by omega) (by omega)).mpr hp), if_pos (q_inb (by omega) (by decide)), q_ix (by omega)]
theorem c_spot_out (N : Nat) {σ : St} {n : Nat} {a : Int32} (h : σ 0 4 = nI n) (ha : a < 0 ∨ (¬ a < 0 ∧ ¬ a < nI n)) : f_X3_spotOf N a σ = some (.inr ("java/util/NoSuchElementException", σ)) := by
  unfold f_X3_spotOf
  rcases ha with ha | ⟨h1, h2⟩
  · rw [if_pos ha]
  · rw [if_neg h1, h, if_neg h2]
theorem r_noP_in (N : Nat) {σ : St} {n p : Nat} (h : RN σ n) (hp : p < n) : f_X4_noPiece N (nI p) σ = some (0, σ) := by
  have := h.2
  unfold f_X4_noPiece
  rw [if_neg (nI_pos (by omega)), h.1, if_pos ((nI_ltI (by omega) (by omega)).mpr hp)]
theorem r_noP_out (N : Nat) {σ : St} {n : Nat} {a : Int32} (h : RN σ n) (ha : a < 0 ∨ (¬ a < 0 ∧ ¬ a < nI n)) : f_X4_noPiece N a σ = some (1, σ) := by
  unfold f_X4_noPiece
  rcases ha with ha | ⟨h1, h2⟩
  · rw [if_pos ha]
  · rw [if_neg h1, h.1, if_neg h2]
theorem r_not_in (N : Nat) (σ : St) {m M : Nat} (hm : m ≤ M) (hM : M < 2 ^ 31) : f_X4_not N (nI m) 0 (nI M) σ = some (0, σ) := by
  unfold f_X4_not
  rw [if_neg (nI_pos (by omega)), if_pos ((nI_leI (by omega) (by omega)).mpr hm)]
theorem r_not_out (N : Nat) (σ : St) {a : Int32} {M : Nat} (ha : a < 0 ∨ (¬ a < 0 ∧ ¬ a ≤ nI M)) : f_X4_not N a 0 (nI M) σ = some (1, σ) := by
  unfold f_X4_not
  rcases ha with ha | ⟨h1, h2⟩
  · rw [if_pos ha]
  · rw [if_neg h1, if_neg h2]
theorem bt_l {α β : Type} (a : α) (τ : St) (f : α → St → Option (β ⊕ (String × St))) : bt (some (.inl (a, τ))) f = f a τ := rfl
theorem bt_r {α β : Type} (e : String) (τ : St) (f : α → St → Option (β ⊕ (String × St))) : bt (some (.inr (e, τ)) : Option ((α × St) ⊕ (String × St))) f = some (.inr (e, τ)) := rfl
theorem bhI_l {β : Type} (a : Int32) (τ : St) (f : Int32 → St → Option β) (h : String → St → Option β) : bhI (some (.inl (a, τ))) f h = f a τ := rfl
theorem bhI_r {β : Type} (e : String) (τ : St) (f : Int32 → St → Option β) (h : String → St → Option β) : bhI (some (.inr (e, τ))) f h = h e τ := rfl
theorem bhV_l {β : Type} (τ : St) (f : St → Option β) (h : String → St → Option β) : bhV (some (.inl τ)) f h = f τ := rfl
theorem bhV_r {β : Type} (e : String) (τ : St) (f : St → Option β) (h : String → St → Option β) : bhV (some (.inr (e, τ))) f h = h e τ := rfl
theorem lg_same (x : Int64) : lg_cmp x x = 0 := by
  unfold lg_cmp
  rw [if_neg (Int64.lt_irrefl), if_pos rfl]
/-- the law's comparison, where both answer alike -/
theorem fin_out (N : Nat) (kont : Int32 → St → Option Int32) (v r1 r2 : Int32) (τ2 : St) (hth : τ2 25 0 = r1) (ho : r1 = 0 → τ2 51 0 = r2) : (bn (f_X4_thrown N τ2) fun r_3 τ_3 => if r_3 = r1 then if r1 = 0 then if (lg_cmp (((τ_3 51 (ix 0))) : Int32).toInt64 ((r2) : Int32).toInt64) = 0 then kont v τ_3 else some 0 else kont v τ_3 else some 0) = kont v τ2 := by
  unfold f_X4_thrown
  rw [bn_some, if_pos hth]
  by_cases h : r1 = 0
  · rw [if_pos h, show ix 0 = 0 from rfl, ho h, lg_same, if_pos rfl]
  · rw [if_neg h]
theorem fin_no (N : Nat) (kont : Int32 → St → Option Int32) (v r1 : Int32) (τ2 : St) (hth : τ2 25 0 = r1) : (bn (f_X4_thrown N τ2) fun r_3 τ_3 => if r_3 = r1 then kont v τ_3 else some 0) = kont v τ2 := by
  unfold f_X4_thrown
  rw [bn_some, if_pos hth]
/-- a call that changes nothing but what it answers -/
theorem good_q {k : Nat} {σ τ : St} (h : Good k σ) (hc : ∀ p f, p < 51 → ¬ (13 ≤ p ∧ p < 25 ∧ f = 10) → ¬ (p = 25 ∧ f = 0) → ¬ (p = 25 ∧ f = 28) → ¬ (39 ≤ p) → τ p f = σ p f) : Good (k + 1) τ := by
  obtain ⟨c, rk, pk, cl, sd, al, V, h1, h2, h3, h4⟩ := h
  exact ⟨c, rk, pk, cl, sd, al, V, h1, h2.fr fun p f e1 e2 => hc p f (by omega) (by omega) (by omega) (by omega) (by omega), h3.fr fun p f e1 e2 e3 e4 => hc p f (by omega) (by omega) (by omega) (by omega) (by omega), by omega⟩
