/-! layer 2: the reference's pieces; clearing and copying a plan -/
theorem r_from (N : Nat) (σ : St) {w k : Nat} (hw : w < 6) (hk : k < 3) : f_X4_from N (nI w) (nI k) σ = some (nI (fr w k), σ) := by
  rcases lt6 hw with rfl | rfl | rfl | rfl | rfl | rfl <;> rcases lt3 hk with rfl | rfl | rfl <;> rfl
def RS (τ : St) (i : Nat) (s : Nat → Nat) : Prop := τ 26 (3 * i) = nI (s 0) ∧ τ 26 (3 * i + 1) = nI (s 1) ∧ τ 26 (3 * i + 2) = nI (s 2)
theorem RS.at {τ : St} {i : Nat} {s : Nat → Nat} (h : RS τ i s) {k : Nat} (hk : k < 3) : τ 26 (3 * i + k) = nI (s k) := by
  rcases lt3 hk with rfl | rfl | rfl
  · exact h.1
  · exact h.2.1
  · exact h.2.2
theorem r_measure (N : Nat) {τ : St} {i w k : Nat} {s : Nat → Nat} (h : RS τ i s) (hi : i < 6) (hw : w < 6) (hk : k < 3) : f_X4_measure N (nI i) (nI w) (nI k) τ = some (nI (s (fr w k)), τ) := by
  have hf := fr_lt w hw k hk
  unfold f_X4_measure
  rw [r_from N τ hw hk, bn_some, show (3 : Int32) * nI i = nI (3 * i) from q_mul 3 i, nI_add, if_pos (q_inb (by omega) (by decide)), q_ix (by omega), h.at hf]
theorem r_byMarks (N : Nat) {τ : St} {i w m : Nat} (hi : i < 6) (hw : w < 6) (hm : m ≤ 3) (h : τ 28 i = nI m) : f_X4_byMarks N (nI i) (nI w) τ = some (bI (byM m w), τ) := by
  unfold f_X4_byMarks
  simp only [qiT hi, qix hi, ↓reduceIte, h]
  have hm4 : m = 0 ∨ m = 1 ∨ m = 2 ∨ m = 3 := by omega
  rcases lt6 hw with rfl | rfl | rfl | rfl | rfl | rfl <;> rcases hm4 with rfl | rfl | rfl | rfl <;> rfl
theorem r_let29 (N : Nat) {τ : St} {i o w : Nat} {s : Nat → Nat} (h : RS τ i s) (hs : s38 s) (hi : i < 6) (hw : w < 6) (ho : o < 6) (c1 c2 : Int32) (kk : Int32 → Int32 → Int32 → St → Option (Int32 × St)) : ∀ r k f c, k + r = 3 → r < f → lp_X4_let_29 N c1 c2 kk f (nI i) (nI w) (nI o) (bI c) (nI k) τ = if (c && ba (fun k => s (fr o k) == s (fr w k)) r k) = true then some (0, τ) else kk (nI i) (nI w) (nI (o + 1)) τ := by
  intro r
  induction r with
  | zero =>
    intro k f c hk hf
    obtain ⟨f, rfl, -⟩ := fuel1 hf
    have : ((3 : Int32) ≤ nI k) = True := (q_le (a := 3) (by decide) (by omega)).trans (eq_true (by omega))
    simp only [lp_X4_let_29, this, ↓reduceIte, nI_1, ba, bI_0, Bool.and_true]
    cases c <;> rfl
  | succ r ih =>
    intro k f c hk hf
    obtain ⟨f, rfl, hf⟩ := fuel1 hf
    have hk3 : k < 3 := by omega
    have : ((3 : Int32) ≤ nI k) = False := (q_le (a := 3) (by decide) (by omega)).trans (eq_false (by omega))
    have b0 := s38_at hs (fr_lt o ho k hk3)
    have d0 := s38_at hs (fr_lt w hw k hk3)
    simp (disch := omega) only [lp_X4_let_29, this, ↓reduceIte, nI_1, bI_0, r_measure N h hi ho hk3, r_measure N h hi hw hk3, bn_some, q_eq]
    cases c
    · rw [if_pos rfl, show (0 : Int32) = bI false from rfl, ih (k + 1) f false (by omega) (by omega)]; rfl
    · rw [if_neg (by decide)]
      have hb : ba (fun k => s (fr o k) == s (fr w k)) (r + 1) k = ((s (fr o k) == s (fr w k)) && ba (fun k => s (fr o k) == s (fr w k)) r (k + 1)) := rfl
      by_cases e : s (fr o k) = s (fr w k)
      · rw [if_pos e, show (1 : Int32) = bI true from rfl, ih (k + 1) f true (by omega) (by omega), hb, show (s (fr o k) == s (fr w k)) = true by simp [e], Bool.true_and, Bool.true_and]
      · rw [if_neg e, show (0 : Int32) = bI false from rfl, ih (k + 1) f false (by omega) (by omega), hb, show (s (fr o k) == s (fr w k)) = false by simp [e]]; rfl
theorem r_let13 (N : Nat) (hN : 7 ≤ N) {τ : St} {i w m : Nat} {s : Nat → Nat} (h : RS τ i s) (hs : s38 s) (hi : i < 6) (hw : w < 6) (hm : m ≤ 3) (hmk : τ 28 i = nI m) (c1 c2 : Int32) : ∀ r o f, o + r = w → r < f → lp_X4_let_13 N c1 c2 f (nI i) (nI w) (nI o) τ = some (bI (!(be (fun o => byM m o && alk s o w) r o)), τ) := by
  intro r
  induction r with
  | zero =>
    intro o f ho hf
    obtain ⟨f, rfl, -⟩ := fuel1 hf
    simp (disch := omega) only [lp_X4_let_13, q_le, show w ≤ o by omega, ↓reduceIte, be]; rfl
  | succ r ih =>
    intro o f ho hf
    obtain ⟨f, rfl, hf⟩ := fuel1 hf
    have ho6 : o < 6 := by omega
    have e29 := r_let29 N h hs hi hw ho6 c1 c2 (fun w1 w2 w3 σ => lp_X4_let_13 N c1 c2 f w1 w2 w3 σ) 3 0 N (byM m o) rfl (by omega)
    have e : lp_X4_let_13 N c1 c2 (f + 1) (nI i) (nI w) (nI o) τ = lp_X4_let_29 N c1 c2 (fun w1 w2 w3 σ => lp_X4_let_13 N c1 c2 f w1 w2 w3 σ) N (nI i) (nI w) (nI o) (bI (byM m o)) (nI 0) τ := by
      simp (disch := omega) only [lp_X4_let_13, q_le, show ¬ w ≤ o by omega, ↓reduceIte, r_byMarks N hi ho6 hm hmk, bn_some]; rfl
    rw [e, e29]
    have ha : ba (fun k => s (fr o k) == s (fr w k)) 3 0 = alk s o w := by simp [ba, alk]
    rw [ha]
    by_cases hc : (byM m o && alk s o w) = true
    · rw [if_pos hc]; simp only [be, hc]; rfl
    · rw [if_neg hc, ih (o + 1) f (by omega) (by omega)]
      simp only [be, Bool.eq_false_iff.mpr hc, Bool.false_or]
theorem r_let (N : Nat) (hN : 7 ≤ N) {τ : St} {i w m : Nat} {s : Nat → Nat} (h : RS τ i s) (hs : s38 s) (hi : i < 6) (hw : w < 6) (hm : m ≤ 3) (hmk : τ 28 i = nI m) : f_X4_let N (nI i) (nI w) τ = some (bI (lt m s w), τ) := by
  unfold f_X4_let
  rw [r_byMarks N hi hw hm hmk, bn_some]
  simp only [bI_0]
  have := r_let13 N hN h hs hi hw hm hmk (nI i) (nI w) w 0 N (by omega) (by omega)
  unfold lt
  by_cases hc : byM m w = false
  · rw [if_pos hc, hc]; rfl
  · rw [if_neg hc, Bool.of_not_eq_false hc, Bool.true_and]; exact this
theorem r_stand (N : Nat) {τ : St} {i w : Nat} {s : Nat → Nat} (h : RS τ i s) (hi : i < 6) (hw : w < 6) (x y z : Nat) (V : PV) : ∃ υ, f_X4_stand N (nI i) (nI w) (nI x) (nI y) (nI z) τ = some υ ∧ RP υ i (put V s i w x y z i) ∧ ∀ p f, ¬ (32 ≤ p ∧ p ≤ 38 ∧ f = i) → υ p f = τ p f := by
  unfold f_X4_stand
  simp only [qiT hi, qix hi, ↓reduceIte]
  have hsu : ∀ (υ : St) (k : Nat) (v : Int32), RS υ i s → k ≠ 26 → RS (su υ k i v) i s := fun υ k v g hk => by
    unfold RS at *
    rw [su_row (Ne.symm hk)]; exact g
  have h1 : RS (su (su (su (su τ 32 i (nI w)) 33 i (nI x)) 34 i (nI y)) 35 i (nI z)) i s := hsu _ _ _ (hsu _ _ _ (hsu _ _ _ (hsu _ _ _ h (by decide)) (by decide)) (by decide)) (by decide)
  have m1 := r_measure N h1 hi hw (k := 0) (by decide)
  have h2 := hsu _ 36 (nI (s (fr w 0))) h1 (by decide)
  have m2 := r_measure N h2 hi hw (k := 1) (by decide)
  have h3 := hsu _ 37 (nI (s (fr w 1))) h2 (by decide)
  have m3 := r_measure N h3 hi hw (k := 2) (by decide)
  rw [show (0 : Int32) = nI 0 from rfl, m1, bn_some, show (1 : Int32) = nI 1 from rfl, m2, bn_some, show (2 : Int32) = nI 2 from rfl, m3, bn_some]
  refine ⟨_, rfl, ?_, ?_⟩
  · unfold RP; simp [su, put]
  · intro p f hpf
    simp only [su]
    repeat rw [if_neg (by omega)]
theorem r_volume (N : Nat) {τ : St} {i : Nat} {s : Nat → Nat} (h : RS τ i s) (hi : i < 6) : f_X4_volume N (nI i) τ = some (nI (s 0 * s 1 * s 2), τ) := by
  unfold f_X4_volume
  rw [show (3 : Int32) * nI i = nI (3 * i) from q_mul 3 i, show nI (3 * i) + 1 = nI (3 * i + 1) from nI_1 _, show nI (3 * i) + 2 = nI (3 * i + 2) from nI_add _ 2, if_pos (q_inb (by omega) (by decide)), if_pos (q_inb (by omega) (by decide)), if_pos (q_inb (by omega) (by decide)), q_ix (by omega), q_ix (by omega), q_ix (by omega), h.1, h.2.1, h.2.2, q_mul, q_mul]
/-- a plan's measures are its pieces', each in its way -/
def DV (S : PV) (V : PV) : Prop := ∀ i, i < 6 → V i 0 = 1 → V i 7 < 6 ∧ V i 4 = S i (fr (V i 7) 0) ∧ V i 5 = S i (fr (V i 7) 1) ∧ V i 6 = S i (fr (V i 7) 2)
theorem vol_perm (s : Nat → Nat) {w : Nat} (hw : w < 6) : s (fr w 0) * s (fr w 1) * s (fr w 2) = s 0 * s 1 * s 2 := by
  rcases lt6 hw with rfl | rfl | rfl | rfl | rfl | rfl
  · rfl
  · exact congrArg (· * s 2) (Nat.mul_comm _ _)
  · exact Nat.mul_right_comm _ _ _
  · show s 2 * s 0 * s 1 = _
    rw [Nat.mul_right_comm, Nat.mul_comm (s 2), Nat.mul_right_comm, Nat.mul_comm (s 1)]
  · show s 1 * s 2 * s 0 = _
    rw [Nat.mul_right_comm, Nat.mul_comm (s 1)]
  · show s 2 * s 1 * s 0 = _
    rw [Nat.mul_right_comm, Nat.mul_comm (s 2), Nat.mul_right_comm]
theorem r_vol' (N : Nat) {τ : St} {V S : PV} {n : Nat} (hn6 : RN τ n) (h : RV τ V) (hs : SZ V) (hS : ∀ i, i < n → RS τ i (S i)) (hD : DV S V) : ∀ r k f a, k + r = n → r < f → lp_X4_volumeNow_4 N f (nI a) (nI k) τ = some (nI (a + up (volT V) r k), τ) := by
  have hn := hn6.2
  intro r
  induction r with
  | zero =>
    intro k f a hk hf
    obtain ⟨f, rfl, -⟩ := fuel1 hf
    simp only [lp_X4_volumeNow_4, qnT hn6 (show n ≤ k by omega) (by omega), ↓reduceIte, up, Nat.add_zero]
  | succ r ih =>
    intro k f a hk hf
    obtain ⟨f, rfl, hf⟩ := fuel1 hf
    have hk6 : k < 6 := by omega
    simp only [lp_X4_volumeNow_4, qnF hn6 (show k < n by omega), qiT hk6, qix hk6, nI_1, ↓reduceIte, r_way h hs hk6, Int32.add_zero, r_volume N (hS k (by omega)) hk6, bn_some, nI_add, up]
    by_cases e : V k 0 = 0
    · rw [if_pos e, ih (k + 1) f a (by omega) (by omega), volT, if_neg (by omega), Nat.zero_add]
    · have g : V k 0 = 1 := by have := (hs k hk6).1; omega
      obtain ⟨d1, d2, d3, d4⟩ := hD k hk6 g
      rw [if_neg e, ih (k + 1) f _ (by omega) (by omega), volT, if_pos g, d2, d3, d4, vol_perm _ d1, Nat.add_assoc]
theorem r_vol (N : Nat) (hN : 7 ≤ N) {τ : St} {V S : PV} {n : Nat} (hn6 : RN τ n) (h : RV τ V) (hs : SZ V) (hnp : NP n V) (hS : ∀ i, i < n → RS τ i (S i)) (hD : DV S V) : f_X4_volumeNow N τ = some (nI (up (volT V) 6 0), τ) := by
  have := r_vol' N hn6 h hs hS hD n 0 N 0 (by omega) (by have := hn6.2; omega)
  rw [Nat.zero_add, up_cut hn6.2 (fun j h1 _ => by unfold volT; rw [if_neg (by rw [hnp j h1]; simp)])] at this
  exact this
/-! clearing and copying -/
theorem c_clear' (N b : Nat) : ∀ r k f σ, k + r = 6 → r < f → ∃ τ, lp_X1_clear_2 N b f (nI k) σ = some τ ∧ (∀ j, k ≤ j → j < 6 → τ (13 + 6 * b + j) 0 = 0) ∧ ∀ p g, ¬ (g = 0 ∧ 13 + 6 * b + k ≤ p ∧ p < 19 + 6 * b) → τ p g = σ p g := by
  intro r
  induction r with
  | zero =>
    intro k f σ hk hf
    obtain ⟨f, rfl, -⟩ := fuel1 hf
    refine ⟨σ, ?_, fun j h1 h2 => by omega, fun _ _ _ => rfl⟩
    simp only [lp_X1_clear_2, q6T (show 6 ≤ k by omega) (by omega), ↓reduceIte]
  | succ r ih =>
    intro k f σ hk hf
    obtain ⟨f, rfl, hf⟩ := fuel1 hf
    have hk6 : k < 6 := by omega
    obtain ⟨τ, t1, t2, t3⟩ := ih (k + 1) f (su σ (13 + 6 * b + k) 0 0) (by omega) (by omega)
    refine ⟨τ, ?_, fun j h1 h2 => ?_, fun p g h => ?_⟩
    · simp only [lp_X1_clear_2, q6F hk6, qiT hk6, qix hk6, nI_1, ↓reduceIte, f_X2_leave, bv_some]; exact t1
    · by_cases e : j = k
      · subst e; rw [t3 _ _ (by omega), su_same]
      · exact t2 j (by omega) h2
    · rw [t3 _ _ (by omega), su_ne _ _ (by omega)]
theorem c_clear (N b : Nat) (hN : 7 ≤ N) (σ : St) : ∃ τ, f_X1_clear N b σ = some τ ∧ (∀ j, j < 6 → τ (13 + 6 * b + j) 0 = 0) ∧ ∀ p g, ¬ (g = 0 ∧ 13 + 6 * b ≤ p ∧ p < 19 + 6 * b) → τ p g = σ p g := by
  obtain ⟨τ, t1, t2, t3⟩ := c_clear' N b 6 0 N σ rfl (by omega)
  exact ⟨τ, t1, fun j h => t2 j (by omega) h, fun p g h => t3 p g (by omega)⟩
theorem c_cpy' (N : Nat) {V : PV} (hs : SZ V) : ∀ r k f σ, CV σ 1 V → k + r = 6 → r < f → ∃ τ, lp_X1_copyFrom_2 N 0 1 f (nI k) σ = some τ ∧ (∀ j g, k ≤ j → j < 6 → g ≤ 9 → τ (13 + j) g = σ (19 + j) g) ∧ ∀ p g, ¬ (13 + k ≤ p ∧ p < 19) → τ p g = σ p g := by
  intro r
  induction r with
  | zero =>
    intro k f σ hV hk hf
    obtain ⟨f, rfl, -⟩ := fuel1 hf
    refine ⟨σ, ?_, fun j g h1 h2 => by omega, fun _ _ _ => rfl⟩
    simp only [lp_X1_copyFrom_2, q6T (show 6 ≤ k by omega) (by omega), ↓reduceIte]
  | succ r ih =>
    intro k f σ hV hk hf
    obtain ⟨f, rfl, hf⟩ := fuel1 hf
    have hk6 : k < 6 := by omega
    have h01 : σ (19 + k) 0 = 0 ∨ σ (19 + k) 0 = 1 := by
      have h1 := (hV k hk6).1
      have h2 := (hs k hk6).1
      have h3 : V k 0 = 0 ∨ V k 0 = 1 := by omega
      rcases h3 with e | e <;> rw [e] at h1
      · exact Or.inl h1
      · exact Or.inr h1
    have hc := c_copy N (σ := σ) (q0 := 13 + k) (q1 := 19 + k) (by omega) h01
    have hne : ∀ p g, p ≠ 13 + k → cpy σ (13 + k) (19 + k) p g = σ p g := fun p g h => by unfold cpy; rw [if_neg (fun e => h e.1)]
    have hV' : CV (cpy σ (13 + k) (19 + k)) 1 V := fun i hi => ⟨(hne _ _ (by omega)).trans (hV i hi).1, fun hp => ((hV i hi).2 hp).of fun g _ _ => hne _ _ (by omega)⟩
    obtain ⟨τ, t1, t2, t3⟩ := ih (k + 1) f _ hV' (by omega) (by omega)
    refine ⟨τ, ?_, fun j g h1 h2 h3 => ?_, fun p g h => ?_⟩
    · simp only [lp_X1_copyFrom_2, q6F hk6, qiT hk6, qix hk6, nI_1, ↓reduceIte]
      rw [show 13 + 6 * 0 + k = 13 + k by omega, show 13 + 6 * 1 + k = 19 + k by omega, hc, bv_some]; exact t1
    · by_cases e : j = k
      · subst e
        rw [t3 _ _ (by omega)]
        unfold cpy
        rw [if_pos ⟨rfl, h3⟩]
        by_cases e0 : g = 0
        · subst e0
          rw [if_pos rfl]
          rcases h01 with h | h <;> rw [h] <;> decide
        · rw [if_neg e0]
      · rw [t2 j g (by omega) h2 h3, hne _ _ (by omega)]
    · rw [t3 _ _ (by omega), hne _ _ (by omega)]
theorem c_cpy (N : Nat) (hN : 7 ≤ N) {V : PV} (hs : SZ V) {σ : St} (hV : CV σ 1 V) : ∃ τ, f_X1_copyFrom N 0 1 σ = some τ ∧ (∀ j g, j < 6 → g ≤ 9 → τ (13 + j) g = σ (19 + j) g) ∧ ∀ p g, ¬ (13 ≤ p ∧ p < 19) → τ p g = σ p g := by
  obtain ⟨τ, t1, t2, t3⟩ := c_cpy' N hs 6 0 N σ hV rfl (by omega)
  exact ⟨τ, t1, fun j g h1 h2 => t2 j g (by omega) h1 h2, fun p g h => t3 p g (by omega)⟩
