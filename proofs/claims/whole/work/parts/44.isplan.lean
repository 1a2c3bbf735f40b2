/-! layer 2: what a piece bears; the class's check of a plan -/
def Rch (V : PV) (i k : Nat) : Prop := ∀ C : Nat → Prop, (∀ j, j < 6 → so V j i = true → C j) → (∀ l j, l < 6 → j < 6 → C l → so V j l = true → C j) → C k
noncomputable def rB (V : PV) (i k : Nat) : Bool := @decide (Rch V i k) (Classical.propDecidable _)
theorem rB_iff (V : PV) (i k : Nat) : rB V i k = true ↔ Rch V i k := @decide_eq_true_iff _ (Classical.propDecidable _)
noncomputable def brn (V : PV) (wt : Nat → Nat) (i : Nat) : Nat := up (fun k => if rB V i k = true then wt k else 0) 6 0
theorem tb_ge {m j : Nat} (hm : m < 64) (hj : 6 ≤ j) : tb m j = false := by
  have : m >>> j = 0 := by
    rw [Nat.shiftRight_eq_div_pow]
    refine Nat.div_eq_of_lt (Nat.lt_of_lt_of_le hm ?_)
    exact Nat.pow_le_pow_right (n := 2) (by decide) hj
  simp [tb, this]
theorem tb_lt6 {m j : Nat} (hm : m < 64) (h : tb m j = true) : j < 6 := by
  refine Nat.lt_of_not_le fun hj => ?_
  rw [tb_ge hm hj] at h; cases h
theorem lst_rch {V : PV} {i m : Nat} (h : Lst (sm V) (sm V i) m) {k : Nat} (hk : k < 6) : tb m k = rB V i k := by
  have e : tb m k = true ↔ rB V i k = true := by
    rw [rB_iff]
    constructor
    · intro hb C hc1 hc2
      refine (h.2.2.2 (fun j => j < 6 ∧ C j) (fun j hj => ?_) (fun l j hl hc hj => ?_) k hb).2
      · have h6 := tb_lt6 (sm_lt V i) hj
        exact ⟨h6, hc1 j h6 (by rwa [tb_sm V i j h6] at hj)⟩
      · have h6 := tb_lt6 (sm_lt V l) hj
        exact ⟨h6, hc2 l j hl h6 hc.2 (by rwa [tb_sm V l j h6] at hj)⟩
    · intro hR
      exact hR (fun j => tb m j = true) (fun j hj hs => h.2.1 j hj (by rw [tb_sm V i j hj]; exact hs)) (fun l j hl hj hc hs => h.2.2.1 l j hl hj hc (by rw [tb_sm V l j hj]; exact hs))
  cases h1 : tb m k <;> cases h2 : rB V i k <;> simp [h1, h2] at e ⊢
theorem rch_placed {V : PV} {i k : Nat} (h : Rch V i k) : V k 0 = 1 := h (fun j => V j 0 = 1) (fun j _ hs => by simp [so] at hs; exact hs.1) (fun l j _ _ _ hs => by simp [so] at hs; exact hs.1)
def CLm (σ : St) (b : Nat) (V : PV) (lm : Nat → Int32) : Prop := ∀ i, i < 6 → V i 0 = 1 → σ (13 + 6 * b + i) 9 = lm i
theorem c_bears (N b : Nat) (hN : 7 ≤ N) {V : PV} {σ : St} {wt : Nat → Nat} (hw : CWt σ b V wt) (h10 : ∀ j, j < 6 → σ (13 + 6 * b + j) 10 = nI (sm V j)) {i : Nat} (hi : i < 6) : f_X1_weightOn N b (13 + 6 * b + i) σ = some (nI (brn V wt i), σ) := by
  obtain ⟨m, hm, e⟩ := c_won N b (13 + 6 * b + i) hN (fun j _ => sm_lt V j) h10 (sm_lt V i) (h10 i hi) (wt := wt) (fun m hm j hj hb => hw j hj (rch_placed ((rB_iff V i j).mp ((lst_rch hm hj).symm.trans hb))))
  rw [e]
  congr 3
  unfold brn
  exact up_congr 6 0 fun j _ hj => by rw [lst_rch hm (by omega)]
noncomputable def brT (V : PV) (wt : Nat → Nat) (lm : Nat → Int32) (j : Nat) : Bool := decide (V j 0 = 1 → lm j = -1 ∨ nI (brn V wt j) ≤ lm j)
theorem c_wab' (N b : Nat) (hN : 7 ≤ N) {V : PV} (hs : SZ V) {σ : St} {wt : Nat → Nat} {lm : Nat → Int32} (hV : CV σ b V) (hw : CWt σ b V wt) (hl : CLm σ b V lm) (h10 : ∀ j, j < 6 → σ (13 + 6 * b + j) 10 = nI (sm V j)) : ∀ r k n, k + r = 6 → r < n → lp_X1_weightsAreBorne_6 N b n (nI k) σ = some (bI (ba (brT V wt lm) r k), σ) := by
  intro r
  induction r with
  | zero =>
    intro k n hk hn
    obtain ⟨n, rfl, -⟩ := fuel1 hn
    simp only [lp_X1_weightsAreBorne_6, q6T (show 6 ≤ k by omega) (by omega), ↓reduceIte, ba]; rfl
  | succ r ih =>
    intro k n hk hn
    obtain ⟨n, rfl, hn⟩ := fuel1 hn
    have hk6 : k < 6 := by omega
    have hs1 := hs k hk6
    simp only [lp_X1_weightsAreBorne_6, q6F hk6, qiT hk6, qix hk6, nI_1, ↓reduceIte, (hV k hk6).1, q_pl0 hs1.1, ba]
    by_cases h : V k 0 = 0
    · rw [if_pos h, ih (k + 1) n (by omega) (by omega), brT, decide_eq_true (fun e => by omega), Bool.true_and]
    · have h1 : V k 0 = 1 := by omega
      rw [if_neg h, hl k hk6 h1, c_bears N b hN hw h10 hk6, bn_some]
      simp only [hl k hk6 h1]
      by_cases e : lm k = -1
      · rw [if_pos e, ih (k + 1) n (by omega) (by omega), brT, decide_eq_true (fun _ => Or.inl e), Bool.true_and]
      · rw [if_neg e]
        by_cases hc : nI (brn V wt k) ≤ lm k
        · rw [if_pos hc, ih (k + 1) n (by omega) (by omega), brT, decide_eq_true (fun _ => Or.inr hc), Bool.true_and]
        · rw [if_neg hc, brT, decide_eq_false (fun H => (H h1).elim e hc), Bool.false_and]; rfl
theorem c_wab (N b : Nat) (hN : 7 ≤ N) {V : PV} (hs : SZ V) {σ : St} {wt : Nat → Nat} {lm : Nat → Int32} (hV : CV σ b V) (hw : CWt σ b V wt) (hl : CLm σ b V lm) : ∃ τ, f_X1_weightsAreBorne N b σ = some (bI (ba (brT V wt lm) 6 0), τ) ∧ X10 b σ τ := by
  obtain ⟨τ, t1, t2, t3⟩ := c_note N b hN hs hV
  refine ⟨τ, ?_, t2⟩
  unfold f_X1_weightsAreBorne
  rw [t1, bv_some]
  exact c_wab' N b hN hs (hV.x10 t2) (fun i hi hp => (t2 _ _ (by omega)).trans (hw i hi hp)) (fun i hi hp => (t2 _ _ (by omega)).trans (hl i hi hp)) t3 6 0 N rfl (by omega)
def fitB (B : Nat → Nat) (a : Nat → Nat) : Bool := decide (a 1 + a 4 ≤ B 0 ∧ a 2 + a 5 ≤ B 1 ∧ a 3 + a 6 ≤ B 2)
noncomputable def okW (B : Nat → Nat) (sh : Nat) (wt : Nat → Nat) (lm : Nat → Int32) (V : PV) (i : Nat) : Bool := fitB B (V i) && (ba (roomT V i) 6 0 && (decide (sh * (V i 4 * V i 5) ≤ 100 * sup V i) && ba (brT V wt lm) 6 0))
theorem supT_le {V : PV} {i : Nat} (hz : sz1 (V i)) (j : Nat) : supT V i j ≤ 64 := by
  unfold supT
  split
  · exact ar2_le hz
  · omega
theorem sup_le {V : PV} {i : Nat} (hz : sz1 (V i)) : sup V i ≤ 384 := by
  unfold sup
  split
  · unfold sz1 at hz
    have : V i 4 * V i 5 ≤ 8 * 8 := Nat.mul_le_mul (by omega) (by omega)
    omega
  · exact up_bound 6 0 (c := 64) fun j _ _ => supT_le hz j
theorem c_isPlanWith (N b : Nat) (hN : 7 ≤ N) {V : PV} (hs : SZ V) {σ : St} {B wt : Nat → Nat} {lm : Nat → Int32} {sh : Nat} (hsh : sh ≤ 100) (hB : BX σ (2 + b) 0 B) (hV : CV σ b V) (hw : CWt σ b V wt) (hl : CLm σ b V lm) {i : Nat} (hi : i < 6) (hp : V i 0 = 1) :
    ∃ τ, f_X1_isPlanWith N b (13 + 6 * b + i) (nI sh) σ = some (bI (okW B sh wt lm V i), τ) ∧ X10 b σ τ := by
  have hz := (hs i hi).2 hp
  have hz' := hz
  unfold sz1 at hz'
  obtain ⟨p1, p2, p3, p4, p5, p6, p7⟩ := (hV i hi).2 hp
  unfold f_X1_isPlanWith
  rw [p1, p2, p3, p4, p5, p6, nI_add, nI_add, nI_add, c_takes N b hB (by omega) (by omega) (by omega), bn_some]
  simp only [bI_0, decide_eq_false_iff_not]
  unfold okW fitB
  by_cases h1 : ¬ (V i 1 + V i 4 ≤ B 0 ∧ V i 2 + V i 5 ≤ B 1 ∧ V i 3 + V i 6 ≤ B 2)
  · rw [if_pos h1, decide_eq_false h1, Bool.false_and]
    exact ⟨σ, rfl, X10.rf _ _⟩
  · rw [if_neg h1, decide_eq_true (Classical.not_not.mp h1), Bool.true_and, c_room N b hN hV hs hi hp, bn_some]
    simp only [bI_0]
    by_cases h2 : ba (roomT V i) 6 0 = false
    · rw [if_pos h2, h2, Bool.false_and]
      exact ⟨σ, rfl, X10.rf _ _⟩
    · rw [if_neg h2, Bool.of_not_eq_false h2, Bool.true_and, c_sup N b hN hV hs hi hp, bn_some, c_area N (hV i hi).1 (hs i hi).1 (hV i hi).2, bn_some, if_pos hp]
      have hsu := sup_le hz
      have har : V i 4 * V i 5 ≤ 8 * 8 := Nat.mul_le_mul (by omega) (by omega)
      have hsa : sh * (V i 4 * V i 5) ≤ 100 * (8 * 8) := Nat.mul_le_mul hsh har
      have e1 : (100 : Int32) * nI (sup V i) = nI (100 * sup V i) := q_mul 100 _
      rw [e1, q_mul]
      simp (disch := omega) only [q_lt]
      by_cases h3 : 100 * sup V i < sh * (V i 4 * V i 5)
      · rw [if_pos h3, decide_eq_false (by omega), Bool.false_and]
        exact ⟨σ, rfl, X10.rf _ _⟩
      · rw [if_neg h3, decide_eq_true (by omega), Bool.true_and]
        obtain ⟨τ, t1, t2⟩ := c_wab N b hN hs hV hw hl
        refine ⟨τ, ?_, t2⟩
        rw [t1, bn_some]
        cases ba (brT V wt lm) 6 0 <;> rfl
