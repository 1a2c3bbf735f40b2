/-! layer 2: the reference's check of a plan, and that the class's check is the same -/
def ovT (V : PV) (j o : Nat) : Bool := decide (V o 0 = 1 → ¬ (0 < ar2 (V j) (V o) ∧ 0 < cm (V j 3) (V j 6) (V o 3) (V o 6)))
theorem q_le0 {n : Nat} (h : n < 2 ^ 31) : (nI n ≤ 0) = (n = 0) := (q_le (b := 0) h (by decide)).trans (by simp)
theorem r_139 (N : Nat) {τ : St} {V : PV} (h : RV τ V) (hs : SZ V) {p : Nat} (hp : p < 6) (hpl : V p 0 = 1) (kk : Int32 → St → Option (Int32 × St)) : ∀ r o f, o + r = p → r < f → lp_X4_isPlan_139 N kk f (nI p) (nI o) τ = if ba (ovT V p) r o = true then kk (nI (p + 1)) τ else some (0, τ) := by
  intro r
  induction r with
  | zero =>
    intro o f ho hf
    obtain ⟨f, rfl, -⟩ := fuel1 hf
    simp (disch := omega) only [lp_X4_isPlan_139, q_le, show p ≤ o by omega, ↓reduceIte, nI_1, ba]
  | succ r ih =>
    intro o f ho hf
    obtain ⟨f, rfl, hf⟩ := fuel1 hf
    have ho6 : o < 6 := by omega
    simp (disch := omega) only [lp_X4_isPlan_139, q_le, show ¬ p ≤ o by omega, ↓reduceIte, nI_1, qiT ho6, qix ho6, qiT hp, qix hp, r_way h hs ho6, ba]
    by_cases e : V o 0 = 0
    · rw [if_pos e, ih (o + 1) f (by omega) (by omega)]
      simp only [ovT, show ¬ V o 0 = 1 by omega, false_implies, decide_true, Bool.true_and]
    · have g : V o 0 = 1 := by have := (hs o ho6).1; omega
      have z1 := (hs p hp).2 hpl
      have z2 := (hs o ho6).2 g
      have R1 := (h p hp).2 hpl
      have R2 := (h o ho6).2 g
      have a1 := ar2_le (b := V o) z1
      rw [if_neg e, r_area N hp ho6 R1 R2 z1 z2, bn_some, R1.2.2.2.1, R1.2.2.2.2.2.2, R2.2.2.2.1, R2.2.2.2.2.2.2]
      unfold sz1 at z1 z2
      rw [r_common N τ (by omega) (by omega) (by omega) (by omega), bn_some]
      have c1 := cm_le (a := V p 3) (an := V p 6) (b := V o 3) (bn := V o 6)
      simp (disch := omega) only [q_le0]
      by_cases h1 : ar2 (V p) (V o) = 0
      · rw [if_pos h1, ih (o + 1) f (by omega) (by omega)]
        have : ovT V p o = true := by unfold ovT; exact decide_eq_true fun _ hh => by omega
        simp only [this, Bool.true_and]
      · rw [if_neg h1]
        by_cases h2 : cm (V p 3) (V p 6) (V o 3) (V o 6) = 0
        · rw [if_pos h2, ih (o + 1) f (by omega) (by omega)]
          have : ovT V p o = true := by unfold ovT; exact decide_eq_true fun _ hh => by omega
          simp only [this, Bool.true_and]
        · rw [if_neg h2]
          have : ovT V p o = false := by unfold ovT; exact decide_eq_false fun hh => hh g ⟨by omega, by omega⟩
          simp only [this, Bool.false_and, Bool.false_eq_true, ↓reduceIte]
noncomputable def okT (B : Nat → Nat) (sh : Nat) (wt : Nat → Nat) (lm : Nat → Int32) (V : PV) (j : Nat) : Bool := decide (V j 0 = 1 → fitB B (V j) = true ∧ sh * (V j 4 * V j 5) ≤ 100 * sup V j ∧ (lm j < 0 ∨ nI (brn V wt j) ≤ lm j) ∧ ba (ovT V j) j 0 = true)
noncomputable def okA (B : Nat → Nat) (sh : Nat) (wt : Nat → Nat) (lm : Nat → Int32) (V : PV) : Bool := ba (okT B sh wt lm V) 6 0
theorem r_isPlan' (N : Nat) (hN : 9 ≤ N) {τ : St} {V : PV} {n : Nat} (hn6 : RN τ n) (h : RV τ V) (hs : SZ V) (hnp : NP n V) {B wt : Nat → Nat} {lm : Nat → Int32} {sh : Nat} (hsh : sh ≤ 100) (hB : BX τ 25 1 B) (hw : RW τ n wt) (hS : τ 25 11 = nI sh) (hl : ∀ i, i < n → τ 29 i = lm i) :
    ∀ r k f, k + r = n → r < f → lp_X4_isPlan_2 N f (nI k) τ = some (bI (ba (okT B sh wt lm V) r k), τ) := by
  have hn := hn6.2
  intro r
  induction r with
  | zero =>
    intro k f hk hf
    obtain ⟨f, rfl, -⟩ := fuel1 hf
    simp only [lp_X4_isPlan_2, qnT hn6 (show n ≤ k by omega) (by omega), ↓reduceIte, ba]; rfl
  | succ r ih =>
    intro k f hk hf
    obtain ⟨f, rfl, hf⟩ := fuel1 hf
    have hk6 : k < 6 := by omega
    simp only [lp_X4_isPlan_2, qnF hn6 (show k < n by omega), qiT hk6, qix hk6, nI_1, ↓reduceIte, r_way h hs hk6, ba]
    by_cases e : V k 0 = 0
    · rw [if_pos e, ih (k + 1) f (by omega) (by omega), okT, decide_eq_true (fun e2 => by omega), Bool.true_and]
    · have g : V k 0 = 1 := by have := (hs k hk6).1; omega
      have z1 := (hs k hk6).2 g
      have hsu := sup_le z1
      have R1 := (h k hk6).2 g
      obtain ⟨b0, b1, b2, b3⟩ := hB
      have kk := r_139 N h hs hk6 g (fun w1 σ => lp_X4_isPlan_2 N f w1 σ) k 0 N (by omega) (by omega)
      have kk2 : lp_X4_isPlan_139 N (fun w1 σ => lp_X4_isPlan_2 N f w1 σ) N (nI k) 0 τ = some (bI (ba (ovT V k) k 0 && ba (okT B sh wt lm V) r (k + 1)), τ) := by
        refine kk.trans ?_
        by_cases hh : ba (ovT V k) k 0 = true
        · rw [if_pos hh, ih (k + 1) f (by omega) (by omega), hh, Bool.true_and]
        · rw [if_neg hh, Bool.eq_false_iff.mpr hh, Bool.false_and]; rfl
      rw [if_neg e, r_sup N (by omega) hn6 h hs hnp hk6 g, bn_some, r_borne N hN hn6 h hs hnp hw hk6 g, bn_some, hl k (by omega), kk2, hS, R1.2.1, R1.2.2.1, R1.2.2.2.1, R1.2.2.2.2.1, R1.2.2.2.2.2.1, R1.2.2.2.2.2.2, show τ 25 1 = nI (B 0) from b0, show τ 25 2 = nI (B 1) from b1, show τ 25 3 = nI (B 2) from b2]
      unfold sz1 at z1
      have har : V k 4 * V k 5 ≤ 8 * 8 := Nat.mul_le_mul (by omega) (by omega)
      have hsa : sh * (V k 4 * V k 5) ≤ 100 * (8 * 8) := Nat.mul_le_mul hsh har
      have e1 : nI (sup V k) * (100 : Int32) = nI (100 * sup V k) := (q_mul _ 100).trans (by rw [Nat.mul_comm])
      rw [e1, q_mul, q_mul, Nat.mul_assoc]
      simp (disch := omega) only [nI_add, q_lt, q_le]
      unfold okT fitB
      by_cases h1 : V k 1 + V k 4 ≤ B 0 ∧ V k 2 + V k 5 ≤ B 1 ∧ V k 3 + V k 6 ≤ B 2
      · rw [if_neg (by omega), if_neg (by omega), if_pos (by omega)]
        by_cases h2 : sh * (V k 4 * V k 5) ≤ 100 * sup V k
        · rw [if_pos h2]
          by_cases h3 : lm k < 0
          · rw [if_pos h3]
            congr 3
            simp [g, h1, h2, h3]
          · rw [if_neg h3]
            by_cases h4 : nI (brn V wt k) ≤ lm k
            · rw [if_pos h4]
              congr 3
              simp [g, h1, h2, h4]
            · rw [if_neg h4, decide_eq_false (fun hh => (hh g).2.2.1.elim h3 h4), Bool.false_and]; rfl
        · rw [if_neg h2, decide_eq_false (fun hh => h2 (hh g).2.1), Bool.false_and]; rfl
      · rw [decide_eq_false (fun hh => h1 (of_decide_eq_true (hh g).1)), Bool.false_and]
        repeat (split; rfl)
        split
        · exact absurd (by omega) h1
        · rfl
theorem r_isPlan (N : Nat) (hN : 9 ≤ N) {τ : St} {V : PV} {n : Nat} (hn6 : RN τ n) (h : RV τ V) (hs : SZ V) (hnp : NP n V) {B wt : Nat → Nat} {lm : Nat → Int32} {sh : Nat} (hsh : sh ≤ 100) (hB : BX τ 25 1 B) (hw : RW τ n wt) (hS : τ 25 11 = nI sh) (hl : ∀ i, i < n → τ 29 i = lm i) :
    f_X4_isPlan N τ = some (bI (okA B sh wt lm V), τ) := by
  have := r_isPlan' N hN hn6 h hs hnp hsh hB hw hS hl n 0 N (by omega) (by have := hn6.2; omega)
  rw [ba_cut hn6.2 (fun j h1 _ => by unfold okT; exact decide_eq_true fun e => by rw [hnp j h1] at e; cases e)] at this
  exact this
theorem ok_same {B : Nat → Nat} {sh : Nat} {wt : Nat → Nat} {lm : Nat → Int32} (hlm : ∀ j, lm j < 0 ↔ lm j = -1) {V0 V : PV} {i : Nat} (hi : i < 6) (hs : SZ V) (hpl : V i 0 = 1) (h0 : V0 i 0 = 0) (hsame : ∀ j, j ≠ i → V0 j = V j) (hok : okA B sh wt lm V0 = true) : okW B sh wt lm V i = okA B sh wt lm V := by
  have hok' := (ba_iff _ 6 0).mp hok
  have key : okW B sh wt lm V i = true ↔ okA B sh wt lm V = true := by
    unfold okW okA
    rw [Bool.and_eq_true, Bool.and_eq_true, Bool.and_eq_true, ba_iff, ba_iff, ba_iff, decide_eq_true_iff]
    constructor
    · intro ⟨h1, h2, h3, h4⟩ j _ hj
      have hj6 : j < 6 := by omega
      unfold okT
      refine decide_eq_true fun hjp => ?_
      have hbr : lm j < 0 ∨ nI (brn V wt j) ≤ lm j := by
        have := of_decide_eq_true (h4 j (by omega) (by omega))
        exact (this hjp).elim (fun e => Or.inl ((hlm j).mpr e)) Or.inr
      by_cases e : j = i
      · subst e
        refine ⟨h1, h3, hbr, (ba_iff _ _ _).mpr fun o _ ho => ?_⟩
        unfold ovT
        refine decide_eq_true fun hop hh => ?_
        have := of_decide_eq_true (h2 o (by omega) (by omega))
        rcases this hop with e2 | e2
        · omega
        · exact e2 ⟨by rw [ar2_comm]; exact hh.1, by rw [cm_comm]; exact hh.2⟩
      · have e0 := hsame j e
        have := of_decide_eq_true (hok' j (by omega) (by omega))
        rw [e0] at this
        obtain ⟨k1, k2, -, k4⟩ := this hjp
        refine ⟨k1, ?_, hbr, (ba_iff _ _ _).mpr fun o _ ho => ?_⟩
        · refine Nat.le_trans k2 (Nat.mul_le_mul_left _ ?_)
          unfold sup
          rw [e0]
          split
          · exact Nat.le_refl _
          · refine up_le 6 0 fun k _ _ => ?_
            unfold supT
            rw [e0]
            by_cases ek : k = i
            · rw [if_neg (by rw [ek, h0]; simp)]; exact Nat.zero_le _
            · rw [hsame k ek]; exact Nat.le_refl _
        · unfold ovT
          refine decide_eq_true fun hop hh => ?_
          by_cases eo : o = i
          · have := of_decide_eq_true (h2 j (by omega) (by omega))
            rw [eo] at hh
            exact (this hjp).elim e (fun x => x hh)
          · have := of_decide_eq_true ((ba_iff _ _ _).mp k4 o (by omega) (by omega))
            rw [hsame o eo, hsame j e] at this
            exact this hop hh
    · intro h
      have hb : ∀ j, 0 ≤ j → j < 0 + 6 → brT V wt lm j = true := fun j h1 h2 => by
        unfold brT
        refine decide_eq_true fun hjp => ?_
        have := of_decide_eq_true (h j h1 h2) hjp
        exact this.2.2.1.elim (fun e => Or.inl ((hlm j).mp e)) Or.inr
      obtain ⟨k1, k2, -, k4⟩ := of_decide_eq_true (h i (by omega) (by omega)) hpl
      refine ⟨k1, fun j _ hj => ?_, k2, hb⟩
      unfold roomT
      refine decide_eq_true fun hjp => ?_
      by_cases e : j = i
      · exact Or.inl e
      · refine Or.inr fun hh => ?_
        by_cases lt : j < i
        · have := of_decide_eq_true ((ba_iff _ _ _).mp k4 j (by omega) (by omega))
          exact this hjp ⟨by rw [ar2_comm]; exact hh.1, by rw [cm_comm]; exact hh.2⟩
        · obtain ⟨-, -, -, m4⟩ := of_decide_eq_true (h j (by omega) (by omega)) hjp
          have := of_decide_eq_true ((ba_iff _ _ _).mp m4 i (by omega) (by omega))
          exact this hpl hh
  cases h1 : okW B sh wt lm V i <;> cases h2 : okA B sh wt lm V <;> simp [h1, h2] at key ⊢
