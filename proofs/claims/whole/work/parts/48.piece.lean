/-! layer 2: pieces, ways -/
def fr (w k : Nat) : Nat := if w = 0 then k else if w = 1 then (if k = 0 then 1 else if k = 1 then 0 else 2) else if w = 2 then (if k = 0 then 0 else if k = 1 then 2 else 1) else if w = 3 then (if k = 0 then 2 else if k = 1 then 0 else 1) else if w = 4 then (if k = 0 then 1 else if k = 1 then 2 else 0) else 2 - k
theorem fr_lt : ∀ w, w < 6 → ∀ k, k < 3 → fr w k < 3 := by decide
def put (V : PV) (s : Nat → Nat) (p w x y z : Nat) : PV := fun i f => if i = p then (if f = 0 then 1 else if f = 1 then x else if f = 2 then y else if f = 3 then z else if f = 4 then s (fr w 0) else if f = 5 then s (fr w 1) else if f = 6 then s (fr w 2) else w) else V i f
theorem put_ne (V : PV) (s : Nat → Nat) {p i : Nat} (w x y z : Nat) (h : i ≠ p) : put V s p w x y z i = V i := by funext f; simp [put, h]
theorem lt6 {w : Nat} (h : w < 6) : w = 0 ∨ w = 1 ∨ w = 2 ∨ w = 3 ∨ w = 4 ∨ w = 5 := by omega
theorem lt3 {w : Nat} (h : w < 3) : w = 0 ∨ w = 1 ∨ w = 2 := by omega
def s38 (s : Nat → Nat) : Prop := 1 ≤ s 0 ∧ s 0 ≤ 8 ∧ 1 ≤ s 1 ∧ s 1 ≤ 8 ∧ 1 ≤ s 2 ∧ s 2 ≤ 8
theorem s38_at {s : Nat → Nat} (h : s38 s) {k : Nat} (hk : k < 3) : 1 ≤ s k ∧ s k ≤ 8 := by
  unfold s38 at h
  rcases lt3 hk with rfl | rfl | rfl <;> omega
def PS (σ : St) (p : Nat) (s : Nat → Nat) : Prop := σ p 0 = nI (s 0) ∧ σ p 1 = nI (s 1) ∧ σ p 2 = nI (s 2)
theorem c_widthIn (N : Nat) {σ : St} {p : Nat} {s : Nat → Nat} (h : PS σ p s) {w : Nat} (hw : w < 6) : f_X0_widthIn N p (nI w) σ = some (nI (s (fr w 0)), σ) := by
  unfold f_X0_widthIn
  rw [h.1, h.2.1, h.2.2]
  rcases lt6 hw with rfl | rfl | rfl | rfl | rfl | rfl <;> rfl
theorem c_depthIn (N : Nat) {σ : St} {p : Nat} {s : Nat → Nat} (h : PS σ p s) {w : Nat} (hw : w < 6) : f_X0_depthIn N p (nI w) σ = some (nI (s (fr w 1)), σ) := by
  unfold f_X0_depthIn
  rw [h.1, h.2.1, h.2.2]
  rcases lt6 hw with rfl | rfl | rfl | rfl | rfl | rfl <;> rfl
theorem c_heightIn (N : Nat) {σ : St} {p : Nat} {s : Nat → Nat} (h : PS σ p s) {w : Nat} (hw : w < 6) : f_X0_heightIn N p (nI w) σ = some (nI (s (fr w 2)), σ) := by
  unfold f_X0_heightIn
  rw [h.1, h.2.1, h.2.2]
  rcases lt6 hw with rfl | rfl | rfl | rfl | rfl | rfl <;> rfl
theorem PS.su {σ : St} {p q j : Nat} {v : Int32} {s : Nat → Nat} (h : PS σ p s) (e : p ≠ q) : PS (su σ q j v) p s := by
  unfold PS at *
  rw [su_row e]; exact h
theorem c_stand (N : Nat) {σ : St} {p q : Nat} (hpq : p ≠ q) {s : Nat → Nat} (h : PS σ p s) {w : Nat} (hw : w < 6) (x y z : Nat) (V : PV) (i : Nat) : ∃ τ, f_X2_stand N q p (nI w) (nI x) (nI y) (nI z) σ = some τ ∧ (∀ p' f, p' ≠ q → τ p' f = σ p' f) ∧ τ q 0 = 1 ∧ SP τ q (put V s i w x y z i) ∧ τ q 8 = σ p 3 ∧ τ q 9 = σ p 5 := by
  unfold f_X2_stand
  have h1 : PS (su (su (su (su σ q 0 1) q 1 (nI x)) q 2 (nI y)) q 3 (nI z)) p s := PS.su (PS.su (PS.su (PS.su h hpq) hpq) hpq) hpq
  rw [c_widthIn N h1 hw, bn_some]
  have h2 := PS.su (q := q) (j := 4) (v := nI (s (fr w 0))) h1 hpq
  rw [c_depthIn N h2 hw, bn_some]
  have h3 := PS.su (q := q) (j := 5) (v := nI (s (fr w 1))) h2 hpq
  rw [c_heightIn N h3 hw, bn_some]
  refine ⟨_, rfl, ?_, ?_, ?_, ?_, ?_⟩
  · intro p' f hp; simp only [su_row hp]
  · simp [su]
  · unfold SP; simp [su, put]
  · simp [su, hpq]
  · simp [su, hpq]
def cpy (σ : St) (q0 q1 : Nat) : St := fun p f => if p = q0 ∧ f ≤ 9 then (if f = 0 then σ q1 0 &&& 1 else σ q1 f) else σ p f
set_option maxHeartbeats 4000000 in
theorem c_copy (N : Nat) {σ : St} {q0 q1 : Nat} (hq : q1 ≠ q0) (h : σ q1 0 = 0 ∨ σ q1 0 = 1) : f_X2_copyFrom N q0 q1 σ = some (cpy σ q0 q1) := by
  unfold f_X2_copyFrom
  simp only [su_row hq]
  rw [if_pos (by rcases h with h | h <;> rw [h] <;> decide)]
  congr 1
  funext p f
  unfold cpy
  by_cases hp : p = q0
  · subst hp
    by_cases hf : f ≤ 9
    · rw [if_pos ⟨rfl, hf⟩]
      have : f = 0 ∨ f = 1 ∨ f = 2 ∨ f = 3 ∨ f = 4 ∨ f = 5 ∨ f = 6 ∨ f = 7 ∨ f = 8 ∨ f = 9 := by omega
      rcases this with rfl | rfl | rfl | rfl | rfl | rfl | rfl | rfl | rfl | rfl <;> simp [su]
    · rw [if_neg (fun h => hf h.2)]
      simp only [su]
      repeat rw [if_neg (by omega)]
  · rw [if_neg (fun h => hp h.1)]
    simp only [su_row hp]
/-! marks -/
def byM (m w : Nat) : Bool := if w = 0 then true else if w = 1 then tb m 0 else if w = 2 then tb m 1 else if w = 4 then tb m 1 else m == 3
def alk (s : Nat → Nat) (o w : Nat) : Bool := s (fr o 0) == s (fr w 0) && (s (fr o 1) == s (fr w 1) && s (fr o 2) == s (fr w 2))
def lt (m : Nat) (s : Nat → Nat) (w : Nat) : Bool := byM m w && !(be (fun o => byM m o && alk s o w) w 0)
theorem ltw_0 (m : Nat) (s : Nat → Nat) : lt m s 0 = true := rfl
theorem q_needed (N : Nat) (σ : St) {m w : Nat} (hm : m ≤ 3) (hw : w < 6) : ∃ v, f_X0_marksFor N (nI w) σ = some (v, σ) ∧ ((nI m &&& v = v) ↔ byM m w = true) := by
  have hm4 : m = 0 ∨ m = 1 ∨ m = 2 ∨ m = 3 := by omega
  rcases lt6 hw with rfl | rfl | rfl | rfl | rfl | rfl
  · exact ⟨0, rfl, by rcases hm4 with rfl | rfl | rfl | rfl <;> decide⟩
  · exact ⟨1, rfl, by rcases hm4 with rfl | rfl | rfl | rfl <;> decide⟩
  · exact ⟨2, rfl, by rcases hm4 with rfl | rfl | rfl | rfl <;> decide⟩
  · exact ⟨3, rfl, by rcases hm4 with rfl | rfl | rfl | rfl <;> decide⟩
  · exact ⟨2, rfl, by rcases hm4 with rfl | rfl | rfl | rfl <;> decide⟩
  · exact ⟨3, rfl, by rcases hm4 with rfl | rfl | rfl | rfl <;> decide⟩
theorem c_lets (N : Nat) {σ : St} {p m w : Nat} (h : σ p 4 = nI m) (hm : m < 64) (hw : w < 6) : f_X0_lets N p (nI w) σ = some (bI (tb m w), σ) := by
  unfold f_X0_lets f_X3_isIn
  rw [h]
  simp only [q_bit1 (show m < 512 by omega) (show w < 9 by omega)]
  cases tb m w <;> rfl
theorem c_like' (N : Nat) {σ : St} {p m : Nat} {s : Nat → Nat} (h : σ p 4 = nI m) (hm : m < 64) (hp : PS σ p s) (hs : s38 s) {w : Nat} (hw : w < 6) (c : Int32) : ∀ r k f, k + r = w → r < f → lp_X0_isLikeOneLet_2 N p c f (nI w) (nI k) σ = some (bI (be (fun o => tb m o && alk s o w) r k), σ) := by
  intro r
  induction r with
  | zero =>
    intro k f hk hf
    obtain ⟨f, rfl, -⟩ := fuel1 hf
    simp (disch := omega) only [lp_X0_isLikeOneLet_2, q_le, show w ≤ k by omega, ↓reduceIte, be]; rfl
  | succ r ih =>
    intro k f hk hf
    obtain ⟨f, rfl, hf⟩ := fuel1 hf
    have hk6 : k < 6 := by omega
    have b0 := s38_at hs (fr_lt k hk6 0 (by decide))
    have b1 := s38_at hs (fr_lt k hk6 1 (by decide))
    have b2 := s38_at hs (fr_lt k hk6 2 (by decide))
    have d0 := s38_at hs (fr_lt w hw 0 (by decide))
    have d1 := s38_at hs (fr_lt w hw 1 (by decide))
    have d2 := s38_at hs (fr_lt w hw 2 (by decide))
    simp (disch := omega) only [lp_X0_isLikeOneLet_2, q_le, show ¬ w ≤ k by omega, ↓reduceIte, nI_1, c_lets N h hm hk6, bn_some, bI_0, c_widthIn N hp hk6, c_widthIn N hp hw, c_depthIn N hp hk6, c_depthIn N hp hw, c_heightIn N hp hk6, c_heightIn N hp hw, q_eq, be]
    by_cases h1 : tb m k = false
    · rw [if_pos h1, ih (k + 1) f (by omega) (by omega), h1]; rfl
    · rw [if_neg h1, Bool.of_not_eq_false h1, Bool.true_and]
      by_cases h2 : s (fr k 0) = s (fr w 0)
      · rw [if_pos h2]
        by_cases h3 : s (fr k 1) = s (fr w 1)
        · rw [if_pos h3]
          by_cases h4 : s (fr k 2) = s (fr w 2)
          · rw [if_pos h4, show alk s k w = true by simp [alk, h2, h3, h4]]; rfl
          · rw [if_neg h4, ih (k + 1) f (by omega) (by omega), show alk s k w = false by simp [alk, h2, h3, h4], Bool.false_or]
        · rw [if_neg h3, ih (k + 1) f (by omega) (by omega), show alk s k w = false by simp [alk, h2, h3], Bool.false_or]
      · rw [if_neg h2, ih (k + 1) f (by omega) (by omega), show alk s k w = false by simp [alk, h2], Bool.false_or]
def mkm (s : Nat → Nat) (mm : Nat) : Nat → Nat → Nat → Nat
  | 0, _, m => m
  | r + 1, k, m => mkm s mm r (k + 1) (if byM mm k = true ∧ be (fun o => tb m o && alk s o k) k 0 = false then m ||| 2 ^ k else m)
theorem alk_tr {s : Nat → Nat} {a b c : Nat} (h1 : alk s a b = true) (h2 : alk s b c = true) : alk s a c = true := by
  simp [alk] at *
  omega
theorem like_eq (mm : Nat) (s : Nat → Nat) (w : Nat) : ∀ o, byM mm o = true → alk s o w = true → ∃ o', o' ≤ o ∧ lt mm s o' = true ∧ alk s o' w = true := by
  intro o
  induction o using Nat.strongRecOn with
  | ind o ih =>
    intro h1 h2
    by_cases h : be (fun x => byM mm x && alk s x o) o 0 = true
    · obtain ⟨x, -, hx, hx2⟩ := (be_iff _ _ _).mp h
      rw [Bool.and_eq_true] at hx2
      obtain ⟨o', g1, g2, g3⟩ := ih x (by omega) hx2.1 (alk_tr hx2.2 h2)
      exact ⟨o', by omega, g2, g3⟩
    · refine ⟨o, Nat.le_refl _, ?_, h2⟩
      unfold lt
      rw [h1, Bool.eq_false_iff.mpr h]; rfl
theorem mkm_spec (s : Nat → Nat) (mm : Nat) : ∀ r k m, k + r = 6 → m < 64 → (∀ w, w < k → tb m w = lt mm s w) → (∀ w, k ≤ w → tb m w = false) → mkm s mm r k m < 64 ∧ ∀ w, w < 6 → tb (mkm s mm r k m) w = lt mm s w := by
  intro r
  induction r with
  | zero => intro k m hk hm h1 _; exact ⟨hm, fun w hw => h1 w (by omega)⟩
  | succ r ih =>
    intro k m hk hm h1 h2
    simp only [mkm]
    have hb : be (fun o => tb m o && alk s o k) k 0 = be (fun o => byM mm o && alk s o k) k 0 := by
      have : be (fun o => tb m o && alk s o k) k 0 = true ↔ be (fun o => byM mm o && alk s o k) k 0 = true := by
        rw [be_iff, be_iff]
        constructor
        · intro ⟨j, a, b, c⟩
          rw [Bool.and_eq_true, h1 j (by omega), lt, Bool.and_eq_true] at c
          exact ⟨j, a, b, by rw [c.1.1, c.2]; rfl⟩
        · intro ⟨j, a, b, c⟩
          rw [Bool.and_eq_true] at c
          obtain ⟨o, g1, g2, g3⟩ := like_eq mm s k j c.1 c.2
          exact ⟨o, by omega, by omega, by rw [h1 o (by omega), g2, g3]; rfl⟩
      cases x : be (fun o => tb m o && alk s o k) k 0 <;> cases y : be (fun o => byM mm o && alk s o k) k 0 <;> simp [x, y] at this ⊢
    have hlt : lt mm s k = true ↔ byM mm k = true ∧ be (fun o => tb m o && alk s o k) k 0 = false := by
      rw [hb, lt]; simp
    by_cases hc : byM mm k = true ∧ be (fun o => tb m o && alk s o k) k 0 = false
    · rw [if_pos hc]
      refine ih (k + 1) _ (by omega) (Nat.or_lt_two_pow (n := 6) hm (Nat.pow_lt_pow_right (by decide) (by omega))) (fun w hw => ?_) (fun w hw => ?_)
      · rw [tb_or, tb_pow]
        by_cases e : w = k
        · subst e; rw [hlt.mpr hc]; simp
        · rw [h1 w (by omega)]
          have : (k == w) = false := by simp; omega
          rw [this, Bool.or_false]
      · rw [tb_or, tb_pow, h2 w (by omega)]
        simp; omega
    · rw [if_neg hc]
      refine ih (k + 1) _ (by omega) hm (fun w hw => ?_) (fun w hw => h2 w (by omega))
      by_cases e : w = k
      · subst e
        rw [h2 w (Nat.le_refl _)]
        exact (Bool.eq_false_iff.mpr fun h => hc (hlt.mp h)).symm
      · exact h1 w (by omega)
theorem c_mark' (N : Nat) (hN : 7 ≤ N) {p : Nat} {s : Nat → Nat} (hs : s38 s) {mm : Nat} (hmm : mm ≤ 3) (c : Int32) : ∀ r k f m σ, σ p 4 = nI m → m < 64 → PS σ p s → k + r = 6 → r < f → ∃ τ, lp_X0_mark_7 N p c f (nI mm) (nI k) σ = some τ ∧ τ p 4 = nI (mkm s mm r k m) ∧ ∀ p' g, ¬ (p' = p ∧ g = 4) → τ p' g = σ p' g := by
  intro r
  induction r with
  | zero =>
    intro k f m σ h4 hm hp hk hf
    obtain ⟨f, rfl, -⟩ := fuel1 hf
    refine ⟨σ, ?_, h4, fun _ _ _ => rfl⟩
    simp only [lp_X0_mark_7, q6T (show 6 ≤ k by omega) (by omega), ↓reduceIte]
  | succ r ih =>
    intro k f m σ h4 hm hp hk hf
    obtain ⟨f, rfl, hf⟩ := fuel1 hf
    have hk6 : k < 6 := by omega
    obtain ⟨v, hv, hv2⟩ := q_needed N σ hmm hk6
    have hl : f_X0_isLikeOneLet N p (nI k) σ = some (bI (be (fun o => tb m o && alk s o k) k 0), σ) := c_like' N h4 hm hp hs hk6 _ k 0 N (by omega) (by omega)
    simp only [lp_X0_mark_7, q6F hk6, ↓reduceIte, nI_1, hv, bn_some, hl, bI_0, mkm, h4, q_or m hm k hk6]
    by_cases h1 : byM mm k = true
    · rw [if_pos (hv2.mpr h1)]
      by_cases h2 : be (fun o => tb m o && alk s o k) k 0 = false
      · rw [if_pos h2, if_pos ⟨h1, h2⟩]
        have hne : ∀ p' g, ¬ (p' = p ∧ g = 4) → su σ p 4 (nI (m ||| 2 ^ k)) p' g = σ p' g := fun p' g h => su_ne σ _ h
        obtain ⟨τ, t1, t2, t3⟩ := ih (k + 1) f (m ||| 2 ^ k) (su σ p 4 (nI (m ||| 2 ^ k))) (su_same _ _ _ _) (Nat.or_lt_two_pow (n := 6) hm (Nat.pow_lt_pow_right (by decide) hk6)) ⟨(hne _ _ (by omega)).trans hp.1, (hne _ _ (by omega)).trans hp.2.1, (hne _ _ (by omega)).trans hp.2.2⟩ (by omega) (by omega)
        exact ⟨τ, t1, t2, fun p' g h => (t3 p' g h).trans (hne p' g h)⟩
      · rw [if_neg h2, if_neg (fun h => h2 h.2)]
        exact ih (k + 1) f m σ h4 hm hp (by omega) (by omega)
    · rw [if_neg (fun h => h1 (hv2.mp h)), if_neg (fun h => h1 h.1)]
      exact ih (k + 1) f m σ h4 hm hp (by omega) (by omega)
theorem c_mark (N : Nat) (hN : 7 ≤ N) {p : Nat} {s : Nat → Nat} (hs : s38 s) {mm : Nat} (hmm : mm ≤ 3) {σ : St} (hp : PS σ p s) : ∃ τ m, f_X0_mark N p (nI mm) σ = some τ ∧ τ p 4 = nI m ∧ m < 64 ∧ (∀ w, w < 6 → tb m w = lt mm s w) ∧ ∀ p' g, ¬ (p' = p ∧ g = 4) → τ p' g = σ p' g := by
  have hne : ∀ p' g, ¬ (p' = p ∧ g = 4) → su σ p 4 0 p' g = σ p' g := fun p' g h => su_ne σ _ h
  obtain ⟨τ, t1, t2, t3⟩ := c_mark' N hN hs hmm (nI mm) 6 0 N 0 (su σ p 4 0) (su_same _ _ _ _) (by decide) ⟨(hne _ _ (by omega)).trans hp.1, (hne _ _ (by omega)).trans hp.2.1, (hne _ _ (by omega)).trans hp.2.2⟩ rfl (by omega)
  obtain ⟨a, b⟩ := mkm_spec s mm 6 0 0 rfl (by decide) (fun w hw => by omega) (fun w _ => tb_0 w)
  exact ⟨τ, _, t1, t2, a, b, fun p' g h => (t3 p' g h).trans (hne p' g h)⟩
theorem q_pop : ∀ m, m < 64 → ∃ v, v = nI (cnt m) ∧ ∀ N σ, f_J6_bitCount_0f7a4 N (nI m) σ = some (v, σ) := by
  have key : ∀ m, m < 64 → (f_J6_bitCount_0f7a4 0 (nI m) (fun _ _ => 0)).map Prod.fst = some (nI (cnt m)) := by decide +kernel
  intro m hm
  have := key m hm
  exact ⟨_, rfl, fun N σ => by
    unfold f_J6_bitCount_0f7a4 at *
    simp only [Option.map_some, Option.some.injEq] at this
    rw [this]⟩
