/-! layer 2: the class's search is the pure one -/
def FC (σ τ : St) : Prop := ∀ p f, ¬ (p = 0 ∧ 9 ≤ f ∧ f ≤ 11) → ¬ (13 ≤ p ∧ p < 25) → τ p f = σ p f
theorem FC.rf (σ : St) : FC σ σ := fun _ _ _ _ => rfl
theorem FC.tr {σ τ υ : St} (h : FC σ τ) (k : FC τ υ) : FC σ υ := fun p f h1 h2 => (k p f h1 h2).trans (h p f h1 h2)
/-- the order: behind d the pieces ps -/
def OC (σ : St) (d : Nat) (ps : List Nat) : Prop := σ 0 5 = nI (d + ps.length) ∧ ∀ j p, ps[j]? = some p → σ 4 (d + j) = nI p
theorem OC.fc {σ τ : St} {d : Nat} {ps : List Nat} (h : OC σ d ps) (k : FC σ τ) : OC τ d ps := ⟨(k _ _ (by omega) (by omega)).trans h.1, fun j p hp => (k _ _ (by omega) (by omega)).trans (h.2 j p hp)⟩
def CK (c : CT) (σ : St) : Prop := BX σ 3 0 (xB c) ∧ σ 0 6 = nI (xSh c) ∧ σ 0 8 = nI (xLim c) ∧ (∀ i, i < xN c → i < 6 → PS σ (5 + i) (xS c i) ∧ σ (5 + i) 3 = nI (xW c i) ∧ σ (5 + i) 5 = xL c i ∧ ∃ m, m < 64 ∧ σ (5 + i) 4 = nI m ∧ ∀ w, w < 6 → tb m w = lt (xM c i) (xS c i) w) ∧ OC σ 0 (xO c)
theorem CK.fc {c : CT} {σ τ : St} (h : CK c σ) (k : FC σ τ) : CK c τ := by
  obtain ⟨⟨b0, b1, b2, b3⟩, h1, h2, h3, h4⟩ := h
  refine ⟨⟨(k _ _ (by omega) (by omega)).trans b0, (k _ _ (by omega) (by omega)).trans b1, (k _ _ (by omega) (by omega)).trans b2, b3⟩, (k _ _ (by omega) (by omega)).trans h1, (k _ _ (by omega) (by omega)).trans h2, fun i hi hi6 => ?_, h4.fc k⟩
  obtain ⟨⟨p0, p1, p2⟩, g1, g2, m, g3, g4, g5⟩ := h3 i hi hi6
  exact ⟨⟨(k _ _ (by omega) (by omega)).trans p0, (k _ _ (by omega) (by omega)).trans p1, (k _ _ (by omega) (by omega)).trans p2⟩, (k _ _ (by omega) (by omega)).trans g1, (k _ _ (by omega) (by omega)).trans g2, m, g3, (k _ _ (by omega) (by omega)).trans g4, g5⟩
def TV (c : CT) (σ : St) (V : PV) : Prop := CV σ 1 V ∧ CWt σ 1 V (xW c) ∧ CLm σ 1 V (xL c)
def CA (c : CT) (σ : St) (A : AC) : Prop := σ 0 9 = nI A.1 ∧ σ 0 10 = nI A.2.1 - 1 ∧ σ 0 11 = bI A.2.2.2 ∧ CV σ 0 A.2.2.1 ∧ CWt σ 0 A.2.2.1 (xW c)
def Sim (c : CT) (V : PV) (A : AC) (σ : St) : Prop := CK c σ ∧ TV c σ V ∧ CA c σ A
/-- what is the same -/
theorem CV.fr {σ τ : St} {b : Nat} {V : PV} (h : CV σ b V) (k : ∀ p f, 13 + 6 * b ≤ p → p < 19 + 6 * b → f ≤ 9 → τ p f = σ p f) : CV τ b V := fun i hi => ⟨(k _ _ (by omega) (by omega) (by omega)).trans (h i hi).1, fun hp => ((h i hi).2 hp).of fun f _ h2 => k _ _ (by omega) (by omega) (by omega)⟩
theorem CWt.fr {σ τ : St} {b : Nat} {V : PV} {wt : Nat → Nat} (h : CWt σ b V wt) (k : ∀ p f, 13 + 6 * b ≤ p → p < 19 + 6 * b → f ≤ 9 → τ p f = σ p f) : CWt τ b V wt := fun i hi hp => (k _ _ (by omega) (by omega) (by omega)).trans (h i hi hp)
theorem CLm.fr {σ τ : St} {b : Nat} {V : PV} {lm : Nat → Int32} (h : CLm σ b V lm) (k : ∀ p f, 13 + 6 * b ≤ p → p < 19 + 6 * b → f ≤ 9 → τ p f = σ p f) : CLm τ b V lm := fun i hi hp => (k _ _ (by omega) (by omega) (by omega)).trans (h i hi hp)
theorem TV.fr {c : CT} {σ τ : St} {V : PV} (h : TV c σ V) (k : ∀ p f, 19 ≤ p → p < 25 → f ≤ 9 → τ p f = σ p f) : TV c τ V := ⟨h.1.fr (fun p f h1 h2 => k p f (by omega) (by omega)), h.2.1.fr (fun p f h1 h2 => k p f (by omega) (by omega)), h.2.2.fr (fun p f h1 h2 => k p f (by omega) (by omega))⟩
theorem CA.fr {c : CT} {σ τ : St} {A : AC} (h : CA c σ A) (k : ∀ p f, (p = 0 ∨ (13 ≤ p ∧ p < 19)) → f ≤ 11 → ¬ (1 ≤ p ∧ f = 10) → τ p f = σ p f) : CA c τ A := ⟨(k _ _ (by omega) (by omega) (by omega)).trans h.1, (k _ _ (by omega) (by omega) (by omega)).trans h.2.1, (k _ _ (by omega) (by omega) (by omega)).trans h.2.2.1, h.2.2.2.1.fr (fun p f h1 h2 h3 => k p f (by omega) (by omega) (by omega)), h.2.2.2.2.fr (fun p f h1 h2 h3 => k p f (by omega) (by omega) (by omega))⟩
theorem Sim.x10 {c : CT} {V : PV} {A : AC} {σ τ : St} (h : Sim c V A σ) (k : X10 1 σ τ) : Sim c V A τ := ⟨h.1.fc (fun p f _ _ => k p f (by omega)), h.2.1.fr (fun p f _ _ _ => k p f (by omega)), h.2.2.fr (fun p f _ _ _ => k p f (by omega))⟩
theorem X10.fc {σ τ : St} (k : X10 1 σ τ) : FC σ τ := fun p f _ _ => k p f (by omega)
theorem q_best {v b : Nat} (hv : v ≤ 4000) (hb : b ≤ 4000) : (nI v ≤ nI b - 1) = (v + 1 ≤ b) := by
  by_cases e : b = 0
  · subst e
    refine (eq_false ?_).trans (eq_false (by omega)).symm
    rw [show nI 0 - 1 = (-1 : Int32) by decide]
    intro h
    have h2 : (-1 : Int32) < 0 := by decide
    exact nI_pos (n := v) (by omega) (Int32.lt_of_le_of_lt h h2)
  · have : nI b - 1 = nI (b - 1) := by
      have := nI_pred (b - 1)
      rwa [show b - 1 + 1 = b by omega] at this
    rw [this, q_le (by omega) (by omega)]
    exact propext ⟨fun h => by omega, fun h => by omega⟩
theorem c_look (N : Nat) (hN : 7 ≤ N) {c : CT} {V : PV} (hg : VG c V) {A : AC} (hA : GA c A) {σ : St} (h : Sim c V A σ) : ∃ τ, f_X3_lookAtTrial N σ = some τ ∧ FC σ τ ∧ Sim c V (lookA V A) τ := by
  obtain ⟨hk, ht, ha⟩ := h
  have hv := vol_le hg.1
  unfold f_X3_lookAtTrial
  rw [c_vol N 1 hN ht.1 hg.1, bn_some, ha.2.1]
  have hA2 := hA.2.1
  simp only [q_best (show up (volT V) 6 0 ≤ 4000 from by have : up (volT V) 6 0 = vol V := rfl; omega) hA2]
  unfold lookA vol
  by_cases h1 : up (volT V) 6 0 + 1 ≤ A.2.1
  · rw [if_pos h1, if_neg (by omega)]
    exact ⟨σ, rfl, FC.rf _, hk, ht, ha⟩
  · rw [if_neg h1, if_pos (by omega)]
    have hne : ∀ p f, ¬ (p = 0 ∧ f = 10) → su σ 0 10 (nI (up (volT V) 6 0)) p f = σ p f := fun p f e => su_ne σ _ e
    have ht1 : TV c (su σ 0 10 (nI (up (volT V) 6 0))) V := ht.fr (fun p f _ _ _ => hne p f (by omega))
    obtain ⟨τ, t1, t2, t3⟩ := c_cpy N hN hg.1 ht1.1
    refine ⟨τ, by rw [t1]; rfl, ?_, ?_, ?_, ?_⟩
    · intro p f e1 e2; rw [t3 p f (by omega), hne p f (by omega)]
    · exact hk.fc fun p f e1 e2 => by rw [t3 p f (by omega), hne p f (by omega)]
    · exact ht1.fr fun p f e1 e2 _ => t3 p f (by omega)
    · refine ⟨?_, ?_, ?_, ?_, ?_⟩
      · rw [t3 _ _ (by omega), hne _ _ (by omega)]; exact ha.1
      · rw [t3 _ _ (by omega), su_same]; exact (nI_pred _).symm
      · rw [t3 _ _ (by omega), hne _ _ (by omega)]; exact ha.2.2.1
      · intro i hi
        have e : ∀ f, f ≤ 9 → τ (13 + 6 * 0 + i) f = su σ 0 10 (nI (up (volT V) 6 0)) (13 + 6 * 1 + i) f := fun f hf => by
          have := t2 i f hi hf
          rwa [show 13 + 6 * 0 + i = 13 + i by omega, show 13 + 6 * 1 + i = 19 + i by omega]
        refine ⟨(e 0 (by omega)).trans (ht1.1 i hi).1, fun hp => ?_⟩
        obtain ⟨p1, p2, p3, p4, p5, p6, p7⟩ := (ht1.1 i hi).2 hp
        exact ⟨(e 1 (by omega)).trans p1, (e 2 (by omega)).trans p2, (e 3 (by omega)).trans p3, (e 4 (by omega)).trans p4, (e 5 (by omega)).trans p5, (e 6 (by omega)).trans p6, (e 7 (by omega)).trans p7⟩
      · intro i hi hp
        have := t2 i 8 hi (by omega)
        rw [show 13 + 6 * 0 + i = 13 + i by omega, this]
        have := ht1.2.1 i hi hp
        rwa [show 13 + 6 * 1 + i = 19 + i by omega] at this
theorem sim_leave {c : CT} {V : PV} {s : Nat → Nat} {p w x y z : Nat} {A : AC} {τ : St} (hp : p < 6) (hp0 : V p 0 = 0) (h : Sim c (put V s p w x y z) A τ) : Sim c V A (su τ (13 + 6 * 1 + p) 0 0) ∧ FC τ (su τ (13 + 6 * 1 + p) 0 0) := by
  have hne : ∀ q f, ¬ (q = 13 + 6 * 1 + p ∧ f = 0) → su τ (13 + 6 * 1 + p) 0 0 q f = τ q f := fun q f e => su_ne τ _ e
  have hf : FC τ (su τ (13 + 6 * 1 + p) 0 0) := fun q f _ e2 => hne q f (by omega)
  refine ⟨⟨h.1.fc hf, ⟨fun i hi => ?_, fun i hi hp1 => ?_, fun i hi hp1 => ?_⟩, h.2.2.fr fun q f e1 e2 e3 => hne q f (by omega)⟩, hf⟩
  · by_cases e : i = p
    · subst e
      refine ⟨by rw [su_same, hp0]; rfl, fun h1 => by omega⟩
    · have := h.2.1.1 i hi
      rw [put_ne _ _ _ _ _ _ e] at this
      exact ⟨(hne _ _ (by omega)).trans this.1, fun h1 => (this.2 h1).of fun f _ _ => hne _ _ (by omega)⟩
  · have e : i ≠ p := fun e => by subst e; omega
    have := h.2.1.2.1 i hi (by rw [put_ne _ _ _ _ _ _ e]; exact hp1)
    exact (hne _ _ (by omega)).trans this
  · have e : i ≠ p := fun e => by subst e; omega
    have := h.2.1.2.2 i hi (by rw [put_ne _ _ _ _ _ _ e]; exact hp1)
    exact (hne _ _ (by omega)).trans this
theorem sim_stand (N : Nat) {c : CT} (hc : CTok c) {V : PV} {p w x y z : Nat} {A : AC} {σ : St} (hp : p < xN c) (hw : w < 6) (h : Sim c V A σ) : ∃ τ, f_X2_stand N (13 + 6 * 1 + p) (5 + p) (nI w) (nI x) (nI y) (nI z) (su σ 0 9 (nI (A.1 + 1))) = some τ ∧ FC σ τ ∧ Sim c (put V (xS c p) p w x y z) (A.1 + 1, A.2.1, A.2.2.1, A.2.2.2) τ := by
  have hp6 : p < 6 := Nat.lt_of_lt_of_le hp hc.2.1
  have hne : ∀ q f, ¬ (q = 0 ∧ f = 9) → su σ 0 9 (nI (A.1 + 1)) q f = σ q f := fun q f e => su_ne σ _ e
  obtain ⟨⟨p0, p1, p2⟩, g1, g2, -⟩ := h.1.2.2.2.1 p hp hp6
  have hps : PS (su σ 0 9 (nI (A.1 + 1))) (5 + p) (xS c p) := ⟨(hne _ _ (by omega)).trans p0, (hne _ _ (by omega)).trans p1, (hne _ _ (by omega)).trans p2⟩
  obtain ⟨τ, t1, t2, t3, t4, t5, t6⟩ := c_stand N (q := 13 + 6 * 1 + p) (by omega) hps hw x y z V p
  have hf : FC σ τ := fun q f e1 e2 => (t2 q f (by omega)).trans (hne q f (by omega))
  refine ⟨τ, t1, hf, h.1.fc hf, ⟨fun i hi => ?_, fun i hi hp1 => ?_, fun i hi hp1 => ?_⟩, ?_, ?_, ?_, ?_, ?_⟩
  · by_cases e : i = p
    · subst e
      exact ⟨t3.trans (by rw [put_0]; rfl), fun _ => t4⟩
    · have := h.2.1.1 i hi
      rw [put_ne _ _ _ _ _ _ e]
      exact ⟨((t2 _ _ (by omega)).trans (hne _ _ (by omega))).trans this.1, fun h1 => (this.2 h1).of fun f _ _ => (t2 _ _ (by omega)).trans (hne _ _ (by omega))⟩
  · by_cases e : i = p
    · subst e
      exact (t5.trans (hne _ _ (by omega))).trans g1
    · rw [put_ne _ _ _ _ _ _ e] at hp1
      exact ((t2 _ _ (by omega)).trans (hne _ _ (by omega))).trans (h.2.1.2.1 i hi hp1)
  · by_cases e : i = p
    · subst e
      exact (t6.trans (hne _ _ (by omega))).trans g2
    · rw [put_ne _ _ _ _ _ _ e] at hp1
      exact ((t2 _ _ (by omega)).trans (hne _ _ (by omega))).trans (h.2.1.2.2 i hi hp1)
  · rw [t2 _ _ (by omega), su_same]
  · rw [t2 _ _ (by omega), hne _ _ (by omega)]; exact h.2.2.2.1
  · rw [t2 _ _ (by omega), hne _ _ (by omega)]; exact h.2.2.2.2.1
  · exact h.2.2.2.2.2.1.fr fun q f e1 e2 _ => (t2 _ _ (by omega)).trans (hne _ _ (by omega))
  · exact h.2.2.2.2.2.2.fr fun q f e1 e2 _ => (t2 _ _ (by omega)).trans (hne _ _ (by omega))
theorem q8T {k : Nat} (h : 9 ≤ k) (hk : k < 100) : ((8 : Int32) < nI k) = True := (q_lt (a := 8) (by decide) (by omega)).trans (eq_true (by omega))
theorem q8F {k : Nat} (h : k < 9) : ((8 : Int32) < nI k) = False := (q_lt (a := 8) (by decide) (by omega)).trans (eq_false (by omega))
theorem c_isIn (N : Nat) (σ : St) {m k : Nat} (hm : m < 512) (hk : k < 9) : f_X3_isIn N (nI m) (nI k) σ = some (bI (tb m k), σ) := by
  unfold f_X3_isIn
  simp only [q_bit1 hm hk]
  cases tb m k <;> rfl
theorem elf_f {f : Nat → Bool} {r k : Nat} (h : f k = false) : elf f (r + 1) k = elf f r (k + 1) := by rw [elf, if_neg (by rw [h]; decide)]
theorem elf_t {f : Nat → Bool} {r k : Nat} (h : f k = true) : elf f (r + 1) k = k :: elf f r (k + 1) := by rw [elf, if_pos h]
/-- what the deeper search does, of the plan with the piece put -/
def RC (c : CT) (rec : St → Option St) (recA : PV → AC → AC) (V' : PV) : Prop := VG c V' → ∀ A σ, GA c A → A.2.2.2 = false → Sim c V' A σ → ∃ τ, rec σ = some τ ∧ FC σ τ ∧ Sim c V' (recA V' A) τ ∧ GA c (recA V' A)
theorem bI_and (b : Bool) : ((bI b &&& 1 : Int32) = 0) = (b = false) := by cases b <;> simp [bI]
set_option maxHeartbeats 1000000 in
theorem c_79 (N : Nat) (hN : 9 ≤ N) {c : CT} (hc : CTok c) {V : PV} (hg : VG c V) {p : Nat} (hp : p < xN c) (hp0 : V p 0 = 0) {w y z d : Nat} (hw : w < 6) (hy : y < 9) (hz : z < 9) (rec : Int32 → St → Option St) (recA : PV → AC → AC)
    (hrec : ∀ x, x < 9 → RC c (rec (nI (d + 1))) recA (put V (xS c p) p w x y z)) {mx : Nat} (hmx : mx < 512) (a1 a4 v6 v7 : Int32) (k33 : Int32 → Int32 → Int32 → Int32 → Int32 → Int32 → St → Option St) (k56 : Int32 → Int32 → Int32 → Int32 → Int32 → Int32 → Int32 → St → Option St) :
    ∀ r k f A σ, k + r = 9 → r < f → GA c A → A.2.2.2 = false → Sim c V A σ → ∃ τ, FC σ τ ∧ Sim c V (fx c recA V p w y z (elf (tb mx) r k) A) τ ∧ GA c (fx c recA V p w y z (elf (tb mx) r k) A) ∧
      lp_X3_tryWay_79 N rec a1 (5 + p) (13 + 6 * 1 + p) a4 k33 k56 f (nI d) (nI w) (nI mx) v6 v7 (nI z) (nI y) (nI k) σ = if (fx c recA V p w y z (elf (tb mx) r k) A).2.2.2 = true then some τ else k56 (nI d) (nI w) (nI mx) v6 v7 (nI z) (nI (y + 1)) τ := by
  have hp6 : p < 6 := Nat.lt_of_lt_of_le hp hc.2.1
  intro r
  induction r with
  | zero =>
    intro k f A σ hk hf hA hcut h
    obtain ⟨f, rfl, -⟩ := fuel1 hf
    refine ⟨σ, FC.rf _, h, hA, ?_⟩
    simp only [lp_X3_tryWay_79, q8T (show 9 ≤ k by omega) (by omega), ↓reduceIte, nI_1]
    rw [if_neg (by show ¬ A.2.2.2 = true; rw [hcut]; decide)]
  | succ r ih =>
    intro k f A σ hk hf hA hcut h
    obtain ⟨f, rfl, hf⟩ := fuel1 hf
    have hk9 : k < 9 := by omega
    have e9 : σ 0 9 = nI A.1 := h.2.2.1
    have e8 : σ 0 8 = nI (xLim c) := h.1.2.2.1
    have l1 := hA.1
    have l2 := hc.2.2.1
    simp (disch := omega) only [lp_X3_tryWay_79, q8F hk9, ↓reduceIte, nI_1, c_isIn N σ hmx hk9, bn_some, bI_0, e9, e8, q_lt]
    by_cases h1 : tb mx k = false
    · have : elf (tb mx) (r + 1) k = elf (tb mx) r (k + 1) := elf_f h1
      rw [if_pos h1, this]
      exact ih (k + 1) f A σ (by omega) (by omega) hA hcut h
    · have : elf (tb mx) (r + 1) k = k :: elf (tb mx) r (k + 1) := elf_t (Bool.of_not_eq_false h1)
      rw [if_neg h1, this]
      have hfx : fx c recA V p w y z (k :: elf (tb mx) r (k + 1)) A = fx c recA V p w y z (elf (tb mx) r (k + 1)) (one c recA V p w k y z A) := rfl
      rw [hfx]
      by_cases h2 : A.1 < xLim c
      · rw [if_pos h2]
        obtain ⟨τ2, t1, t2, t3⟩ := sim_stand N hc (x := k) (y := y) (z := z) hp hw h
        rw [t1, bv_some]
        have hs' := put_sz hc hg.1 (p := p) (w := w) hp hw hk9 hy hz
        obtain ⟨τ3, u1, u2⟩ := c_isPlanWith N 1 (by omega) hs' hc.1 t3.1.1 t3.2.1.1 t3.2.1.2.1 t3.2.1.2.2 hp6 (put_0 _ _ _ _ _ _ _)
        rw [show τ2 0 6 = nI (xSh c) from t3.1.2.1, u1, bn_some]
        have hsame := ok_same (B := xB c) (sh := xSh c) (wt := xW c) (lm := xL c) hc.2.2.2.2.1 hp6 hs' (put_0 V (xS c p) p w k y z) hp0 (fun j hj => (put_ne V (xS c p) w k y z hj).symm) hg.2.2.2
        have t4 := t3.x10 u2
        simp only [bI_0, hsame]
        have hA1 : GA c (A.1 + 1, A.2.1, A.2.2.1, A.2.2.2) := ⟨h2, hA.2⟩
        by_cases h3 : okA (xB c) (xSh c) (xW c) (xL c) (put V (xS c p) p w k y z) = false
        · rw [if_pos h3]
          have h1' : one c recA V p w k y z A = (A.1 + 1, A.2.1, A.2.2.1, A.2.2.2) := by
            unfold one okC
            rw [if_neg (by rw [hcut]; decide), if_pos h2, if_neg (by rw [h3]; decide), hcut]
          rw [h1']
          obtain ⟨l3, l4⟩ := sim_leave hp6 hp0 t4
          obtain ⟨υ, v1, v2, v3, v4⟩ := ih (k + 1) f _ _ (by omega) (by omega) hA1 hcut l3
          refine ⟨υ, ((t2.tr u2.fc).tr l4).tr v1, v2, v3, ?_⟩
          unfold f_X2_leave
          rw [bv_some, if_pos (by rw [l3.2.2.2.2.1, bI_and]; exact hcut)]
          exact v4
        · rw [if_neg h3]
          have h3' := Bool.of_not_eq_false h3
          have h1' : one c recA V p w k y z A = recA (put V (xS c p) p w k y z) (A.1 + 1, A.2.1, A.2.2.1, A.2.2.2) := by
            unfold one okC
            rw [if_neg (by rw [hcut]; decide), if_pos h2, if_pos h3', hcut]
          rw [h1']
          obtain ⟨τ5, w1, w2, w3, w4⟩ := hrec k hk9 ⟨hs', put_dv hg.2.1 k y z hw, put_np hg.2.2.1 w k y z hp, h3'⟩ _ τ3 hA1 hcut t4
          obtain ⟨l3, l4⟩ := sim_leave hp6 hp0 w3
          rw [w1, bv_some]
          unfold f_X2_leave
          rw [bv_some]
          simp only [show (su τ5 (13 + 6 * 1 + p) 0 0) 0 11 = bI (recA (put V (xS c p) p w k y z) (A.1 + 1, A.2.1, A.2.2.1, A.2.2.2)).2.2.2 from l3.2.2.2.2.1, bI_and]
          by_cases h4 : (recA (put V (xS c p) p w k y z) (A.1 + 1, A.2.1, A.2.2.1, A.2.2.2)).2.2.2 = false
          · rw [if_pos h4]
            obtain ⟨υ, v1, v2, v3, v4⟩ := ih (k + 1) f _ _ (by omega) (by omega) w4 h4 l3
            exact ⟨υ, (((t2.tr u2.fc).tr w2).tr l4).tr v1, v2, v3, v4⟩
          · have h4' := Bool.of_not_eq_false h4
            rw [if_neg h4, fx_cut h4']
            exact ⟨_, ((t2.tr u2.fc).tr w2).tr l4, l3, w4, by rw [if_pos h4']⟩
      · rw [if_neg h2]
        have h1' : one c recA V p w k y z A = (A.1, A.2.1, A.2.2.1, true) := by
          unfold one
          rw [if_neg (by rw [hcut]; decide), if_neg h2]
        rw [h1', fx_cut rfl]
        have hne : ∀ q g, ¬ (q = 0 ∧ g = 11) → su σ 0 11 1 q g = σ q g := fun q g e => su_ne σ _ e
        have hf2 : FC σ (su σ 0 11 1) := fun q g e1 e2 => hne q g (by omega)
        refine ⟨_, hf2, ⟨h.1.fc hf2, h.2.1.fr (fun q g _ _ _ => hne q g (by omega)), (hne _ _ (by omega)).trans h.2.2.1, (hne _ _ (by omega)).trans h.2.2.2.1, su_same _ _ _ _, h.2.2.2.2.2.1.fr (fun q g _ _ _ => hne q g (by omega)), h.2.2.2.2.2.2.fr (fun q g _ _ _ => hne q g (by omega))⟩, hA, rfl⟩
