/-! layer 2: the reference enters a level -/
theorem EN.fn {τ υ : St} {i a b : Nat} {L : List Nat} (h : EN τ i a L) (hL : L.length ≤ 8) (hi : i < 6) (ha : a < 3) (hb : b < 3) (hab : a ≠ b) (k : FN i b τ υ) : EN υ i a L := by
  refine ⟨(k _ _ (by omega) (by omega)).trans h.1, fun j e he => ?_⟩
  have hj : j < L.length := by
    refine Nat.lt_of_not_le fun hh => ?_
    rw [List.getElem?_eq_none hh] at he; cases he
  exact (k _ _ (by omega) (by omega)).trans (h.2 j e he)
def mE (V : PV) (a r k m : Nat) : Nat := mk6 (fun j => V j 0 == 1) (fun j => V j (1 + a) + V j (4 + a)) r k m
theorem mE_s {V : PV} {a r k m : Nat} : mE V a (r + 1) k m = mE V a r (k + 1) (if V k 0 = 1 then m ||| 2 ^ (V k (1 + a) + V k (4 + a)) else m) := by
  unfold mE
  rw [mk6]
  by_cases h : V k 0 = 1 <;> simp [h]
/-- what an entered level is -/
def LV (τ : St) (i : Nat) (V : PV) : Prop := ∀ a, a < 3 → EN τ i a (eL V a) ∧ (eL V a).length ≤ 7
def FE (i : Nat) (τ υ : St) : Prop := ∀ p g, ¬ (44 ≤ p ∧ p ≤ 47 ∧ g = i) → ¬ (p = 48 ∧ g % 56 / 8 = i) → ¬ (p = 49 ∧ g % 7 = i) → υ p g = τ p g
theorem FN.fe {i a : Nat} {τ υ : St} (hi : i < 6) (h : FN i a τ υ) : FE i τ υ := fun p g _ h2 h3 => h p g (by omega) (by omega)
theorem FE.tr {i : Nat} {τ υ φ : St} (h : FE i τ υ) (k : FE i υ φ) : FE i τ φ := fun p g h1 h2 h3 => (k p g h1 h2 h3).trans (h p g h1 h2 h3)
theorem RV.fe {i : Nat} {τ υ : St} {V : PV} (h : RV τ V) (k : ∀ p g, 32 ≤ p → p ≤ 38 → υ p g = τ p g) : RV υ V := fun j hj => ⟨fun h0 => (k _ _ (by omega) (by omega)).trans ((h j hj).1 h0), fun h1 => by
  obtain ⟨p0, p1, p2, p3, p4, p5, p6⟩ := (h j hj).2 h1
  exact ⟨(k _ _ (by omega) (by omega)).trans p0, (k _ _ (by omega) (by omega)).trans p1, (k _ _ (by omega) (by omega)).trans p2, (k _ _ (by omega) (by omega)).trans p3, (k _ _ (by omega) (by omega)).trans p4, (k _ _ (by omega) (by omega)).trans p5, (k _ _ (by omega) (by omega)).trans p6⟩⟩
set_option maxHeartbeats 1000000 in
theorem r_34 (N : Nat) (hN : 9 ≤ N) {i n : Nat} (hi : i < 6) {V : PV} (hs : SZ V) (he : ∀ a, a < 3 → ∀ i, i < 6 → V i 0 = 1 → V i (1 + a) + V i (4 + a) < 9) (c1 : Int32) :
    ∀ r k f m0 m1 m2 τ, RN τ n → RV τ V → k + r = n → r < f → EN τ i 0 (elf (tb m0) 9 0) → EN τ i 1 (elf (tb m1) 9 0) → EN τ i 2 (elf (tb m2) 9 0) → (elf (tb m0) 9 0).length ≤ 1 + k → (elf (tb m1) 9 0).length ≤ 1 + k → (elf (tb m2) 9 0).length ≤ 1 + k →
    ∃ υ, lp_X4_enter_34 N c1 f (nI i) (nI k) τ = some υ ∧ EN υ i 0 (elf (tb (mE V 0 r k m0)) 9 0) ∧ EN υ i 1 (elf (tb (mE V 1 r k m1)) 9 0) ∧ EN υ i 2 (elf (tb (mE V 2 r k m2)) 9 0) ∧ (elf (tb (mE V 0 r k m0)) 9 0).length ≤ 7 ∧ (elf (tb (mE V 1 r k m1)) 9 0).length ≤ 7 ∧ (elf (tb (mE V 2 r k m2)) 9 0).length ≤ 7 ∧ υ 44 i = nI 0 ∧ υ 45 i = nI 0 - 1 ∧ υ 46 i = nI 0 ∧ υ 47 i = nI 0 ∧ FE i τ υ := by
  intro r
  induction r with
  | zero =>
    intro k f m0 m1 m2 τ hn6 hV hk hf e0 e1 e2 l0 l1 l2
    obtain ⟨f, rfl, -⟩ := fuel1 hf
    have hn := hn6.2
    have hw : lp_X4_enter_34 N c1 (f + 1) (nI i) (nI k) τ = some (su (su (su (su τ 44 i 0) 45 i (-1)) 46 i 0) 47 i 0) := by
      simp only [lp_X4_enter_34, qnT hn6 (show n ≤ k by omega) (by omega), ↓reduceIte, q_inb (show i < 7 by omega) (by decide), q_ix (show i < 2 ^ 31 by omega)]
    have hne : ∀ p g, ¬ (44 ≤ p ∧ p ≤ 47 ∧ g = i) → su (su (su (su τ 44 i 0) 45 i (-1)) 46 i 0) 47 i 0 p g = τ p g := fun p g h => by
      rw [su_ne _ _ (by omega), su_ne _ _ (by omega), su_ne _ _ (by omega), su_ne _ _ (by omega)]
    refine ⟨_, hw, ⟨(hne _ _ (by omega)).trans e0.1, fun j e he => (hne _ _ (by omega)).trans (e0.2 j e he)⟩, ⟨(hne _ _ (by omega)).trans e1.1, fun j e he => (hne _ _ (by omega)).trans (e1.2 j e he)⟩, ⟨(hne _ _ (by omega)).trans e2.1, fun j e he => (hne _ _ (by omega)).trans (e2.2 j e he)⟩, ?_, ?_, ?_, ?_, ?_, ?_, ?_, fun p g h _ _ => hne p g h⟩
    · show (elf (tb m0) 9 0).length ≤ 7; omega
    · show (elf (tb m1) 9 0).length ≤ 7; omega
    · show (elf (tb m2) 9 0).length ≤ 7; omega
    · simp [su]; rfl
    · simp [su]; decide
    · simp [su]; rfl
    · simp [su]; rfl
  | succ r ih =>
    intro k f m0 m1 m2 τ hn6 hV hk hf e0 e1 e2 l0 l1 l2
    obtain ⟨f, rfl, hf⟩ := fuel1 hf
    have hn := hn6.2
    have hk6 : k < 6 := by omega
    rw [mE_s, mE_s, mE_s]
    simp only [lp_X4_enter_34, qnF hn6 (show k < n by omega), qiT hk6, qix hk6, nI_1, ↓reduceIte, r_way hV hs hk6]
    by_cases h0 : V k 0 = 0
    · rw [if_pos h0, if_neg (by omega), if_neg (by omega), if_neg (by omega)]
      exact ih (k + 1) f m0 m1 m2 τ hn6 hV (by omega) (by omega) e0 e1 e2 (by omega) (by omega) (by omega)
    · have h1 : V k 0 = 1 := by have := (hs k hk6).1; omega
      rw [if_neg h0, if_pos h1, if_pos h1, if_pos h1]
      have R := (hV k hk6).2 h1
      have w0 : V k 1 + V k 4 < 9 := he 0 (by decide) k hk6 h1
      have w1 : V k 2 + V k 5 < 9 := he 1 (by decide) k hk6 h1
      have w2 : V k 3 + V k 6 < 9 := he 2 (by decide) k hk6 h1
      obtain ⟨τ1, a1, a2, a3, a4⟩ := r_end N hN hi (a := 0) (by decide) w0 e0 (by omega)
      have e1' := e1.fn (by omega) hi (by decide) (by decide) (by decide) a4
      have e2' := e2.fn (by omega) hi (by decide) (by decide) (by decide) a4
      obtain ⟨τ2, b1, b2, b3, b4⟩ := r_end N hN hi (a := 1) (by decide) w1 e1' (by omega)
      have e0'' := a2.fn (by omega) hi (by decide) (by decide) (by decide) b4
      have e2'' := e2'.fn (by omega) hi (by decide) (by decide) (by decide) b4
      obtain ⟨τ3, d1, d2, d3, d4⟩ := r_end N hN hi (a := 2) (by decide) w2 e2'' (by omega)
      have e0''' := e0''.fn (by omega) hi (by decide) (by decide) (by decide) d4
      have e1''' := b2.fn (by omega) hi (by decide) (by decide) (by decide) d4
      have q1 : τ1 34 k = nI (V k 2) := (a4 _ _ (by omega) (by omega)).trans R.2.2.1
      have q2 : τ1 37 k = nI (V k 5) := (a4 _ _ (by omega) (by omega)).trans R.2.2.2.2.2.1
      have q3 : τ2 35 k = nI (V k 3) := ((b4 _ _ (by omega) (by omega)).trans (a4 _ _ (by omega) (by omega))).trans R.2.2.2.1
      have q4 : τ2 38 k = nI (V k 6) := ((b4 _ _ (by omega) (by omega)).trans (a4 _ _ (by omega) (by omega))).trans R.2.2.2.2.2.2
      have a1' : f_X4_end N (nI i) 0 (nI (V k 1 + V k 4)) τ = some τ1 := a1
      have b1' : f_X4_end N (nI i) 1 (nI (V k 2 + V k 5)) τ1 = some τ2 := b1
      have d1' : f_X4_end N (nI i) 2 (nI (V k 3 + V k 6)) τ2 = some τ3 := d1
      rw [R.2.1, R.2.2.2.2.1, nI_add, a1', bv_some, q1, q2, nI_add, b1', bv_some, q3, q4, nI_add, d1', bv_some]
      have hfr : ∀ p g, p ≠ 48 → p ≠ 49 → τ3 p g = τ p g := fun p g x1 x2 => ((d4 p g (by omega) (by omega)).trans (b4 p g (by omega) (by omega))).trans (a4 p g (by omega) (by omega))
      obtain ⟨υ, u1, u2, u3, u4, u5, u6, u7, u8, u9, u10, u11, u12⟩ := ih (k + 1) f (m0 ||| 2 ^ (V k 1 + V k 4)) (m1 ||| 2 ^ (V k 2 + V k 5)) (m2 ||| 2 ^ (V k 3 + V k 6)) τ3 ⟨(hfr _ _ (by decide) (by decide)).trans hn6.1, hn6.2⟩ (hV.fe (i := 0) fun p g x1 x2 => hfr p g (by omega) (by omega)) (by omega) (by omega) e0''' e1''' d2 (by omega) (by omega) (by omega)
      exact ⟨υ, u1, u2, u3, u4, u5, u6, u7, u8, u9, u10, u11, ((a4.fe hi).tr ((b4.fe hi).tr (d4.fe hi))).tr u12⟩
theorem mE_cut {V : PV} {n a m : Nat} (hn : n ≤ 6) (hnp : NP n V) : mE V a n 0 m = mE V a 6 0 m := by
  have : ∀ r k m, n ≤ k → mE V a r k m = m := by
    intro r
    induction r with
    | zero => intro k m _; rfl
    | succ r ih => intro k m hk; rw [mE_s, if_neg (by rw [hnp k hk]; decide)]; exact ih (k + 1) m (by omega)
  have split : ∀ r k m, k + r = n → mE V a (r + (6 - n)) k m = mE V a r k m := by
    intro r
    induction r with
    | zero => intro k m hk; rw [Nat.zero_add, this _ k m (by omega)]; rfl
    | succ r ih => intro k m hk; rw [show r + 1 + (6 - n) = (r + (6 - n)) + 1 by omega, mE_s, mE_s]; exact ih (k + 1) _ (by omega)
  have := split n 0 m (by omega)
  rw [show n + (6 - n) = 6 by omega] at this
  exact this.symm
theorem r_enter (N : Nat) (hN : 9 ≤ N) {i n : Nat} (hi : i < 6) {V : PV} (hs : SZ V) (hnp : NP n V) (he : ∀ a, a < 3 → ∀ i, i < 6 → V i 0 = 1 → V i (1 + a) + V i (4 + a) < 9) {τ : St} (hn6 : RN τ n) (hV : RV τ V) : ∃ υ, f_X4_enter N (nI i) τ = some υ ∧ LV υ i V ∧ υ 44 i = nI 0 ∧ υ 45 i = nI 0 - 1 ∧ υ 46 i = nI 0 ∧ υ 47 i = nI 0 ∧ FE i τ υ := by
  have hn := hn6.2
  have hE0 : elf (tb 0) 9 0 = [] := by decide
  have hE1 : elf (tb 1) 9 0 = [0] := by decide
  have st : ∀ a τ, a < 3 → ∃ υ, f_X4_end N (nI i) (nI a) 0 (su τ 49 (7 * a + i) 0) = some υ ∧ EN υ i a (elf (tb 1) 9 0) ∧ FN i a τ υ := fun a τ ha => by
    obtain ⟨υ, u1, u2, -, u4⟩ := r_end N hN hi ha (v := 0) (m := 0) (by decide) (τ := su τ 49 (7 * a + i) 0) ⟨by rw [su_same, hE0]; rfl, fun k e hk => by rw [hE0] at hk; cases hk⟩ (by rw [hE0]; decide)
    exact ⟨υ, u1, u2, fun p g h1 h2 => by rw [u4 p g h1 h2, su_ne _ _ (by omega)]⟩
  have hl1 : (elf (tb 1) 9 0).length = 1 := by rw [hE1]; rfl
  obtain ⟨τ1, a1, a2, a3⟩ := st 0 τ (by decide)
  obtain ⟨τ2, b1, b2, b3⟩ := st 1 τ1 (by decide)
  obtain ⟨τ3, d1, d2, d3⟩ := st 2 τ2 (by decide)
  have e0 := (a2.fn (by omega) hi (by decide) (by decide) (by decide) b3).fn (by omega) hi (by decide) (by decide) (by decide) d3
  have e1 := b2.fn (by omega) hi (by decide) (by decide) (by decide) d3
  have hfr : ∀ p g, p ≠ 48 → p ≠ 49 → τ3 p g = τ p g := fun p g x1 x2 => ((d3 p g (by omega) (by omega)).trans (b3 p g (by omega) (by omega))).trans (a3 p g (by omega) (by omega))
  obtain ⟨υ, u1, u2, u3, u4, u5, u6, u7, u8, u9, u10, u11, u12⟩ := r_34 N hN hi (n := n) hs he (nI i) n 0 N 1 1 1 τ3 ⟨(hfr _ _ (by decide) (by decide)).trans hn6.1, hn6.2⟩ (hV.fe (i := 0) fun p g x1 x2 => hfr p g (by omega) (by omega)) (by omega) (by omega) e0 e1 d2 (by omega) (by omega) (by omega)
  rw [mE_cut hn hnp] at u2 u3 u4 u5 u6 u7
  refine ⟨υ, ?_, fun a ha => ?_, u8, u9, u10, u11, ((a3.fe hi).tr ((b3.fe hi).tr (d3.fe hi))).tr u12⟩
  · have step : ∀ a f τ υ, a < 3 → f_X4_end N (nI i) (nI a) 0 (su τ 49 (7 * a + i) 0) = some υ → lp_X4_enter_2 N (nI i) (f + 1) (nI i) (nI a) τ = lp_X4_enter_2 N (nI i) f (nI i) (nI (a + 1)) υ := fun a f τ υ ha h => by
      simp only [lp_X4_enter_2]
      rw [if_neg (by show ¬ nI 3 ≤ nI a; rw [q_le (by decide) (by omega)]; omega), show (7 : Int32) * nI a = nI (7 * a) from q_mul 7 a, nI_add, if_pos (q_inb (by omega) (by decide)), q_ix (by omega), h, bv_some, nI_1]
    unfold f_X4_enter
    obtain ⟨N', hN'⟩ : ∃ N', N = N' + 4 := ⟨N - 4, by omega⟩
    have h1 := step 0 (N' + 3) τ τ1 (by decide) a1
    have h2 := step 1 (N' + 2) τ1 τ2 (by decide) b1
    have h3 := step 2 (N' + 1) τ2 τ3 (by decide) d1
    have h4 : lp_X4_enter_2 N (nI i) (N' + 1) (nI i) (nI (2 + 1)) τ3 = lp_X4_enter_34 N (nI i) N (nI i) (nI 0) τ3 := by
      simp only [lp_X4_enter_2]
      rw [if_pos (by decide)]; rfl
    have := h1.trans (h2.trans (h3.trans (h4.trans u1)))
    rw [show N' + 3 + 1 = N by omega] at this
    exact this
  · rcases lt3 ha with rfl | rfl | rfl
    · exact ⟨u2, u5⟩
    · exact ⟨u3, u6⟩
    · exact ⟨u4, u7⟩
