/-! layer 2: the reference's solve; both -/
theorem r_solve (N : Nat) (hN : 40000 ≤ N) {c : CT} {rk : Nat → Nat} {pk : Nat → Int32} {cl sd : Nat} {al : Bool} {V : PV} {τ : St} (hA : AI c rk pk V) (hR : RI c rk pk cl sd al V τ) {s : Nat} (hs : s ≤ 3000) {A : AC} (hAe : srch (setS c s (ordL (xN c) rk (unp pk))) (ordL (xN c) rk (unp pk)) E0 A0 = A) (hG : GA (setS c s (ordL (xN c) rk (unp pk))) A) :
    ∃ υ, f_X4_solve N (nI s) τ = some (nI (vol A.2.2.1), υ) ∧ RI c rk pk cl A.1 (!A.2.2.2) A.2.2.1 υ ∧ υ 25 0 = 0 ∧ ∀ q f, (q < 25 ∨ q = 51) → υ q f = τ q f := by
  have hn := hR.1.2
  have hR0 := hR.s25 (v := 0)
  obtain ⟨τ1, a1, a2, a3⟩ := r_s31 N (nI s) (nI s) 6 0 N (su τ 25 0 0) rfl (by omega)
  have hru : RU τ1 (xN c) rk (unp pk) := (hR0.ru hA).fr fun q f e => a3 q f (by omega)
  obtain ⟨τ2, b1, b2, b3⟩ := r_order N (by omega) hru
  obtain ⟨τ3, d1, d2, d3⟩ := r_s71 N (nI s) (nI s) 6 0 N (su (su (su τ2 25 20 0) 25 21 0) 25 26 0) rfl (by omega)
  have hall : ∀ q f, ¬ (q = 39 ∧ f < 6) → ¬ (q = 25 ∧ (f = 20 ∨ f = 21 ∨ f = 26 ∨ f = 28)) → q ≠ 43 → ¬ (q = 32 ∧ f < 6) → τ3 q f = su τ 25 0 0 q f := fun q f e1 e2 e3 e4 => by
    rw [d3 q f (by omega), su_ne _ _ (by omega), su_ne _ _ (by omega), su_ne _ _ (by omega), b3 q f e3 (by omega), a3 q f (by omega)]
  have hc' : CTok (setS c s (ordL (xN c) rk (unp pk))) := ⟨hA.1.1, hn, hs, hA.1.2.2.2.1, hA.1.2.2.2.2⟩
  have hlen := ordL_len (xN c) rk (unp pk)
  have hmem : ∀ p, p ∈ ordL (xN c) rk (unp pk) → p < xN c ∧ E0 p 0 = 0 := fun p hp => ⟨(catL_mem _ _ hp).1, rfl⟩
  have h28 : τ3 25 28 = nI (ordL (xN c) rk (unp pk)).length := by
    rw [d3 _ _ (by omega), su_ne _ _ (by omega), su_ne _ _ (by omega), su_ne _ _ (by omega)]; exact b2.1
  have h43 : ∀ j p, (ordL (xN c) rk (unp pk))[j]? = some p → τ3 43 j = nI p := fun j p hp => by
    rw [d3 _ _ (by omega), su_ne _ _ (by omega), su_ne _ _ (by omega), su_ne _ _ (by omega)]; exact b2.2 j p hp
  obtain ⟨⟨x1, x1'⟩, ⟨y0, y1, y2, y3⟩, x3, x4, x5, x6, x7, x8⟩ := hR0
  have k25 : ∀ f, f ≠ 20 → f ≠ 21 → f ≠ 26 → f ≠ 28 → τ3 25 f = su τ 25 0 0 25 f := fun f _ _ _ _ => hall _ _ (by omega) (by omega) (by omega) (by omega)
  have kr : ∀ q f, 26 ≤ q → q ≤ 31 → τ3 q f = su τ 25 0 0 q f := fun q f _ _ => hall _ _ (by omega) (by omega) (by omega) (by omega)
  have hRK : ∀ φ : St, (∀ q f, ¬ (44 ≤ q) → φ q f = τ3 q f) → RK (setS c s (ordL (xN c) rk (unp pk))) φ := fun φ hφ => by
    refine ⟨⟨(hφ _ _ (by omega)).trans ((k25 _ (by decide) (by decide) (by decide) (by decide)).trans x1), hn⟩, ⟨(hφ _ _ (by omega)).trans ((k25 _ (by decide) (by decide) (by decide) (by decide)).trans y0), (hφ _ _ (by omega)).trans ((k25 _ (by decide) (by decide) (by decide) (by decide)).trans y1), (hφ _ _ (by omega)).trans ((k25 _ (by decide) (by decide) (by decide) (by decide)).trans y2), y3⟩, (hφ _ _ (by omega)).trans ((k25 _ (by decide) (by decide) (by decide) (by decide)).trans x3), fun i hi => ?_, (hφ _ _ (by omega)).trans h28, fun j p hp => (hφ _ _ (by omega)).trans (h43 j p hp)⟩
    have hi' : i < xN c := hi
    obtain ⟨g1, g2, g3⟩ := x7 i (by omega)
    obtain ⟨⟨s0, s1, s2⟩, q1, q2, q3⟩ := g1 hi'
    exact ⟨(hφ _ _ (by omega)).trans ((kr _ _ (by omega) (by omega)).trans q1), (hφ _ _ (by omega)).trans ((kr _ _ (by omega) (by omega)).trans q2), ⟨(hφ _ _ (by omega)).trans ((kr _ _ (by omega) (by omega)).trans s0), (hφ _ _ (by omega)).trans ((kr _ _ (by omega) (by omega)).trans s1), (hφ _ _ (by omega)).trans ((kr _ _ (by omega) (by omega)).trans s2)⟩, (hφ _ _ (by omega)).trans ((kr _ _ (by omega) (by omega)).trans g2)⟩
  have h32 : ∀ i, i < 6 → τ3 32 i = -1 := fun i hi => by
    rw [d3 _ _ (by omega), su_ne _ _ (by omega), su_ne _ _ (by omega), su_ne _ _ (by omega), b3 _ _ (by omega) (by omega)]; exact a2 i (by omega) hi
  have hRV : ∀ φ : St, (∀ q f, ¬ (44 ≤ q) → φ q f = τ3 q f) → RV φ E0 := fun φ hφ i hi => ⟨fun _ => (hφ _ _ (by omega)).trans (h32 i hi), fun e => by cases e⟩
  have hRA : ∀ φ : St, (∀ q f, ¬ (44 ≤ q) → φ q f = τ3 q f) → RA φ A0 := fun φ hφ => by
    refine ⟨(hφ _ _ (by omega)).trans ?_, (hφ _ _ (by omega)).trans ?_, (hφ _ _ (by omega)).trans ?_, fun i hi => ⟨fun _ => (hφ _ _ (by omega)).trans (d2 i (by omega) hi), fun e => by cases e⟩⟩
    · rw [d3 _ _ (by omega), su_same]; rfl
    · rw [d3 _ _ (by omega), su_ne _ _ (by omega), su_ne _ _ (by omega), su_same]; rfl
    · rw [d3 _ _ (by omega), su_ne _ _ (by omega), su_same]; rfl
  -- the entry into the search
  obtain ⟨φ, p1, p2, p3, p4⟩ : ∃ φ, f_X4_search N (nI s) τ3 = lp_X4_search_21 N (nI s) N (nI s) (nI 0) φ ∧ (∀ q f, ¬ (44 ≤ q) → φ q f = τ3 q f) ∧ RDY φ 0 E0 (ordL (xN c) rk (unp pk)) ∧ ∀ q f, q = 51 → φ q f = τ3 q f := by
    unfold f_X4_search
    rw [h28]
    by_cases e : (ordL (xN c) rk (unp pk)).length = 0
    · rw [if_pos (by rw [q_le0 (by omega)]; exact e), if_pos (by decide)]
      exact ⟨su τ3 50 0 0, rfl, fun q f h => su_ne _ _ (by omega), ⟨su_same _ _ _ _, fun h => absurd (List.length_eq_zero_iff.mp e) h⟩, fun q f h => su_ne _ _ (by omega)⟩
    · rw [if_neg (by rw [q_le0 (by omega)]; exact e)]
      obtain ⟨φ, u1, u2, u3, u4, u5, u6, u7⟩ := r_enter N (by omega) (i := 0) (by decide) E0_sz (n := xN c) (fun _ _ => rfl) (fun a ha i _ h => by cases h) (hRK τ3 (fun _ _ _ => rfl)).1 (hRV τ3 (fun _ _ _ => rfl))
      have u1' : f_X4_enter N 0 τ3 = some φ := u1
      rw [u1', bv_some, if_pos (by decide)]
      refine ⟨su φ 50 0 0, rfl, fun q f h => ?_, ⟨su_same _ _ _ _, fun _ => ⟨u2.fr (fun q g e => su_ne _ _ (by omega)) (by decide), Pos.fr (τ := φ) ⟨u3, u4, u5, u6⟩ fun q h1 h2 => su_ne _ _ (by omega)⟩⟩, fun q f h => ?_⟩
      · rw [su_ne _ _ (by omega)]; exact u7 q f (by omega) (by omega) (by omega)
      · rw [su_ne _ _ (by omega)]; exact u7 q f (by omega) (by omega) (by omega)
  obtain ⟨υ, u, e1, e2, e3, e4, e5⟩ := r_search N (by omega) hc' (show (ordL (xN c) rk (unp pk)).length ≤ 6 by omega) (ordL (xN c) rk (unp pk)) [] E0 rfl hmem (catL_nodup _ _) (E0_vg _) A0 φ (A0_ga _) rfl (hRK φ p2) (hRV φ p2) (hRA φ p2) p3
  rw [hAe] at e1 e3 e4 e5
  have hA1 : A.1 ≤ s := hG.1
  have e1' : u + 12 * 0 ≤ 12 * A.1 + (2 * (ordL (xN c) rk (unp pk)).length + 1) := e1
  have hsr : f_X4_search N (nI s) τ3 = some (bI (!A.2.2.2), υ) := by
    rw [p1]
    obtain ⟨f, hf⟩ : ∃ f, N = (f + 1) + u := ⟨N - 1 - u, by omega⟩
    cases hcut : A.2.2.2
    · have := (e4 hcut).2 (f + 1)
      rw [← hf] at this
      refine this.trans ?_
      show lp_X4_search_21 N (nI s) (f + 1) (nI s) (nI 0 + -1) υ = _
      simp only [lp_X4_search_21]
      rw [if_pos (by decide)]; rfl
    · have := e5 hcut (f + 1)
      rw [← hf] at this
      exact this
  have hLF : ∀ q f, ¬ (32 ≤ q ∧ q ≤ 42) → ¬ (q = 25 ∧ (f = 20 ∨ f = 21 ∨ f = 26)) → ¬ (44 ≤ q ∧ q ≤ 50) → υ q f = φ q f := fun q f h1 h2 h3 => e2 q f h1 h2 (by omega) (by omega) (by omega) (by omega)
  obtain ⟨ψ, w1, w2, w3⟩ := r_s101 N hG.2.2.1 hG.2.2.2.1 hG.2.2.2.2.1 (nI s) (nI s) 6 0 N (su υ 25 27 (bI (!A.2.2.2))) (fun i hi => by
    have hi' : i < xN c := hi
    obtain ⟨⟨s0, s1, s2⟩, -⟩ := (x7 i (by omega)).1 hi'
    have hh : ∀ f, su υ 25 27 (bI (!A.2.2.2)) 26 f = su τ 25 0 0 26 f := fun f => by rw [su_ne _ _ (by omega), hLF _ _ (by omega) (by omega) (by omega), p2 _ _ (by omega)]; exact kr _ _ (by omega) (by omega)
    exact ⟨(hh _).trans s0, (hh _).trans s1, (hh _).trans s2⟩) (fun i hi => by
    rw [su_row (show 39 ≠ 25 by decide), su_row (show 40 ≠ 25 by decide), su_row (show 41 ≠ 25 by decide), su_row (show 42 ≠ 25 by decide)]
    exact e3.2.2.2 i hi) rfl (by omega)
  have hend : ∀ q f, q ≤ 51 → ¬ (32 ≤ q ∧ q ≤ 50) → ¬ (q = 25 ∧ (f = 20 ∨ f = 21 ∨ f = 26 ∨ f = 27 ∨ f = 28)) → ψ q f = su τ 25 0 0 q f := fun q f h0 h1 h2 => by
    rw [w3 q f (by omega), su_ne _ _ (by omega), hLF q f (by omega) (by omega) (by omega)]
    by_cases h51 : q = 51
    · rw [p4 q f h51]; exact hall q f (by omega) (by omega) (by omega) (by omega)
    · rw [p2 q f (by omega)]; exact hall q f (by omega) (by omega) (by omega) (by omega)
  have e25 : ∀ f, f ≠ 20 → f ≠ 21 → f ≠ 26 → f ≠ 27 → f ≠ 28 → ψ 25 f = su τ 25 0 0 25 f := fun f _ _ _ _ _ => hend _ _ (by omega) (by omega) (by omega)
  have er : ∀ q f, 26 ≤ q → q ≤ 31 → ψ q f = su τ 25 0 0 q f := fun q f _ _ => hend _ _ (by omega) (by omega) (by omega)
  refine ⟨ψ, ?_, ⟨⟨(e25 _ (by decide) (by decide) (by decide) (by decide) (by decide)).trans x1, x1'⟩, ⟨(e25 _ (by decide) (by decide) (by decide) (by decide) (by decide)).trans y0, (e25 _ (by decide) (by decide) (by decide) (by decide) (by decide)).trans y1, (e25 _ (by decide) (by decide) (by decide) (by decide) (by decide)).trans y2, y3⟩, (e25 _ (by decide) (by decide) (by decide) (by decide) (by decide)).trans x3, (e25 _ (by decide) (by decide) (by decide) (by decide) (by decide)).trans x4, ?_, ?_, fun i hi => (x7 i hi).fr fun q f h1 h2 _ _ => er q f h1 h2, fun i hi => w2 i (by omega) hi⟩, ?_, fun q f h => ?_⟩
  · have a1' : lp_X4_solve_31 N (nI s) N (nI s) 0 (su τ 25 0 0) = _ := a1
    have d1' : lp_X4_solve_71 N (nI s) N (nI s) 0 (su (su (su τ2 25 20 0) 25 21 0) 25 26 0) = _ := d1
    have w1' : lp_X4_solve_101 N (nI s) N (nI s) 0 (su υ 25 27 (bI (!A.2.2.2))) = _ := w1
    unfold f_X4_solve
    rw [show (3000 : Int32) = nI 3000 from rfl, r_not_in N τ hs (by decide), bn_some, if_pos rfl, su_same, if_pos rfl, a1', b1, bv_some, d1', hsr, bn_some, if_pos (of_eq_true (bI_ok _)), w1', su_ne _ _ (by omega), e3.2.2.1, ga_best hG]
  · rw [w3 _ _ (by omega), su_ne _ _ (by omega)]; exact e3.1
  · rw [w3 _ _ (by omega), su_same]
  · rw [e25 _ (by decide) (by decide) (by decide) (by decide) (by decide), su_same]
  · rw [hend q f (by omega) (by omega) (by omega), su_ne _ _ (by omega)]
theorem m_solve (N : Nat) (hN : 40000 ≤ N) (a : Int32) {k : Nat} {σ : St} (h : Good k σ) : MO N (f_L_solve N a) (f_X4_solve N a) k σ := by
  have h' := h
  obtain ⟨c, rk, pk, cl, sd, al, V, hA, hC, hR, hk⟩ := h'
  have hn := hR.1.2
  rcases rng_case a 3000 (by decide) with ⟨s, hs, rfl⟩ | ha
  · have hc' : CTok (setS c s (ordL (xN c) rk (unp pk))) := ⟨hA.1.1, hn, hs, hA.1.2.2.2.1, hA.1.2.2.2.2⟩
    have hG := srch_GA hc' (ordL (xN c) rk (unp pk)) E0 A0 (fun p hp => ⟨(catL_mem _ _ hp).1, rfl⟩) (catL_nodup _ _) (E0_vg _) (A0_ga _)
    obtain ⟨τ, t1, t2, t3⟩ := c_solve N (by omega) hA hC hs rfl hG
    have hR1 : RI c rk pk cl sd al V (su τ 51 0 (nI (vol (srch (setS c s (ordL (xN c) rk (unp pk))) (ordL (xN c) rk (unp pk)) E0 A0).2.2.1))) := hR.fr fun q f e1 e2 _ _ => by rw [su_ne _ _ (by omega)]; exact t3 q f e1
    obtain ⟨υ, u1, u2, u3, u4⟩ := r_solve N hN hA hR1 hs rfl hG
    refine ⟨0, _, _, υ, t1, u1, u3, fun _ => ?_, c, rk, pk, cl, _, _, _, ⟨hA.1, hA.2.1, hA.2.2.1, hG.2.2.1, hG.2.2.2.1, hG.2.2.2.2.1⟩, ?_, u2, by omega⟩
    · rw [u4 _ _ (by omega), su_same]
    · exact t2.fr fun q f e1 e2 => by rw [u4 _ _ (by omega), su_ne _ _ (by omega)]
  · refine ⟨1, σ, 0, su σ 25 0 1, ?_, ?_, su_same _ _ _ _, fun e => absurd e (by decide), su25 h _⟩
    · unfold f_L_solve f_X3_solve
      rcases ha with ha | ⟨h1, h2⟩
      · rw [if_pos ha]; rfl
      · rw [if_neg h1, if_neg (show ¬ a ≤ 3000 from h2)]; rfl
    · unfold f_X4_solve
      rw [show (3000 : Int32) = nI 3000 from rfl, r_not_out N _ ha, bn_some, if_neg (by decide), su_same, if_neg (by decide)]
