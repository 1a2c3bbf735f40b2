/-! layer 2: solve -/
def setS (c : CT) (s : Nat) (O : List Nat) : CT := (c.1, c.2.1, c.2.2.1, c.2.2.2.1, c.2.2.2.2.1, c.2.2.2.2.2.1, s, xN c, O)
def E0 : PV := fun _ _ => 0
theorem E0_sz : SZ E0 := fun _ _ => ⟨Nat.zero_le 1, fun e => by cases e⟩
theorem E0_vg (c : CT) : VG c E0 := ⟨E0_sz, (fun _ _ e => by cases e), fun _ _ => rfl, (ba_iff _ _ _).mpr fun j _ _ => decide_eq_true fun e => by cases e⟩
def A0 : AC := (0, 0, E0, false)
theorem A0_ga (c : CT) : GA c A0 := ⟨Nat.zero_le _, Nat.zero_le _, E0_sz, (fun _ _ e => by cases e), fun _ _ => rfl, Or.inr ⟨rfl, fun _ => rfl⟩⟩
theorem ga_best {c : CT} {A : AC} (h : GA c A) : A.2.1 - 1 = vol A.2.2.1 := by
  rcases h.2.2.2.2.2 with e | ⟨e1, e2⟩
  · omega
  · rw [e1]
    refine (up_zero 6 0 fun j _ _ => ?_).symm
    rw [volT, if_neg (by rw [e2 j]; decide)]
theorem c_solve (N : Nat) (hN : 11 ≤ N) {c : CT} {rk : Nat → Nat} {pk : Nat → Int32} {cl sd : Nat} {al : Bool} {V : PV} {σ : St} (hA : AI c rk pk V) (hC : CI c rk pk cl sd al V σ) {s : Nat} (hs : s ≤ 3000) {A : AC} (hAe : srch (setS c s (ordL (xN c) rk (unp pk))) (ordL (xN c) rk (unp pk)) E0 A0 = A) (hG : GA (setS c s (ordL (xN c) rk (unp pk))) A) :
    ∃ τ, f_L_solve N (nI s) σ = some (0, su τ 51 0 (nI (vol A.2.2.1))) ∧ CI c rk pk cl A.1 (!A.2.2.2) A.2.2.1 τ ∧ ∀ q f, 25 ≤ q → τ q f = σ q f := by
  have hn := hA.1.2.1
  have hcu := hC.cu hA
  obtain ⟨τ1, t1, t2, t3⟩ := c_clear N 0 (by omega) σ
  have hτ2 : ∀ q f, ¬ (f = 0 ∧ 13 ≤ q ∧ q < 19) → ¬ (q = 0 ∧ 8 ≤ f ∧ f ≤ 11) → su (su (su (su τ1 0 8 (nI s)) 0 9 0) 0 10 (-1)) 0 11 0 q f = σ q f := fun q f e1 e2 => by
    rw [su_ne _ _ (by omega), su_ne _ _ (by omega), su_ne _ _ (by omega), su_ne _ _ (by omega)]; exact t3 q f (by omega)
  obtain ⟨τ2, o1, o2, o3⟩ := c_order N hN hn (hcu.fr hn fun q f e => hτ2 q f (by omega) (by omega))
  have h2 : ∀ q f, ¬ (f = 0 ∧ 13 ≤ q ∧ q < 19) → ¬ (q = 0 ∧ 8 ≤ f ∧ f ≤ 11) → q ≠ 4 → ¬ (q = 0 ∧ f = 5) → τ2 q f = σ q f := fun q f e1 e2 e3 e4 => (o3 q f e3 e4).trans (hτ2 q f e1 e2)
  have hc' : CTok (setS c s (ordL (xN c) rk (unp pk))) := ⟨hA.1.1, hn, hs, hA.1.2.2.2.1, hA.1.2.2.2.2⟩
  have hlen := ordL_len (xN c) rk (unp pk)
  have hmem : ∀ p, p ∈ ordL (xN c) rk (unp pk) → p < xN c ∧ E0 p 0 = 0 := fun p hp => ⟨(catL_mem _ _ hp).1, rfl⟩
  obtain ⟨h1, h2', h3, h4, h5, ⟨b0, b1, b2, b3⟩, ⟨d0, d1, d2, d3⟩, h8, h9, h10, h11⟩ := id hC
  have hSim : Sim (setS c s (ordL (xN c) rk (unp pk))) E0 A0 τ2 := by
    refine ⟨⟨⟨(h2 _ _ (by omega) (by omega) (by omega) (by omega)).trans d0, (h2 _ _ (by omega) (by omega) (by omega) (by omega)).trans d1, (h2 _ _ (by omega) (by omega) (by omega) (by omega)).trans d2, d3⟩, (h2 _ _ (by omega) (by omega) (by omega) (by omega)).trans h2', ?_, fun i hi hi6 => ?_, o2⟩, ⟨fun i hi => ⟨?_, fun e => by cases e⟩, (fun i _ e => by cases e), (fun i _ e => by cases e)⟩, ?_, ?_, ?_, fun i hi => ⟨?_, fun e => by cases e⟩, (fun i _ e => by cases e)⟩
    · rw [o3 _ _ (by omega) (by omega), su_ne _ _ (by omega), su_ne _ _ (by omega), su_ne _ _ (by omega), su_same]; rfl
    · obtain ⟨g1, g2, g3, g4, g5⟩ := (h8 i hi6).fr (τ := τ2) fun f => h2 _ _ (by omega) (by omega) (by omega) (by omega)
      have hi' : i < xN c := hi
      obtain ⟨g6, g7⟩ := g1 hi'
      exact ⟨g6, g7, g2, g3⟩
    · rw [show 13 + 6 * 1 + i = 19 + i by omega, h2 _ _ (by omega) (by omega) (by omega) (by omega)]; exact h11 i hi
    · rw [o3 _ _ (by omega) (by omega), su_ne _ _ (by omega), su_ne _ _ (by omega), su_same]; rfl
    · rw [o3 _ _ (by omega) (by omega), su_ne _ _ (by omega), su_same]; decide
    · rw [o3 _ _ (by omega) (by omega), su_same]; rfl
    · rw [o3 _ _ (by omega) (by omega), su_ne _ _ (by omega), su_ne _ _ (by omega), su_ne _ _ (by omega), su_ne _ _ (by omega)]; exact t2 i hi
  obtain ⟨τ3, s1, s2, s3, -⟩ := c_search N hN hc' (ordL (xN c) rk (unp pk)) [] 8 E0 rfl (by omega) (by rw [List.length_nil]; omega) hmem (catL_nodup _ _) (E0_vg _) A0 τ2 (A0_ga _) rfl hSim
  rw [hAe] at s3
  have hd : ∀ b : Int32, ∀ q f, ¬ (q = 0 ∧ f = 12) → su τ3 0 12 b q f = τ3 q f := fun b q f e => su_ne τ3 _ e
  have hvol : ∀ b : Int32, f_X1_volume N 0 (su τ3 0 12 b) = some (nI (vol A.2.2.1), su τ3 0 12 b) := fun b => c_vol N 0 (by omega) (s3.2.2.2.2.2.1.fr fun q f _ _ _ => hd b q f (by omega)) hG.2.2.1
  refine ⟨su τ3 0 12 (bI (!A.2.2.2)), ?_, ?_, fun q f e => ?_⟩
  · unfold f_L_solve f_X3_solve f_X3_startSearch
    have s1' : f_X3_searchFrom N 8 0 τ2 = some τ3 := s1
    rw [if_neg (nI_pos (by omega)), if_pos (show nI s ≤ 3000 from (nI_leI (b := 3000) (by omega) (by decide)).mpr hs), t1, bv_some, o1, bv_some, bv_some, s1', bv_some]
    have e11 : τ3 0 11 = bI A.2.2.2 := s3.2.2.2.2.1
    simp only [e11, bI_and]
    cases hcut : A.2.2.2
    · rw [if_pos rfl, hvol 1, bn_some]; rfl
    · rw [if_neg (by decide), hvol 0, bn_some]; rfl
  · have kk : ∀ q f, q < 13 → ¬ (q = 0 ∧ 8 ≤ f) → ¬ (q = 0 ∧ f = 5) → q ≠ 4 → su τ3 0 12 (bI (!A.2.2.2)) q f = σ q f := fun q f e1 e2 e3 e4 => ((hd _ q f (by omega)).trans (s2 q f (by omega) (by omega))).trans (h2 q f (by omega) (by omega) e4 e3)
    refine ⟨(kk _ _ (by omega) (by omega) (by omega) (by omega)).trans h1, (kk _ _ (by omega) (by omega) (by omega) (by omega)).trans h2', (kk _ _ (by omega) (by omega) (by omega) (by omega)).trans h3, (hd _ _ _ (by omega)).trans s3.2.2.1, su_same _ _ _ _, ⟨(kk _ _ (by omega) (by omega) (by omega) (by omega)).trans b0, (kk _ _ (by omega) (by omega) (by omega) (by omega)).trans b1, (kk _ _ (by omega) (by omega) (by omega) (by omega)).trans b2, b3⟩, ⟨(kk _ _ (by omega) (by omega) (by omega) (by omega)).trans d0, (kk _ _ (by omega) (by omega) (by omega) (by omega)).trans d1, (kk _ _ (by omega) (by omega) (by omega) (by omega)).trans d2, d3⟩, fun i hi => (h8 i hi).fr fun f => kk _ _ (by omega) (by omega) (by omega) (by omega), s3.2.2.2.2.2.1.fr fun q f _ _ _ => hd _ q f (by omega), s3.2.2.2.2.2.2.fr fun q f _ _ _ => hd _ q f (by omega), fun i hi => ?_⟩
    have := (s3.2.1.1 i hi).1
    rw [show 13 + 6 * 1 + i = 19 + i by omega] at this
    rw [hd _ _ _ (by omega)]; exact this
  · rw [hd _ _ _ (by omega), s2 _ _ (by omega) (by omega), h2 _ _ (by omega) (by omega) (by omega) (by omega)]
theorem r_s31 (N : Nat) (c1 v1 : Int32) : ∀ r k f τ, k + r = 6 → r < f → ∃ υ, lp_X4_solve_31 N c1 f v1 (nI k) τ = (bv (f_X4_findOrder N υ) fun τ_1 => lp_X4_solve_71 N c1 N v1 0 (su (su (su τ_1 25 20 0) 25 21 0) 25 26 0)) ∧ (∀ i, k ≤ i → i < 6 → υ 32 i = -1) ∧ ∀ q g, ¬ (q = 32 ∧ k ≤ g ∧ g < 6) → υ q g = τ q g := by
  intro r
  induction r with
  | zero =>
    intro k f τ hk hf
    obtain ⟨f, rfl, -⟩ := fuel1 hf
    refine ⟨τ, ?_, fun i h1 h2 => by omega, fun _ _ _ => rfl⟩
    simp only [lp_X4_solve_31, q6T (show 6 ≤ k by omega) (by omega), ↓reduceIte]
  | succ r ih =>
    intro k f τ hk hf
    obtain ⟨f, rfl, hf⟩ := fuel1 hf
    have hk6 : k < 6 := by omega
    obtain ⟨υ, u1, u2, u3⟩ := ih (k + 1) f (su τ 32 k (-1)) (by omega) (by omega)
    refine ⟨υ, ?_, fun i h1 h2 => ?_, fun q g h => by rw [u3 q g (by omega), su_ne _ _ (by omega)]⟩
    · simp only [lp_X4_solve_31, q6F hk6, qiT hk6, qix hk6, nI_1, ↓reduceIte]; exact u1
    · by_cases e : i = k
      · subst e; rw [u3 _ _ (by omega), su_same]
      · exact u2 i (by omega) h2
theorem r_s71 (N : Nat) (c1 v1 : Int32) : ∀ r k f τ, k + r = 6 → r < f → ∃ υ, lp_X4_solve_71 N c1 f v1 (nI k) τ = (bn (f_X4_search N v1 υ) fun r_1 τ_1 => if r_1 = 0 ∨ r_1 = 1 then lp_X4_solve_101 N c1 N v1 0 (su τ_1 25 27 r_1) else none) ∧ (∀ i, k ≤ i → i < 6 → υ 39 i = -1) ∧ ∀ q g, ¬ (q = 39 ∧ k ≤ g ∧ g < 6) → υ q g = τ q g := by
  intro r
  induction r with
  | zero =>
    intro k f τ hk hf
    obtain ⟨f, rfl, -⟩ := fuel1 hf
    refine ⟨τ, ?_, fun i h1 h2 => by omega, fun _ _ _ => rfl⟩
    simp only [lp_X4_solve_71, q6T (show 6 ≤ k by omega) (by omega), ↓reduceIte]
  | succ r ih =>
    intro k f τ hk hf
    obtain ⟨f, rfl, hf⟩ := fuel1 hf
    have hk6 : k < 6 := by omega
    obtain ⟨υ, u1, u2, u3⟩ := ih (k + 1) f (su τ 39 k (-1)) (by omega) (by omega)
    refine ⟨υ, ?_, fun i h1 h2 => ?_, fun q g h => by rw [u3 q g (by omega), su_ne _ _ (by omega)]⟩
    · simp only [lp_X4_solve_71, q6F hk6, qiT hk6, qix hk6, nI_1, ↓reduceIte]; exact u1
    · by_cases e : i = k
      · subst e; rw [u3 _ _ (by omega), su_same]
      · exact u2 i (by omega) h2
theorem r_s101 (N : Nat) {K : PV} {n : Nat} {S : PV} (hK : SZ K) (hD : DV S K) (hnp : NP n K) (c1 v1 : Int32) : ∀ r k f τ, (∀ i, i < n → RS τ i (S i)) → KR τ K → k + r = 6 → r < f → ∃ υ, lp_X4_solve_101 N c1 f v1 (nI k) τ = some (τ 25 21, υ) ∧ (∀ i, k ≤ i → i < 6 → (K i 0 = 0 → υ 32 i = -1) ∧ (K i 0 = 1 → RP υ i (K i))) ∧ ∀ q g, ¬ (32 ≤ q ∧ q ≤ 38 ∧ k ≤ g ∧ g < 6) → υ q g = τ q g := by
  intro r
  induction r with
  | zero =>
    intro k f τ hS hk' hk hf
    obtain ⟨f, rfl, -⟩ := fuel1 hf
    refine ⟨τ, ?_, fun i h1 h2 => by omega, fun _ _ _ => rfl⟩
    simp only [lp_X4_solve_101, q6T (show 6 ≤ k by omega) (by omega), ↓reduceIte]
  | succ r ih =>
    intro k f τ hS hKR hk hf
    obtain ⟨f, rfl, hf⟩ := fuel1 hf
    have hk6 : k < 6 := by omega
    have hne : ∀ q g, ¬ (q = 32 ∧ g = k) → su τ 32 k (-1) q g = τ q g := fun q g h => su_ne τ _ h
    have hne' : ∀ q, q ≠ 32 → su τ 32 k (-1) q = τ q := fun q h => su_row h
    obtain ⟨k0, k1⟩ := hKR k hk6
    by_cases e : K k 0 = 0
    · have h39 : (su τ 32 k (-1) 39 k < 0) = True := by rw [hne _ _ (by omega), k0 e]; exact q_neg1
      obtain ⟨υ, u1, u2, u3⟩ := ih (k + 1) f (su τ 32 k (-1)) (fun i hi => by
        obtain ⟨s0, s1, s2⟩ := hS i hi
        exact ⟨(hne _ _ (by omega)).trans s0, (hne _ _ (by omega)).trans s1, (hne _ _ (by omega)).trans s2⟩) (fun i hi => by
        obtain ⟨x1, x2⟩ := hKR i hi
        rw [hne' 39 (by decide), hne' 40 (by decide), hne' 41 (by decide), hne' 42 (by decide)]; exact ⟨x1, x2⟩) (by omega) (by omega)
      refine ⟨υ, ?_, fun i h1 h2 => ?_, fun q g h => by rw [u3 q g (by omega), hne q g (by omega)]⟩
      · simp only [lp_X4_solve_101, q6F hk6, qiT hk6, qix hk6, nI_1, ↓reduceIte, h39]
        rw [hne _ _ (by omega)] at u1; exact u1
      · by_cases e2 : i = k
        · subst e2
          exact ⟨fun _ => by rw [u3 _ _ (by omega), su_same], fun e3 => by omega⟩
        · exact u2 i (by omega) h2
    · have g : K k 0 = 1 := by have := (hK k hk6).1; omega
      obtain ⟨y0, y1, y2, y3⟩ := k1 g
      obtain ⟨d1, d2, d3, d4⟩ := hD k hk6 g
      have h39 : (su τ 32 k (-1) 39 k < 0) = False := by rw [hne _ _ (by omega), y0]; exact q_pos (by omega)
      have hkn : k < n := Nat.lt_of_not_le fun hh => by have := hnp k hh; omega
      have hRS : RS (su τ 32 k (-1)) k (S k) := by
        obtain ⟨s0, s1, s2⟩ := hS k hkn
        exact ⟨(hne _ _ (by omega)).trans s0, (hne _ _ (by omega)).trans s1, (hne _ _ (by omega)).trans s2⟩
      obtain ⟨φ, f1, f2, f3⟩ := r_stand N hRS hk6 d1 (K k 1) (K k 2) (K k 3) K
      have hφ : ∀ q g, ¬ (32 ≤ q ∧ q ≤ 38 ∧ g = k) → φ q g = τ q g := fun q g h => (f3 q g h).trans (hne q g (by omega))
      have hRP : RP φ k (K k) := by
        obtain ⟨z0, z1, z2, z3, z4, z5, z6⟩ := f2
        refine ⟨z0.trans ?_, z1.trans ?_, z2.trans ?_, z3.trans ?_, z4.trans ?_, z5.trans ?_, z6.trans ?_⟩ <;> simp [put, d2, d3, d4]
      obtain ⟨υ, u1, u2, u3⟩ := ih (k + 1) f φ (fun i hi => by
        obtain ⟨s0, s1, s2⟩ := hS i hi
        exact ⟨(hφ _ _ (by omega)).trans s0, (hφ _ _ (by omega)).trans s1, (hφ _ _ (by omega)).trans s2⟩) (fun i hi => by
        obtain ⟨x1, x2⟩ := hKR i hi
        rw [hφ 39 i (by omega), hφ 40 i (by omega), hφ 41 i (by omega), hφ 42 i (by omega)]; exact ⟨x1, x2⟩) (by omega) (by omega)
      refine ⟨υ, ?_, fun i h1 h2 => ?_, fun q g h => by rw [u3 q g (by omega), hφ q g (by omega)]⟩
      · simp only [lp_X4_solve_101, q6F hk6, qiT hk6, qix hk6, nI_1, ↓reduceIte, h39]
        rw [hne _ _ (by omega), hne _ _ (by omega), hne _ _ (by omega), hne _ _ (by omega), y0, y1, y2, y3, f1, bv_some]
        rw [hφ _ _ (by omega)] at u1; exact u1
      · by_cases e2 : i = k
        · subst e2
          refine ⟨fun e3 => by omega, fun _ => ?_⟩
          obtain ⟨z0, z1, z2, z3, z4, z5, z6⟩ := hRP
          exact ⟨(u3 _ _ (by omega)).trans z0, (u3 _ _ (by omega)).trans z1, (u3 _ _ (by omega)).trans z2, (u3 _ _ (by omega)).trans z3, (u3 _ _ (by omega)).trans z4, (u3 _ _ (by omega)).trans z5, (u3 _ _ (by omega)).trans z6⟩
        · exact u2 i (by omega) h2
