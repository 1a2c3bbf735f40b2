/-! layer 2: turn, rank -/
theorem r_turn51 (N : Nat) (hN : 9 ≤ N) {τ : St} {i m : Nat} {s : Nat → Nat} (hi : i < 6) (h : RS τ i s) (hs : s38 s) (hm : m ≤ 3) (hmk : τ 28 i = nI m) (c1 c2 v2 : Int32) : ∀ r k f a, k + r = 6 → r < f → lp_X4_turn_51 N c1 c2 f (nI i) v2 (nI a) (nI k) τ = some (nI (a + up (fun w => if lt m s w = true then 1 else 0) r k), τ) := by
  intro r
  induction r with
  | zero =>
    intro k f a hk hf
    obtain ⟨f, rfl, -⟩ := fuel1 hf
    simp only [lp_X4_turn_51, q6T (show 6 ≤ k by omega) (by omega), ↓reduceIte, up, Nat.add_zero]
  | succ r ih =>
    intro k f a hk hf
    obtain ⟨f, rfl, hf⟩ := fuel1 hf
    have hk6 : k < 6 := by omega
    simp only [lp_X4_turn_51, q6F hk6, ↓reduceIte, nI_1, r_let N (by omega) h hs hi hk6 hm hmk, bn_some, bI_0, Int32.add_zero, up]
    by_cases e : lt m s k = false
    · rw [if_pos e, ih (k + 1) f _ (by omega) (by omega), if_neg (by rw [e]; decide), Nat.zero_add]
    · rw [if_neg e, ih (k + 1) f _ (by omega) (by omega), if_pos (Bool.of_not_eq_false e), Nat.add_assoc]
theorem m_turn (N : Nat) (hN : 9 ≤ N) (a b : Int32) {k : Nat} {σ : St} (h : Good k σ) : MO N (f_L_turn N a b) (f_X4_turn N a b) k σ := by
  have h' := h
  obtain ⟨c, rk, pk, cl, sd, al, V, hA, hC, hR, hk⟩ := h'
  have hn := hR.1.2
  rcases arg_case a hn with ⟨p, hp, rfl⟩ | ha
  · have hp6 : p < 6 := by omega
    rcases rng_case b 3 (by decide) with ⟨m, hm, rfl⟩ | hb
    · have hcp := hA.1.2.2.2.1 p hp
      obtain ⟨g1, g2, -, g6, g7⟩ := hC.2.2.2.2.2.2.2.1 p hp6
      obtain ⟨τ, mm, t1, t2, t3, t4, t5⟩ := c_mark N (by omega) hcp.1 hm (g1 hp).1
      obtain ⟨v, hv1, hv2⟩ := q_pop mm t3
      have hcnt : cnt mm = up (fun w => if lt m (xS c p) w = true then 1 else 0) 6 0 := up_congr 6 0 fun j _ hj => by rw [t4 j (by omega)]
      have hne : ∀ q f, ¬ (q = 5 + p ∧ f = 4) → ¬ (q = 51 ∧ f = 0) → ¬ (q = 25 ∧ f = 0) → ¬ (q = 28 ∧ f = p) → su (su (su τ 51 0 v) 25 0 0) 28 p (nI m) q f = σ q f := fun q f e1 e2 e3 e4 => by rw [su_ne _ _ (by omega), su_ne _ _ (by omega), su_ne _ _ (by omega), t5 q f e1]
      refine ⟨0, su τ 51 0 v, v, su (su (su τ 51 0 v) 25 0 0) 28 p (nI m), ?_, ?_, ?_, fun _ => ?_, setM c p m, rk, pk, cl, sd, al, V, ?_, ?_, ?_, by omega⟩
      · unfold f_L_turn f_X3_turn f_X0_wayCount
        rw [c_known_in N hC.1 hn hp, bt_l, if_neg (nI_pos (by omega)), if_pos (show nI m ≤ 3 from (nI_leI (b := 3) (by omega) (by decide)).mpr hm), t1, bv_some, t2, hv2 N τ, bn_some, bn_some]; rfl
      · have hRN : RN (su τ 51 0 v) (xN c) := ⟨(su_ne _ _ (by omega)).trans ((t5 _ _ (by omega)).trans hR.1.1), hn⟩
        have hRS : RS (su (su (su τ 51 0 v) 25 0 0) 28 p (nI m)) p (xS c p) := by
          obtain ⟨s0, s1, s2⟩ := ((hR.2.2.2.2.2.2.1 p hp6).1 hp).1
          exact ⟨(hne _ _ (by omega) (by omega) (by omega) (by omega)).trans s0, (hne _ _ (by omega) (by omega) (by omega) (by omega)).trans s1, (hne _ _ (by omega) (by omega) (by omega) (by omega)).trans s2⟩
        have := r_turn51 N hN hp6 hRS hcp.1 hm (su_same _ _ _ _) (nI p) (nI m) (nI m) 6 0 N 0 rfl (by omega)
        rw [Nat.zero_add, ← hcnt, ← hv1] at this
        unfold f_X4_turn
        rw [show (3 : Int32) = nI 3 from rfl, r_noP_in N hRN hp, bn_some, if_pos rfl, r_not_in N _ hm (by decide), bn_some, if_pos rfl, su_same, if_pos rfl, if_pos (q_inb hp6 (by decide)), q_ix (by omega)]
        exact this
      · rw [su_ne _ _ (by omega), su_same]
      · rw [su_ne _ _ (by omega), su_ne _ _ (by omega), su_same]
      · refine ⟨⟨hA.1.1, hA.1.2.1, hA.1.2.2.1, fun i hi => ⟨(hA.1.2.2.2.1 i hi).1, ?_⟩, hA.1.2.2.2.2⟩, fun i hi => ?_, hA.2.2⟩
        · show (if i = p then m else xM c i) ≤ 3
          by_cases e : i = p
          · rw [if_pos e]; exact hm
          · rw [if_neg e]; exact (hA.1.2.2.2.1 i hi).2
        · have hi' : xN c ≤ i := hi
          have := hA.2.1 i hi
          refine ⟨this.1, this.2.1, this.2.2.1, ?_⟩
          show (if i = p then m else xM c i) = 0
          rw [if_neg (by omega)]; exact this.2.2.2
      · refine hC.one hp6 rfl rfl rfl rfl (fun q f e1 e2 _ => hne q f (by omega) (by omega) (by omega) (by omega)) ?_ (fun i hi e hpc => ?_)
        · have kk : ∀ f, f ≠ 4 → su (su (su τ 51 0 v) 25 0 0) 28 p (nI m) (5 + p) f = σ (5 + p) f := fun f e => hne _ _ (by omega) (by omega) (by omega) (by omega)
          refine ⟨fun h1 => ?_, (kk _ (by decide)).trans g2, ⟨mm, t3, ?_, fun w hw => ?_⟩, (kk _ (by decide)).trans g6, (kk _ (by decide)).trans g7⟩
          · obtain ⟨⟨s0, s1, s2⟩, w⟩ := g1 h1
            exact ⟨⟨(kk _ (by decide)).trans s0, (kk _ (by decide)).trans s1, (kk _ (by decide)).trans s2⟩, (kk _ (by decide)).trans w⟩
          · rw [su_ne _ _ (by omega), su_ne _ _ (by omega), su_ne _ _ (by omega)]; exact t2
          · show _ = lt (if p = p then m else xM c p) (xS c p) w
            rw [if_pos rfl]; exact t4 w hw
        · obtain ⟨g1, g2, ⟨m', g3, g4, g5⟩, g6⟩ := hpc
          refine ⟨g1, g2, ⟨m', g3, g4, fun w hw => ?_⟩, g6⟩
          show _ = lt (if i = p then m else xM c i) (xS c i) w
          rw [if_neg e]; exact g5 w hw
      · refine hR.one rfl rfl rfl (fun q f e => hne q f (by omega) (by omega) (by omega) (by omega)) (fun i hi => ?_)
        have g := hR.2.2.2.2.2.2.1 i hi
        by_cases e : i = p
        · subst e
          obtain ⟨g1, g2, g3⟩ := g
          have kk : ∀ q f, 26 ≤ q → q ≤ 31 → q ≠ 28 → su (su (su τ 51 0 v) 25 0 0) 28 i (nI m) q f = σ q f := fun q f _ _ _ => hne _ _ (by omega) (by omega) (by omega) (by omega)
          refine ⟨fun h1 => ?_, ?_, (kk _ _ (by omega) (by omega) (by omega)).trans g3⟩
          · obtain ⟨⟨s0, s1, s2⟩, q1, q2, q3⟩ := g1 h1
            exact ⟨⟨(kk _ _ (by omega) (by omega) (by omega)).trans s0, (kk _ _ (by omega) (by omega) (by omega)).trans s1, (kk _ _ (by omega) (by omega) (by omega)).trans s2⟩, (kk _ _ (by omega) (by omega) (by omega)).trans q1, (kk _ _ (by omega) (by omega) (by omega)).trans q2, (kk _ _ (by omega) (by omega) (by omega)).trans q3⟩
          · show _ = nI (if i = i then m else xM c i)
            rw [if_pos rfl, su_same]
        · have g' := g.fr (τ := su (su (su τ 51 0 v) 25 0 0) 28 p (nI m)) fun q f e1 e2 e3 e4 => hne q f (by omega) (by omega) (by omega) (by omega)
          obtain ⟨g1, g2, g3⟩ := g'
          refine ⟨g1, ?_, g3⟩
          show _ = nI (if i = p then m else xM c i)
          rw [if_neg e]; exact g2
    · refine ⟨2, σ, 0, su σ 25 0 2, ?_, ?_, su_same _ _ _ _, fun e => absurd e (by decide), su25 h _⟩
      · unfold f_L_turn f_X3_turn
        rw [c_known_in N hC.1 hn hp, bt_l]
        rcases hb with hb | ⟨h1, h2⟩
        · rw [if_pos hb]; rfl
        · rw [if_neg h1, if_neg (show ¬ b ≤ 3 from h2)]; rfl
      · unfold f_X4_turn
        rw [show (3 : Int32) = nI 3 from rfl, r_noP_in N hR.1 hp, bn_some, if_pos rfl, r_not_out N _ hb, bn_some, if_neg (by decide), su_same, if_neg (by decide)]
  · refine ⟨1, σ, 0, su σ 25 0 1, ?_, ?_, su_same _ _ _ _, fun e => absurd e (by decide), su25 h _⟩
    · unfold f_L_turn f_X3_turn
      rw [c_known_out N hC.1 ha, bt_r]; rfl
    · unfold f_X4_turn
      rw [r_noP_out N hR.1 ha, bn_some, if_neg (by decide), su_same, if_neg (by decide)]
theorem m_rank (N : Nat) (hN : 11 ≤ N) (a b : Int32) {k : Nat} {σ : St} (h : Good k σ) : MO N (f_L_rank N a b) (f_X4_rank N a b) k σ := by
  have h' := h
  obtain ⟨c, rk, pk, cl, sd, al, V, hA, hC, hR, hk⟩ := h'
  have hn := hR.1.2
  rcases arg_case a hn with ⟨p, hp, rfl⟩ | ha
  · have hp6 : p < 6 := by omega
    rcases rng_case b 9 (by decide) with ⟨r, hr, rfl⟩ | hb
    · have hA' : AI c (fun i => if i = p then r else rk i) pk V := by
        refine ⟨hA.1, fun i hi => ?_, fun i => ⟨?_, (hA.2.2.1 i).2⟩, hA.2.2.2⟩
        · have := hA.2.1 i hi
          refine ⟨this.1, ?_, this.2.2⟩
          show (if i = p then r else rk i) = 0
          rw [if_neg (by omega)]; exact this.2.1
        · show (if i = p then r else rk i) ≤ 9
          by_cases e : i = p
          · rw [if_pos e]; exact hr
          · rw [if_neg e]; exact (hA.2.2.1 i).1
      have hne : ∀ q f, ¬ (q = 5 + p ∧ f = 6) → su σ (5 + p) 6 (nI r) q f = σ q f := fun q f e => su_ne σ _ e
      have hC1 : CI c (fun i => if i = p then r else rk i) pk cl sd al V (su σ (5 + p) 6 (nI r)) := by
        refine hC.one hp6 rfl rfl rfl rfl (fun q f e1 e2 _ => hne q f (by omega)) ?_ (fun i hi e hpc => ?_)
        · obtain ⟨g1, g2, ⟨m, g3, g4, g5⟩, g6, g7⟩ := hC.2.2.2.2.2.2.2.1 p hp6
          refine ⟨fun h1 => ?_, (hne _ _ (by omega)).trans g2, ⟨m, g3, (hne _ _ (by omega)).trans g4, g5⟩, ?_, (hne _ _ (by omega)).trans g7⟩
          · obtain ⟨⟨s0, s1, s2⟩, w⟩ := g1 h1
            exact ⟨⟨(hne _ _ (by omega)).trans s0, (hne _ _ (by omega)).trans s1, (hne _ _ (by omega)).trans s2⟩, (hne _ _ (by omega)).trans w⟩
          · show _ = nI (if p = p then r else rk p)
            rw [if_pos rfl, su_same]
        · obtain ⟨g1, g2, g3, g4, g5⟩ := hpc
          refine ⟨g1, g2, g3, ?_, g5⟩
          show _ = nI (if i = p then r else rk i)
          rw [if_neg e]; exact g4
      -- the reference over a state τ1 that is σ but for the class
      have key : ∀ τ1 : St, (∀ q f, 25 ≤ q → q ≤ 50 → τ1 q f = σ q f) → ∃ υ, f_X4_rank N (nI p) (nI r) τ1 = some (if unp pk p = true then nI (up (befT (fun i => if i = p then r else rk i) (unp pk) p) (xN c) 0) else -1, υ) ∧ υ 25 0 = 0 ∧ (∀ q f, (q < 25 ∨ q = 51) → υ q f = τ1 q f) ∧ RI c (fun i => if i = p then r else rk i) pk cl sd al V υ := fun τ1 h1 => by
        have hR1 : RI c (fun i => if i = p then r else rk i) pk cl sd al V (su (su τ1 25 0 0) 30 p (nI r)) := by
          have hh : ∀ q f, 25 ≤ q → q ≤ 50 → ¬ (q = 25 ∧ f = 0) → ¬ (q = 30 ∧ f = p) → su (su τ1 25 0 0) 30 p (nI r) q f = σ q f := fun q f e1 e2 e3 e4 => by rw [su_ne _ _ (by omega), su_ne _ _ (by omega)]; exact h1 q f e1 e2
          refine hR.one rfl rfl rfl (fun q f e => hh q f (by omega) (by omega) (by omega) (by omega)) (fun i hi => ?_)
          have g := hR.2.2.2.2.2.2.1 i hi
          by_cases e : i = p
          · subst e
            obtain ⟨g1, g2, g3⟩ := g
            have kk : ∀ q f, 26 ≤ q → q ≤ 31 → q ≠ 30 → su (su τ1 25 0 0) 30 i (nI r) q f = σ q f := fun q f _ _ _ => hh _ _ (by omega) (by omega) (by omega) (by omega)
            refine ⟨fun h1 => ?_, (kk _ _ (by omega) (by omega) (by omega)).trans g2, ?_⟩
            · obtain ⟨⟨s0, s1, s2⟩, q1, q2, q3⟩ := g1 h1
              exact ⟨⟨(kk _ _ (by omega) (by omega) (by omega)).trans s0, (kk _ _ (by omega) (by omega) (by omega)).trans s1, (kk _ _ (by omega) (by omega) (by omega)).trans s2⟩, (kk _ _ (by omega) (by omega) (by omega)).trans q1, (kk _ _ (by omega) (by omega) (by omega)).trans q2, (kk _ _ (by omega) (by omega) (by omega)).trans q3⟩
            · show _ = nI (if i = i then r else rk i)
              rw [if_pos rfl, su_same]
          · have g' := g.fr (τ := su (su τ1 25 0 0) 30 p (nI r)) fun q f e1 e2 e3 e4 => hh q f (by omega) (by omega) (by omega) (by omega)
            obtain ⟨g1, g2, g3⟩ := g'
            refine ⟨g1, g2, ?_⟩
            show _ = nI (if i = p then r else rk i)
            rw [if_neg e]; exact g3
        obtain ⟨υ, u1, u2, u3⟩ := r_order N (by omega) (hR1.ru hA')
        have hlen := ordL_len (xN c) (fun i => if i = p then r else rk i) (unp pk)
        have hmem : ∀ x, x ∈ ordL (xN c) (fun i => if i = p then r else rk i) (unp pk) → x < 6 := fun x hx => by have := catL_mem _ _ hx; omega
        obtain ⟨N', rfl⟩ : ∃ N', N = N' + 1 := ⟨N - 1, by omega⟩
        have hRN : RN τ1 (xN c) := ⟨(h1 _ _ (by omega) (by omega)).trans hR.1.1, hn⟩
        refine ⟨υ, ?_, ?_, fun q f e => ?_, hR1.fr fun q f e1 e2 e3 e4 => u3 q f (by omega) (by omega)⟩
        · unfold f_X4_rank
          rw [show (9 : Int32) = nI 9 from rfl, r_noP_in _ hRN hp, bn_some, if_pos rfl, r_not_in _ _ hr (by decide), bn_some, if_pos rfl, su_same, if_pos rfl, if_pos (q_inb hp6 (by decide)), q_ix (by omega), u1, bv_some]
          by_cases hu : unp pk p = true
          · obtain ⟨X, Y, x1, x2, x3⟩ := rank_at (rk := fun i => if i = p then r else rk i) hp hu (by show (if p = p then r else rk p) ≤ 9; rw [if_pos rfl]; exact hr)
            have hX : X.length < (ordL (xN c) (fun i => if i = p then r else rk i) (unp pk)).length := by rw [x1, List.length_append, List.length_cons]; omega
            have := r_rank53 (N' + 1) u2 (by omega) hp6 hmem (nI p) (nI r) (nI r) (X := X) (Y := Y) (Or.inl ⟨x1, x2⟩) X.length 0 N' (by omega) (by omega) (fun _ => Or.inr trivial)
            rw [if_neg (fun e => by rw [e] at hX; omega)] at this
            rw [if_pos hu, ← x3]; exact this
          · have hno : p ∉ ordL (xN c) (fun i => if i = p then r else rk i) (unp pk) := fun hx => by have := catL_mem _ _ hx; exact hu this.2.1
            have := r_rank53 (N' + 1) u2 (by omega) hp6 hmem (nI p) (nI r) (nI r) (X := ordL (xN c) (fun i => if i = p then r else rk i) (unp pk)) (Y := []) (Or.inr ⟨rfl, rfl, hno⟩) (ordL (xN c) (fun i => if i = p then r else rk i) (unp pk)).length 0 N' (by omega) (by omega) (fun _ => Or.inr trivial)
            rw [if_pos rfl] at this
            rw [if_neg hu]; exact this
        · rw [u3 _ _ (by omega) (by omega), su_ne _ _ (by omega), su_same]
        · rw [u3 _ _ (by omega) (by omega), su_ne _ _ (by omega), su_ne _ _ (by omega)]
      have hcu := hC1.cu hA'
      have cls : f_L_rank N (nI p) (nI r) σ = some (0, su (su σ (5 + p) 6 (nI r)) 51 0 (if unp pk p = true then nI (up (befT (fun i => if i = p then r else rk i) (unp pk) p) (xN c) 0) else -1)) := by
        unfold f_L_rank f_X3_rank
        rw [c_known_in N hC.1 hn hp, bt_l, if_neg (nI_pos (by omega)), if_pos (show nI r ≤ 9 from (nI_leI (b := 9) (by omega) (by decide)).mpr hr), c_packed N hcu hp, bn_some]
        simp only [bI_0]
        by_cases hu : unp pk p = true
        · rw [if_pos (by rw [hu]; rfl), c_pos N (by omega) hcu hn hp, bn_some, if_pos hu]; rfl
        · rw [if_neg (by rw [Bool.eq_false_iff.mpr hu]; decide), if_neg hu]; rfl
      obtain ⟨υ, u1, u2, u3, u4⟩ := key _ (fun q f e1 e2 => show su (su σ (5 + p) 6 (nI r)) 51 0 (if unp pk p = true then nI (up (befT (fun i => if i = p then r else rk i) (unp pk) p) (xN c) 0) else -1) q f = σ q f by rw [su_ne _ _ (by omega), hne _ _ (by omega)])
      refine ⟨0, _, _, υ, cls, u1, u2, fun _ => ?_, c, _, pk, cl, sd, al, V, hA', ?_, u4, by omega⟩
      · rw [u3 _ _ (by omega), su_same]
      · exact hC1.fr fun q f e1 e2 => by rw [u3 _ _ (by omega), su_ne _ _ (by omega)]
    · refine ⟨2, σ, 0, su σ 25 0 2, ?_, ?_, su_same _ _ _ _, fun e => absurd e (by decide), su25 h _⟩
      · unfold f_L_rank f_X3_rank
        rw [c_known_in N hC.1 hn hp, bt_l]
        rcases hb with hb | ⟨h1, h2⟩
        · rw [if_pos hb]; rfl
        · rw [if_neg h1, if_neg (show ¬ b ≤ 9 from h2)]; rfl
      · unfold f_X4_rank
        rw [show (9 : Int32) = nI 9 from rfl, r_noP_in N hR.1 hp, bn_some, if_pos rfl, r_not_out N _ hb, bn_some, if_neg (by decide), su_same, if_neg (by decide)]
  · refine ⟨1, σ, 0, su σ 25 0 1, ?_, ?_, su_same _ _ _ _, fun e => absurd e (by decide), su25 h _⟩
    · unfold f_L_rank f_X3_rank
      rw [c_known_out N hC.1 ha, bt_r]; rfl
    · unfold f_X4_rank
      rw [r_noP_out N hR.1 ha, bn_some, if_neg (by decide), su_same, if_neg (by decide)]
