/-! layer 2: piece -/
def addP (c : CT) (s : Nat → Nat) (w : Nat) : CT := (c.1, (fun i => if i = xN c then w else xW c i), c.2.2.1, (fun i => if i = xN c then s else xS c i), c.2.2.2.2.1, c.2.2.2.2.2.1, c.2.2.2.2.2.2.1, xN c + 1, c.2.2.2.2.2.2.2.2)
theorem side_case (N : Nat) (a : Int32) : (∃ m, 1 ≤ m ∧ m ≤ 8 ∧ a = nI m ∧ (∀ σ, f_X3_isSide N a σ = some (1, σ)) ∧ ∀ σ, f_X4_not N a 1 8 σ = some (0, σ)) ∨ ((∀ σ, f_X3_isSide N a σ = some (0, σ)) ∧ ∀ σ, f_X4_not N a 1 8 σ = some (1, σ)) := by
  unfold f_X3_isSide f_X4_not
  by_cases h1 : a < 1
  · exact Or.inr ⟨fun σ => by rw [if_pos h1], fun σ => by rw [if_pos h1]⟩
  · by_cases h2 : a ≤ 8
    · have h0 : ¬ a < 0 := fun h => h1 (Int32.lt_trans h (by decide))
      obtain ⟨j, hj, rfl⟩ := nI_of h0
      have e1 : ¬ j < 1 := fun h => h1 ((nI_ltI (b := 1) hj (by decide)).mpr h)
      have e2 : j ≤ 8 := (nI_leI (b := 8) hj (by decide)).mp h2
      exact Or.inl ⟨j, by omega, e2, rfl, fun σ => by rw [if_neg h1, if_neg (Int32.not_lt.mpr h2)], fun σ => by rw [if_neg h1, if_pos h2]⟩
    · exact Or.inr ⟨fun σ => by rw [if_neg h1, if_pos (Int32.not_le.mp h2)], fun σ => by rw [if_neg h1, if_neg h2]⟩
theorem lt_0M (s s' : Nat → Nat) {w : Nat} (hw : w < 6) : lt 0 s w = lt 0 s' w := by
  rcases lt6 hw with rfl | rfl | rfl | rfl | rfl | rfl <;> rfl
set_option maxHeartbeats 4000000 in
theorem r_piece_ok (N : Nat) {τ : St} {n a b d w : Nat} (hn : τ 25 4 = nI n) (hn6 : n < 6) (ha : ∀ σ, f_X4_not N (nI a) 1 8 σ = some (0, σ)) (hb : ∀ σ, f_X4_not N (nI b) 1 8 σ = some (0, σ)) (hd : ∀ σ, f_X4_not N (nI d) 1 8 σ = some (0, σ)) (hw : w ≤ 100) :
    f_X4_piece N (nI a) (nI b) (nI d) (nI w) τ = some (nI n, su (su (su (su (su (su (su (su τ 25 0 0) 26 (3 * n) (nI a)) 26 (3 * n + 1) (nI b)) 26 (3 * n + 2) (nI d)) 27 n (nI w)) 29 n (-1)) 31 n (-1)) 25 4 (nI (n + 1))) := by
  have r4 : su τ 25 0 0 25 4 = nI n := (su_ne _ _ (by omega)).trans hn
  have e3 : (3 : Int32) * nI n = nI (3 * n) := q_mul 3 n
  have e31 : nI (3 * n) + 1 = nI (3 * n + 1) := nI_1 _
  have e32 : nI (3 * n) + 2 = nI (3 * n + 2) := nI_add _ 2
  have i0 := q_inb (show 3 * n < 18 by omega) (show 18 < 2 ^ 31 by decide)
  have i1 := q_inb (show 3 * n + 1 < 18 by omega) (show 18 < 2 ^ 31 by decide)
  have i2 := q_inb (show 3 * n + 2 < 18 by omega) (show 18 < 2 ^ 31 by decide)
  have i6 := q_inb hn6 (show 6 < 2 ^ 31 by decide)
  have x0 := q_ix (show 3 * n < 2 ^ 31 by omega)
  have x1 := q_ix (show 3 * n + 1 < 2 ^ 31 by omega)
  have x2 := q_ix (show 3 * n + 2 < 2 ^ 31 by omega)
  have x6 := q_ix (show n < 2 ^ 31 by omega)
  have ep : nI (n + 1) - 1 = nI n := nI_pred n
  unfold f_X4_piece
  rw [ha, bn_some, if_pos rfl, hb, bn_some, if_pos rfl, hd, bn_some, if_pos rfl, show (100 : Int32) = nI 100 from rfl, r_not_in N τ hw (by decide), bn_some, if_pos rfl, if_neg (by rw [hn]; show ¬ nI n = nI 6; rw [q_eq (by omega) (by decide)]; omega), if_pos (su_same _ _ _ _)]
  simp (disch := decide) only [su_row, r4, e3, e31, e32, i0, i1, i2, i6, x0, x1, x2, x6, ↓reduceIte, su_same, nI_1, ep]
theorem m_piece (N : Nat) (a b d w : Int32) {k : Nat} {σ : St} (h : Good k σ) : MO N (f_L_piece N a b d w) (f_X4_piece N a b d w) k σ := by
  have h' := h
  obtain ⟨c, rk, pk, cl, sd, al, V, hA, hC, hR, hk⟩ := h'
  have hn := hR.1.2
  have bad : f_X3_piece N a b d w σ = some (.inr ("java/lang/IllegalArgumentException", σ)) → f_X4_piece N a b d w σ = some (0, su σ 25 0 1) → MO N (f_L_piece N a b d w) (f_X4_piece N a b d w) k σ := fun h1 h2 => ⟨1, σ, 0, su σ 25 0 1, by unfold f_L_piece; rw [h1, bhI_r, if_pos rfl], h2, su_same _ _ _ _, fun e => absurd e (by decide), su25 h _⟩
  have no1 : ¬ su σ 25 0 1 25 0 = 0 := by rw [su_same]; decide
  rcases side_case N a with ⟨x, x1, x2, rfl, xa, xb⟩ | ⟨xa, xb⟩
  · rcases side_case N b with ⟨y, y1, y2, rfl, ya, yb⟩ | ⟨ya, yb⟩
    · rcases side_case N d with ⟨z, z1, z2, rfl, za, zb⟩ | ⟨za, zb⟩
      · rcases rng_case w 100 (by decide) with ⟨v, hv, rfl⟩ | hw
        · have v0 : ¬ nI v < 0 := nI_pos (by omega)
          have v1 : nI v ≤ 100 := (nI_leI (b := 100) (by omega) (by decide)).mpr hv
          by_cases hfull : xN c = 6
          · refine ⟨2, σ, 0, su σ 25 0 2, ?_, ?_, su_same _ _ _ _, fun e => absurd e (by decide), su25 h _⟩
            · unfold f_L_piece f_X3_piece
              rw [xa, bn_some, if_neg (by decide), ya, bn_some, if_neg (by decide), za, bn_some, if_neg (by decide), if_neg v0, if_pos v1, hC.1, if_neg (by rw [hfull]; decide)]; rfl
            · unfold f_X4_piece
              rw [xb, bn_some, if_pos rfl, yb, bn_some, if_pos rfl, zb, bn_some, if_pos rfl, show (100 : Int32) = nI 100 from rfl, r_not_in N σ hv (by decide), bn_some, if_pos rfl, if_pos (by rw [hR.1.1, hfull]; rfl), if_neg (show ¬ su σ 25 0 2 25 0 = 0 by rw [su_same]; decide)]
          · have hn6 : xN c < 6 := by omega
            -- the class
            have hcl : f_L_piece N (nI x) (nI y) (nI z) (nI v) σ = some (0, su (su (su (su (su (su σ (5 + xN c) 0 (nI x)) (5 + xN c) 1 (nI y)) (5 + xN c) 2 (nI z)) (5 + xN c) 3 (nI v)) 0 4 (nI (xN c + 1))) 51 0 (nI (xN c))) := by
              unfold f_L_piece f_X3_piece
              rw [xa, bn_some, if_neg (by decide), ya, bn_some, if_neg (by decide), za, bn_some, if_neg (by decide), if_neg v0, if_pos v1, hC.1, if_pos (show nI (xN c) < 6 from (nI_ltI (b := 6) (by omega) (by decide)).mpr hn6), if_pos (q_inb hn6 (by decide)), q_ix (by omega)]
              unfold f_X0_become
              rw [bv_some, su_ne _ _ (by omega), su_ne _ _ (by omega), su_ne _ _ (by omega), su_ne _ _ (by omega), hC.1, nI_1, bhI_l]; rfl
            generalize hτ1 : su (su (su (su (su (su σ (5 + xN c) 0 (nI x)) (5 + xN c) 1 (nI y)) (5 + xN c) 2 (nI z)) (5 + xN c) 3 (nI v)) 0 4 (nI (xN c + 1))) 51 0 (nI (xN c)) = τ1 at hcl
            have t51 : τ1 51 0 = nI (xN c) := by rw [← hτ1, su_same]
            have t4 : τ1 0 4 = nI (xN c + 1) := by rw [← hτ1, su_ne _ _ (by omega), su_same]
            have t0 : τ1 (5 + xN c) 0 = nI x := by rw [← hτ1, su_ne _ _ (by omega), su_ne _ _ (by omega), su_ne _ _ (by omega), su_ne _ _ (by omega), su_ne _ _ (by omega), su_same]
            have t1 : τ1 (5 + xN c) 1 = nI y := by rw [← hτ1]; simp [su]
            have t2 : τ1 (5 + xN c) 2 = nI z := by rw [← hτ1]; simp [su]
            have t3 : τ1 (5 + xN c) 3 = nI v := by rw [← hτ1]; simp [su]
            have tn : ∀ q f, ¬ (q = 5 + xN c ∧ f ≤ 3) → ¬ (q = 0 ∧ f = 4) → ¬ (q = 51) → τ1 q f = σ q f := fun q f e1 e2 e3 => by
              rw [← hτ1, su_ne _ _ (by omega), su_ne _ _ (by omega), su_ne _ _ (by omega), su_ne _ _ (by omega), su_ne _ _ (by omega), su_ne _ _ (by omega)]
            have hrf := r_piece_ok N (τ := τ1) (n := xN c) ((tn _ _ (by omega) (by omega) (by omega)).trans hR.1.1) hn6 xb yb zb hv
            generalize hυ : su (su (su (su (su (su (su (su τ1 25 0 0) 26 (3 * xN c) (nI x)) 26 (3 * xN c + 1) (nI y)) 26 (3 * xN c + 2) (nI z)) 27 (xN c) (nI v)) 29 (xN c) (-1)) 31 (xN c) (-1)) 25 4 (nI (xN c + 1)) = υ at hrf
            have u4 : υ 25 4 = nI (xN c + 1) := by rw [← hυ, su_same]
            have u0 : υ 25 0 = 0 := by rw [← hυ]; simp [su]
            have us0 : υ 26 (3 * xN c) = nI x := by rw [← hυ]; simp [su]
            have us1 : υ 26 (3 * xN c + 1) = nI y := by rw [← hυ]; simp [su]
            have us2 : υ 26 (3 * xN c + 2) = nI z := by rw [← hυ]; simp [su]
            have uw : υ 27 (xN c) = nI v := by rw [← hυ]; simp [su]
            have ul : υ 29 (xN c) = -1 := by rw [← hυ]; simp [su]
            have ub : υ 31 (xN c) = -1 := by rw [← hυ]; simp [su]
            have un : ∀ q f, ¬ (q = 25 ∧ (f = 0 ∨ f = 4)) → ¬ (q = 26 ∧ f / 3 = xN c) → ¬ (q = 27 ∧ f = xN c) → ¬ (q = 29 ∧ f = xN c) → ¬ (q = 31 ∧ f = xN c) → υ q f = τ1 q f := fun q f e1 e2 e3 e4 e5 => by
              rw [← hυ, su_ne _ _ (by omega), su_ne _ _ (by omega), su_ne _ _ (by omega), su_ne _ _ (by omega), su_ne _ _ (by omega), su_ne _ _ (by omega), su_ne _ _ (by omega), su_ne _ _ (by omega)]
            have hdef := hA.2.1 (xN c) (Nat.le_refl _)
            refine ⟨0, τ1, nI (xN c), υ, hcl, hrf, u0, fun _ => ?_, addP c (fun j => if j = 0 then x else if j = 1 then y else z) v, rk, pk, cl, sd, al, V, ?_, ?_, ?_, by omega⟩
            · rw [un _ _ (by omega) (by omega) (by omega) (by omega) (by omega), t51]
            · refine ⟨⟨hA.1.1, show xN c + 1 ≤ 6 by omega, hA.1.2.2.1, fun i hi => ?_, hA.1.2.2.2.2⟩, fun i hi => ?_, hA.2.2.1, hA.2.2.2.1, fun i hi hp => ?_, fun i hi => ?_⟩
              · have hi' : i < xN c + 1 := hi
                show s38 (if i = xN c then _ else xS c i) ∧ xM c i ≤ 3
                by_cases e : i = xN c
                · rw [if_pos e, e, hdef.2.2.2]
                  exact ⟨⟨x1, x2, y1, y2, z1, z2⟩, by decide⟩
                · rw [if_neg e]; exact hA.1.2.2.2.1 i (by omega)
              · have hi' : xN c + 1 ≤ i := hi
                exact hA.2.1 i (by omega)
              · have hne : i ≠ xN c := fun e => by
                  have := hA.2.2.2.2.2 i (by omega)
                  omega
                show V i 7 < 6 ∧ V i 4 = (if i = xN c then _ else xS c i) _ ∧ V i 5 = (if i = xN c then _ else xS c i) _ ∧ V i 6 = (if i = xN c then _ else xS c i) _
                rw [if_neg hne]; exact hA.2.2.2.2.1 i hi hp
              · have hi' : xN c + 1 ≤ i := hi
                exact hA.2.2.2.2.2 i (by omega)
            · have k : ∀ q f, q < 25 → ¬ (q = 5 + xN c ∧ f ≤ 3) → ¬ (q = 0 ∧ f = 4) → υ q f = σ q f := fun q f e1 e2 e3 => (un q f (by omega) (by omega) (by omega) (by omega) (by omega)).trans (tn q f e2 e3 (by omega))
              have kt : ∀ q f, q < 25 → υ q f = τ1 q f := fun q f e => un q f (by omega) (by omega) (by omega) (by omega) (by omega)
              obtain ⟨h1, h2, h3, h4, h5, ⟨b0, b1, b2, b3⟩, ⟨d0, d1, d2, d3⟩, h8, h9, h10, h11⟩ := hC
              refine ⟨(kt _ _ (by omega)).trans t4, (k _ _ (by omega) (by omega) (by omega)).trans h2, (k _ _ (by omega) (by omega) (by omega)).trans h3, (k _ _ (by omega) (by omega) (by omega)).trans h4, (k _ _ (by omega) (by omega) (by omega)).trans h5, ⟨(k _ _ (by omega) (by omega) (by omega)).trans b0, (k _ _ (by omega) (by omega) (by omega)).trans b1, (k _ _ (by omega) (by omega) (by omega)).trans b2, b3⟩, ⟨(k _ _ (by omega) (by omega) (by omega)).trans d0, (k _ _ (by omega) (by omega) (by omega)).trans d1, (k _ _ (by omega) (by omega) (by omega)).trans d2, d3⟩, fun i hi => ?_, h9.fr fun q f _ _ _ => k q f (by omega) (by omega) (by omega), fun i hi hp => ?_, fun i hi => (k _ _ (by omega) (by omega) (by omega)).trans (h11 i hi)⟩
              · obtain ⟨g1, g2, ⟨m, g3, g4, g5⟩, g6, g7⟩ := h8 i hi
                by_cases e : i = xN c
                · subst e
                  refine ⟨fun _ => ⟨⟨?_, ?_, ?_⟩, ?_⟩, (k _ _ (by omega) (by omega) (by omega)).trans g2, ⟨m, g3, (k _ _ (by omega) (by omega) (by omega)).trans g4, fun w hw => ?_⟩, (k _ _ (by omega) (by omega) (by omega)).trans g6, (k _ _ (by omega) (by omega) (by omega)).trans g7⟩
                  · show _ = nI ((if xN c = xN c then (fun j => if j = 0 then x else if j = 1 then y else z) else xS c (xN c)) 0)
                    rw [if_pos rfl, kt _ _ (by omega), t0]; rfl
                  · show _ = nI ((if xN c = xN c then (fun j => if j = 0 then x else if j = 1 then y else z) else xS c (xN c)) 1)
                    rw [if_pos rfl, kt _ _ (by omega), t1]; rfl
                  · show _ = nI ((if xN c = xN c then (fun j => if j = 0 then x else if j = 1 then y else z) else xS c (xN c)) 2)
                    rw [if_pos rfl, kt _ _ (by omega), t2]; rfl
                  · show _ = nI (if xN c = xN c then v else xW c (xN c))
                    rw [if_pos rfl, kt _ _ (by omega), t3]
                  · have := g5 w hw
                    rw [hdef.2.2.2] at this
                    rw [this]
                    show _ = lt (xM c (xN c)) _ w
                    rw [hdef.2.2.2]
                    exact lt_0M _ _ hw
                · have kk : ∀ f, υ (5 + i) f = σ (5 + i) f := fun f => k _ _ (by omega) (by omega) (by omega)
                  refine ⟨fun h1 => ?_, (kk _).trans g2, ⟨m, g3, (kk _).trans g4, fun w hw => ?_⟩, (kk _).trans g6, (kk _).trans g7⟩
                  · have h1' : i < xN c + 1 := h1
                    obtain ⟨⟨s0, s1, s2⟩, w1⟩ := g1 (by omega)
                    refine ⟨?_, ?_⟩
                    · show PS υ (5 + i) (if i = xN c then _ else xS c i)
                      rw [if_neg e]; exact ⟨(kk _).trans s0, (kk _).trans s1, (kk _).trans s2⟩
                    · show _ = nI (if i = xN c then v else xW c i)
                      rw [if_neg e]; exact (kk _).trans w1
                  · show _ = lt (xM c i) (if i = xN c then _ else xS c i) w
                    rw [if_neg e]; exact g5 w hw
              · have hne : i ≠ xN c := fun e => by
                  have := hA.2.2.2.2.2 i (by omega)
                  omega
                show _ = nI (if i = xN c then v else xW c i)
                rw [if_neg hne]
                exact (k _ _ (by omega) (by omega) (by omega)).trans (h10 i hi hp)
            · have k : ∀ q f, 25 ≤ q → q ≤ 50 → ¬ (q = 25 ∧ (f = 0 ∨ f = 4)) → ¬ (q = 26 ∧ f / 3 = xN c) → ¬ (q = 27 ∧ f = xN c) → ¬ (q = 29 ∧ f = xN c) → ¬ (q = 31 ∧ f = xN c) → υ q f = σ q f := fun q f e0 e00 e1 e2 e3 e4 e5 => (un q f e1 e2 e3 e4 e5).trans (tn q f (by omega) (by omega) (by omega))
              obtain ⟨⟨h1, h1'⟩, ⟨b0, b1, b2, b3⟩, h3, h4, h5, h6, h7, h8⟩ := hR
              have k25 : ∀ f, f ≠ 0 → f ≠ 4 → υ 25 f = σ 25 f := fun f _ _ => k _ _ (by omega) (by omega) (by omega) (by omega) (by omega) (by omega) (by omega)
              refine ⟨⟨u4, show xN c + 1 ≤ 6 by omega⟩, ⟨(k25 _ (by decide) (by decide)).trans b0, (k25 _ (by decide) (by decide)).trans b1, (k25 _ (by decide) (by decide)).trans b2, b3⟩, (k25 _ (by decide) (by decide)).trans h3, (k25 _ (by decide) (by decide)).trans h4, (k25 _ (by decide) (by decide)).trans h5, (k25 _ (by decide) (by decide)).trans h6, fun i hi => ?_, h8.fe (i := 0) fun q g _ _ => k q g (by omega) (by omega) (by omega) (by omega) (by omega) (by omega) (by omega)⟩
              obtain ⟨g1, g2, g3⟩ := h7 i hi
              by_cases e : i = xN c
              · subst e
                refine ⟨fun _ => ⟨?_, ?_, ul.trans hdef.1.symm, ub.trans hdef.2.2.1.symm⟩, (k _ _ (by omega) (by omega) (by omega) (by omega) (by omega) (by omega) (by omega)).trans g2, (k _ _ (by omega) (by omega) (by omega) (by omega) (by omega) (by omega) (by omega)).trans g3⟩
                · show RS υ (xN c) (if xN c = xN c then (fun j => if j = 0 then x else if j = 1 then y else z) else xS c (xN c))
                  rw [if_pos rfl]; exact ⟨us0, us1, us2⟩
                · show _ = nI (if xN c = xN c then v else xW c (xN c))
                  rw [if_pos rfl]; exact uw
              · have g' := RPc.fr (τ := υ) ⟨g1, g2, g3⟩ fun q f e1 e2 e3 e4 => k q f (by omega) (by omega) (by omega) (by omega) (by omega) (by omega) (by omega)
                obtain ⟨g1, g2, g3⟩ := g'
                refine ⟨fun h1 => ?_, g2, g3⟩
                have h1' : i < xN c + 1 := h1
                obtain ⟨s, q1, q2, q3⟩ := g1 (by omega)
                refine ⟨?_, ?_, q2, q3⟩
                · show RS υ i (if i = xN c then _ else xS c i)
                  rw [if_neg e]; exact s
                · show _ = nI (if i = xN c then v else xW c i)
                  rw [if_neg e]; exact q1
        · refine bad ?_ ?_
          · unfold f_X3_piece
            rw [xa, bn_some, if_neg (by decide), ya, bn_some, if_neg (by decide), za, bn_some, if_neg (by decide)]
            rcases hw with hw | ⟨w1, w2⟩
            · rw [if_pos hw]
            · rw [if_neg w1, if_neg (show ¬ w ≤ 100 from w2)]
          · unfold f_X4_piece
            rw [xb, bn_some, if_pos rfl, yb, bn_some, if_pos rfl, zb, bn_some, if_pos rfl, show (100 : Int32) = nI 100 from rfl, r_not_out N σ hw, bn_some, if_neg (by decide), if_neg no1]
      · refine bad ?_ ?_
        · unfold f_X3_piece
          rw [xa, bn_some, if_neg (by decide), ya, bn_some, if_neg (by decide), za, bn_some, if_pos rfl]
        · unfold f_X4_piece
          rw [xb, bn_some, if_pos rfl, yb, bn_some, if_pos rfl, zb, bn_some, if_neg (by decide), if_neg no1]
    · refine bad ?_ ?_
      · unfold f_X3_piece
        rw [xa, bn_some, if_neg (by decide), ya, bn_some, if_pos rfl]
      · unfold f_X4_piece
        rw [xb, bn_some, if_pos rfl, yb, bn_some, if_neg (by decide), if_neg no1]
  · refine bad ?_ ?_
    · unfold f_X3_piece
      rw [xa, bn_some, if_pos rfl]
    · unfold f_X4_piece
      rw [xb, bn_some, if_neg (by decide), if_neg no1]
