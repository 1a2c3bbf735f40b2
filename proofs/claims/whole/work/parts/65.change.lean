/-! layer 2: share, limit, turn, rank -/
def MV (fl : St → Option (Int32 × St)) (fr : St → Option St) (k : Nat) (σ : St) : Prop := ∃ r1 τ1 τ2, fl σ = some (r1, τ1) ∧ fr τ1 = some τ2 ∧ τ2 25 0 = r1 ∧ Good (k + 1) τ2
def setSh (c : CT) (v : Nat) : CT := (c.1, c.2.1, c.2.2.1, c.2.2.2.1, c.2.2.2.2.1, v, c.2.2.2.2.2.2)
def setM (c : CT) (p m : Nat) : CT := (c.1, c.2.1, (fun i => if i = p then m else xM c i), c.2.2.2)
def setL (c : CT) (p : Nat) (v : Int32) : CT := (c.1, c.2.1, c.2.2.1, c.2.2.2.1, (fun i => if i = p then v else xL c i), c.2.2.2.2.2)
theorem m_share (N : Nat) (a : Int32) {k : Nat} {σ : St} (h : Good k σ) : MV (f_L_share N a) (f_X4_share N a) k σ := by
  have h' := h
  obtain ⟨c, rk, pk, cl, sd, al, V, hA, hC, hR, hk⟩ := h'
  rcases rng_case a 100 (by decide) with ⟨v, hv, rfl⟩ | ha
  · have hne : ∀ p f, ¬ (p = 0 ∧ f = 6) → su σ 0 6 (nI v) p f = σ p f := fun p f e => su_ne σ _ e
    have hne2 : ∀ p f, ¬ (p = 25 ∧ (f = 0 ∨ f = 11)) → su (su (su σ 0 6 (nI v)) 25 0 0) 25 11 (nI v) p f = su σ 0 6 (nI v) p f := fun p f e => by rw [su_ne _ _ (by omega), su_ne _ _ (by omega)]
    refine ⟨0, su σ 0 6 (nI v), su (su (su σ 0 6 (nI v)) 25 0 0) 25 11 (nI v), ?_, ?_, ?_, setSh c v, rk, pk, cl, sd, al, V, ?_, ?_, ?_, by omega⟩
    · unfold f_L_share f_X3_share
      rw [if_neg (nI_pos (by omega)), if_pos (show nI v ≤ 100 from (nI_leI (b := 100) (by omega) (by decide)).mpr hv)]; rfl
    · unfold f_X4_share
      rw [show (100 : Int32) = nI 100 from rfl, r_not_in N _ hv (by decide), bn_some, if_pos rfl, su_same, if_pos rfl]
    · rw [su_ne _ _ (by omega), su_same]
    · exact ⟨⟨hv, hA.1.2⟩, hA.2⟩
    · have k : ∀ p f, p < 25 → ¬ (p = 0 ∧ f = 6) → su (su (su σ 0 6 (nI v)) 25 0 0) 25 11 (nI v) p f = σ p f := fun p f e1 e2 => (hne2 p f (by omega)).trans (hne p f e2)
      obtain ⟨h1, h2, h3, h4, h5, ⟨b0, b1, b2, b3⟩, ⟨d0, d1, d2, d3⟩, h8, h9, h10, h11⟩ := hC
      exact ⟨(k _ _ (by omega) (by omega)).trans h1, (hne2 _ _ (by omega)).trans (su_same _ _ _ _), (k _ _ (by omega) (by omega)).trans h3, (k _ _ (by omega) (by omega)).trans h4, (k _ _ (by omega) (by omega)).trans h5, ⟨(k _ _ (by omega) (by omega)).trans b0, (k _ _ (by omega) (by omega)).trans b1, (k _ _ (by omega) (by omega)).trans b2, b3⟩, ⟨(k _ _ (by omega) (by omega)).trans d0, (k _ _ (by omega) (by omega)).trans d1, (k _ _ (by omega) (by omega)).trans d2, d3⟩, fun i hi => (h8 i hi).fr fun f => k _ _ (by omega) (by omega), h9.fr fun p f _ _ _ => k p f (by omega) (by omega), h10.fr fun p f _ _ _ => k p f (by omega) (by omega), fun i hi => (k _ _ (by omega) (by omega)).trans (h11 i hi)⟩
    · have k : ∀ p f, 25 ≤ p → p ≤ 38 → ¬ (p = 25 ∧ (f = 0 ∨ f = 11)) → su (su (su σ 0 6 (nI v)) 25 0 0) 25 11 (nI v) p f = σ p f := fun p f e1 _ e2 => (hne2 p f e2).trans (hne p f (by omega))
      have hR' := hR.fr (τ := su (su (su (su σ 0 6 (nI v)) 25 0 0) 25 11 (nI v)) 25 11 (nI (xSh c))) fun p f e1 e2 e3 e4 => by
        by_cases e : p = 25 ∧ f = 11
        · obtain ⟨rfl, rfl⟩ := e; rw [su_same]; exact hR.2.2.1.symm
        · rw [su_ne _ _ e]; exact k p f e1 e2 (by omega)
      have back : ∀ p f, ¬ (p = 25 ∧ f = 11) → su (su (su (su σ 0 6 (nI v)) 25 0 0) 25 11 (nI v)) 25 11 (nI (xSh c)) p f = su (su (su σ 0 6 (nI v)) 25 0 0) 25 11 (nI v) p f := fun p f e => su_ne _ _ e
      obtain ⟨⟨h1, h1'⟩, ⟨b0, b1, b2, b3⟩, h3, h4, h5, h6, h7, h8⟩ := hR'
      refine ⟨⟨(back _ _ (by omega)).symm.trans h1, h1'⟩, ⟨(back _ _ (by omega)).symm.trans b0, (back _ _ (by omega)).symm.trans b1, (back _ _ (by omega)).symm.trans b2, b3⟩, su_same _ _ _ _, (back _ _ (by omega)).symm.trans h4, (back _ _ (by omega)).symm.trans h5, (back _ _ (by omega)).symm.trans h6, fun i hi => ?_, h8.fe (i := 0) fun p g _ _ => (back p g (by omega)).symm⟩
      obtain ⟨g1, g2, g3⟩ := h7 i hi
      refine ⟨fun hn => ?_, (back _ _ (by omega)).symm.trans g2, (back _ _ (by omega)).symm.trans g3⟩
      obtain ⟨⟨s0, s1, s2⟩, q1, q2, q3⟩ := g1 hn
      exact ⟨⟨(back _ _ (by omega)).symm.trans s0, (back _ _ (by omega)).symm.trans s1, (back _ _ (by omega)).symm.trans s2⟩, (back _ _ (by omega)).symm.trans q1, (back _ _ (by omega)).symm.trans q2, (back _ _ (by omega)).symm.trans q3⟩
  · refine ⟨1, σ, su σ 25 0 1, ?_, ?_, su_same _ _ _ _, su25 h _⟩
    · unfold f_L_share f_X3_share
      rcases ha with ha | ⟨h1, h2⟩
      · rw [if_pos ha]; rfl
      · rw [if_neg h1, if_neg (show ¬ a ≤ 100 from h2)]; rfl
    · unfold f_X4_share
      rw [show (100 : Int32) = nI 100 from rfl, r_not_out N _ ha, bn_some, if_neg (by decide), su_same, if_neg (by decide)]
/-- of the class: one piece's place changes -/
theorem CI.one {c c' : CT} {rk rk' : Nat → Nat} {pk pk' : Nat → Int32} {cl sd : Nat} {al : Bool} {V : PV} {σ τ : St} {p : Nat} (h : CI c rk pk cl sd al V σ) (hp : p < 6) (hB : xB c' = xB c) (hN : xN c' = xN c) (hS : xSh c' = xSh c) (hW : xW c' = xW c) (k : ∀ q f, q < 25 → q ≠ 5 + p → ¬ (13 ≤ q ∧ f = 10) → τ q f = σ q f) (hP : PC c' rk' pk' τ p) (hO : ∀ i, i < 6 → i ≠ p → PC c rk pk τ i → PC c' rk' pk' τ i) : CI c' rk' pk' cl sd al V τ := by
  obtain ⟨h1, h2, h3, h4, h5, ⟨b0, b1, b2, b3⟩, ⟨d0, d1, d2, d3⟩, h8, h9, h10, h11⟩ := h
  unfold CI
  rw [hB, hN, hS, hW]
  refine ⟨(k _ _ (by omega) (by omega) (by omega)).trans h1, (k _ _ (by omega) (by omega) (by omega)).trans h2, (k _ _ (by omega) (by omega) (by omega)).trans h3, (k _ _ (by omega) (by omega) (by omega)).trans h4, (k _ _ (by omega) (by omega) (by omega)).trans h5, ⟨(k _ _ (by omega) (by omega) (by omega)).trans b0, (k _ _ (by omega) (by omega) (by omega)).trans b1, (k _ _ (by omega) (by omega) (by omega)).trans b2, b3⟩, ⟨(k _ _ (by omega) (by omega) (by omega)).trans d0, (k _ _ (by omega) (by omega) (by omega)).trans d1, (k _ _ (by omega) (by omega) (by omega)).trans d2, d3⟩, fun i hi => ?_, h9.fr fun q f _ _ _ => k q f (by omega) (by omega) (by omega), h10.fr fun q f _ _ _ => k q f (by omega) (by omega) (by omega), fun i hi => (k _ _ (by omega) (by omega) (by omega)).trans (h11 i hi)⟩
  by_cases e : i = p
  · rw [e]; exact hP
  · exact hO i hi e ((h8 i hi).fr fun f => k _ _ (by omega) (by omega) (by omega))
/-- of the reference: rows of pieces change -/
theorem RI.one {c c' : CT} {rk rk' : Nat → Nat} {pk pk' : Nat → Int32} {cl sd : Nat} {al : Bool} {V : PV} {σ τ : St} (h : RI c rk pk cl sd al V σ) (hB : xB c' = xB c) (hN : xN c' = xN c) (hS : xSh c' = xSh c) (k : ∀ q f, (q = 25 ∧ f ≠ 0 ∧ f ≠ 28 ∨ 32 ≤ q ∧ q ≤ 38) → τ q f = σ q f) (hO : ∀ i, i < 6 → RPc c' rk' pk' τ i) : RI c' rk' pk' cl sd al V τ := by
  obtain ⟨⟨h1, h1'⟩, ⟨b0, b1, b2, b3⟩, h3, h4, h5, h6, h7, h8⟩ := h
  unfold RI
  rw [hB, hN, hS]
  exact ⟨⟨(k _ _ (by omega)).trans h1, h1'⟩, ⟨(k _ _ (by omega)).trans b0, (k _ _ (by omega)).trans b1, (k _ _ (by omega)).trans b2, b3⟩, (k _ _ (by omega)).trans h3, (k _ _ (by omega)).trans h4, (k _ _ (by omega)).trans h5, (k _ _ (by omega)).trans h6, hO, h8.fe (i := 0) fun p g _ _ => k p g (by omega)⟩
theorem RPc.fr {c : CT} {rk : Nat → Nat} {pk : Nat → Int32} {σ τ : St} {i : Nat} (h : RPc c rk pk σ i) (k : ∀ q f, 26 ≤ q → q ≤ 31 → (q = 26 → f / 3 = i) → (q ≠ 26 → f = i) → τ q f = σ q f) : RPc c rk pk τ i := by
  obtain ⟨g1, g2, g3⟩ := h
  refine ⟨fun hn => ?_, (k _ _ (by omega) (by omega) (by omega) (by omega)).trans g2, (k _ _ (by omega) (by omega) (by omega) (by omega)).trans g3⟩
  obtain ⟨⟨s0, s1, s2⟩, q1, q2, q3⟩ := g1 hn
  exact ⟨⟨(k _ _ (by omega) (by omega) (by omega) (by omega)).trans s0, (k _ _ (by omega) (by omega) (by omega) (by omega)).trans s1, (k _ _ (by omega) (by omega) (by omega) (by omega)).trans s2⟩, (k _ _ (by omega) (by omega) (by omega) (by omega)).trans q1, (k _ _ (by omega) (by omega) (by omega) (by omega)).trans q2, (k _ _ (by omega) (by omega) (by omega) (by omega)).trans q3⟩
theorem neg_one {v : Int32} (h : ¬ v < -1) : v < 0 ↔ v = -1 := by
  constructor
  · intro h1
    refine Int32.toInt_inj.mp ?_
    rw [Int32.lt_iff_toInt_lt] at h h1
    have e0 : (0 : Int32).toInt = 0 := by decide
    have e1 : (-1 : Int32).toInt = -1 := by decide
    rw [e1] at h ⊢
    rw [e0] at h1
    omega
  · intro h1; rw [h1]; decide
theorem m_limit (N : Nat) (a b : Int32) {k : Nat} {σ : St} (h : Good k σ) : MV (f_L_limit N a b) (f_X4_limit N a b) k σ := by
  have h' := h
  obtain ⟨c, rk, pk, cl, sd, al, V, hA, hC, hR, hk⟩ := h'
  have hn := hR.1.2
  rcases arg_case a hn with ⟨p, hp, rfl⟩ | ha
  · have hp6 : p < 6 := by omega
    by_cases hb : ¬ b < -1 ∧ b ≤ 1000
    · have hne2 : ∀ q f, ¬ (q = 25 ∧ f = 0) → ¬ (q = 29 ∧ f = p) → su (su (su σ (5 + p) 5 b) 25 0 0) 29 p b q f = su σ (5 + p) 5 b q f := fun q f e1 e2 => by rw [su_ne _ _ (by omega), su_ne _ _ (by omega)]
      have hne : ∀ q f, ¬ (q = 5 + p ∧ f = 5) → su σ (5 + p) 5 b q f = σ q f := fun q f e => su_ne σ _ e
      refine ⟨0, su σ (5 + p) 5 b, su (su (su σ (5 + p) 5 b) 25 0 0) 29 p b, ?_, ?_, ?_, setL c p b, rk, pk, cl, sd, al, V, ?_, ?_, ?_, by omega⟩
      · unfold f_L_limit f_X3_limit
        rw [c_known_in N hC.1 hn hp, bt_l, if_neg hb.1, if_pos hb.2]; rfl
      · have hRN : RN (su σ (5 + p) 5 b) (xN c) := ⟨(hne _ _ (by omega)).trans hR.1.1, hn⟩
        unfold f_X4_limit f_X4_not
        rw [r_noP_in N hRN hp, bn_some, if_pos rfl, if_neg hb.1, if_pos hb.2, bn_some, if_pos rfl, su_same, if_pos rfl, if_pos (q_inb hp6 (by decide)), q_ix (by omega)]
      · rw [su_ne _ _ (by omega), su_same]
      · refine ⟨⟨hA.1.1, hA.1.2.1, hA.1.2.2.1, hA.1.2.2.2.1, fun j => ?_, hA.1.2.2.2.2.2⟩, fun i hi => ?_, hA.2.2⟩
        · show (if j = p then b else xL c j) < 0 ↔ (if j = p then b else xL c j) = -1
          by_cases e : j = p
          · rw [if_pos e]; exact neg_one hb.1
          · rw [if_neg e]; exact hA.1.2.2.2.2.1 j
        · have hi' : xN c ≤ i := hi
          have := hA.2.1 i hi
          refine ⟨?_, this.2⟩
          show (if i = p then b else xL c i) = -1
          rw [if_neg (by omega)]; exact this.1
      · refine hC.one hp6 rfl rfl rfl rfl (fun q f e1 e2 _ => (hne2 q f (by omega) (by omega)).trans (hne q f (by omega))) ?_ (fun i hi e hpc => ?_)
        · obtain ⟨g1, g2, ⟨m, g3, g4, g5⟩, g6, g7⟩ := hC.2.2.2.2.2.2.2.1 p hp6
          have kk : ∀ f, f ≠ 5 → su (su (su σ (5 + p) 5 b) 25 0 0) 29 p b (5 + p) f = σ (5 + p) f := fun f e => (hne2 _ _ (by omega) (by omega)).trans (hne _ _ (by omega))
          refine ⟨fun h1 => ?_, ?_, ⟨m, g3, (kk _ (by decide)).trans g4, g5⟩, (kk _ (by decide)).trans g6, (kk _ (by decide)).trans g7⟩
          · obtain ⟨⟨s0, s1, s2⟩, w⟩ := g1 h1
            exact ⟨⟨(kk _ (by decide)).trans s0, (kk _ (by decide)).trans s1, (kk _ (by decide)).trans s2⟩, (kk _ (by decide)).trans w⟩
          · show _ = (if p = p then b else xL c p)
            rw [if_pos rfl, hne2 _ _ (by omega) (by omega), su_same]
        · obtain ⟨g1, g2, g3⟩ := hpc
          refine ⟨g1, ?_, g3⟩
          show _ = (if i = p then b else xL c i)
          rw [if_neg e]; exact g2
      · refine hR.one rfl rfl rfl (fun q f e => (hne2 q f (by omega) (by omega)).trans (hne q f (by omega))) (fun i hi => ?_)
        have g := hR.2.2.2.2.2.2.1 i hi
        by_cases e : i = p
        · subst e
          obtain ⟨g1, g2, g3⟩ := g
          have kk : ∀ q f, 26 ≤ q → q ≤ 31 → q ≠ 29 → su (su (su σ (5 + i) 5 b) 25 0 0) 29 i b q f = σ q f := fun q f _ _ _ => (hne2 _ _ (by omega) (by omega)).trans (hne _ _ (by omega))
          refine ⟨fun h1 => ?_, (kk _ _ (by omega) (by omega) (by omega)).trans g2, (kk _ _ (by omega) (by omega) (by omega)).trans g3⟩
          obtain ⟨⟨s0, s1, s2⟩, q1, q2, q3⟩ := g1 h1
          refine ⟨⟨(kk _ _ (by omega) (by omega) (by omega)).trans s0, (kk _ _ (by omega) (by omega) (by omega)).trans s1, (kk _ _ (by omega) (by omega) (by omega)).trans s2⟩, (kk _ _ (by omega) (by omega) (by omega)).trans q1, ?_, (kk _ _ (by omega) (by omega) (by omega)).trans q3⟩
          show _ = (if i = i then b else xL c i)
          rw [if_pos rfl, su_same]
        · have g' := g.fr (τ := su (su (su σ (5 + p) 5 b) 25 0 0) 29 p b) fun q f e1 e2 e3 e4 => (hne2 q f (by omega) (by omega)).trans (hne q f (by omega))
          obtain ⟨g1, g2, g3⟩ := g'
          refine ⟨fun h1 => ?_, g2, g3⟩
          obtain ⟨s, q1, q2, q3⟩ := g1 h1
          refine ⟨s, q1, ?_, q3⟩
          show _ = (if i = p then b else xL c i)
          rw [if_neg e]; exact q2
    · refine ⟨2, σ, su σ 25 0 2, ?_, ?_, su_same _ _ _ _, su25 h _⟩
      · unfold f_L_limit f_X3_limit
        rw [c_known_in N hC.1 hn hp, bt_l]
        by_cases b1 : b < -1
        · rw [if_pos b1]; rfl
        · rw [if_neg b1, if_neg (fun b2 => hb ⟨b1, b2⟩)]; rfl
      · unfold f_X4_limit
        have : f_X4_not N b (-1) 1000 σ = some (1, σ) := by
          unfold f_X4_not
          by_cases b1 : b < -1
          · rw [if_pos b1]
          · rw [if_neg b1, if_neg (fun b2 => hb ⟨b1, b2⟩)]
        rw [r_noP_in N hR.1 hp, bn_some, if_pos rfl, this, bn_some, if_neg (by decide), su_same, if_neg (by decide)]
  · refine ⟨1, σ, su σ 25 0 1, ?_, ?_, su_same _ _ _ _, su25 h _⟩
    · unfold f_L_limit f_X3_limit
      rw [c_known_out N hC.1 ha, bt_r]; rfl
    · unfold f_X4_limit
      rw [r_noP_out N hR.1 ha, bn_some, if_neg (by decide), su_same, if_neg (by decide)]
