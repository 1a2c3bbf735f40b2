/-! layer 2: more calls that ask -/
theorem m_support (N : Nat) (hN : 9 ≤ N) (a : Int32) {k : Nat} {σ : St} (h : Good k σ) : MO N (f_L_support N a) (f_X4_support N a) k σ := by
  have h' := h
  obtain ⟨c, rk, pk, cl, sd, al, V, hA, hC, hR, hk⟩ := h'
  have hn := hR.1.2
  have hs := hA.2.2.2.1
  rcases arg_case a hn with ⟨p, hp, rfl⟩ | ha
  · have hp6 : p < 6 := by omega
    have hV := hC.2.2.2.2.2.2.2.2.1
    have hVp := hV p hp6
    have har := c_area N hVp.1 (hs p hp6).1 hVp.2
    by_cases hv : V p 0 = 1
    · have hz := (hs p hp6).2 hv
      have hz' := hz
      unfold sz1 at hz'
      have a1 : V p 4 * V p 5 ≤ 8 * 8 := Nat.mul_le_mul (by omega) (by omega)
      have a2 : 1 * 1 ≤ V p 4 * V p 5 := Nat.mul_le_mul (by omega) (by omega)
      rw [if_pos hv] at har
      have hne : ¬ nI (V p 4 * V p 5) = 0 := nI_ne0 (by omega) (by omega)
      refine ⟨0, su σ 51 0 (100 * nI (sup V p) / nI (V p 4 * V p 5)), 100 * nI (sup V p) / nI (V p 4 * V p 5), su (su σ 51 0 (100 * nI (sup V p) / nI (V p 4 * V p 5))) 25 0 0, ?_, ?_, su_same _ _ _ _, fun _ => ?_, su51 h _⟩
      · unfold f_L_support f_X3_support
        rw [c_spot_in N hC.1 hn hp, bt_l, har, bn_some, if_neg hne, c_sup N 0 (by omega) hV hs hp6 hv, bn_some, if_pos hne, bhI_l]; rfl
      · have hR1 := (hR.s51 (v := 100 * nI (sup V p) / nI (V p 4 * V p 5)))
        have hR2 := hR1.s25 (v := 0)
        obtain ⟨p0, p1, p2, p3, p4, p5, p6⟩ := (hR2.2.2.2.2.2.2.2 p hp6).2 hv
        unfold f_X4_support
        rw [r_noP_in N hR1.1 hp, bn_some, if_pos rfl, if_pos (q_inb hp6 (by decide)), q_ix (by omega), if_pos (by rw [r_way' hR1.2.2.2.2.2.2.2 hs hp6]; exact hv), su_same, if_pos rfl, r_sup N (by omega) hR2.1 hR2.2.2.2.2.2.2.2 hs hA.2.2.2.2.2 hp6 hv, bn_some, if_pos (q_inb hp6 (by decide)), if_pos (q_inb hp6 (by decide)), p4, p5, q_mul, if_pos hne]
      · rw [su_ne _ _ (by omega), su_same]
    · have hv0 : V p 0 = 0 := by have := (hs p hp6).1; omega
      rw [if_neg hv] at har
      refine ⟨2, σ, 0, su σ 25 0 2, ?_, ?_, su_same _ _ _ _, fun e => absurd e (by decide), su25 h _⟩
      · unfold f_L_support f_X3_support
        rw [c_spot_in N hC.1 hn hp, bt_l, har, bn_some, if_pos (show nI 0 = (0 : Int32) from rfl)]; rfl
      · unfold f_X4_support
        rw [r_noP_in N hR.1 hp, bn_some, if_pos rfl, if_pos (q_inb hp6 (by decide)), q_ix (by omega), if_neg (by rw [r_way' hR.2.2.2.2.2.2.2 hs hp6]; exact hv), su_same, if_neg (by decide)]
  · refine ⟨1, σ, 0, su σ 25 0 1, ?_, ?_, su_same _ _ _ _, fun e => absurd e (by decide), su25 h _⟩
    · unfold f_L_support f_X3_support
      rw [c_spot_out N hC.1 ha, bt_r, bhI_r, if_pos rfl]
    · unfold f_X4_support
      rw [r_noP_out N hR.1 ha, bn_some, if_neg (by decide), su_same, if_neg (by decide)]
theorem RI.rw {c : CT} {rk : Nat → Nat} {pk : Nat → Int32} {cl sd : Nat} {al : Bool} {V : PV} {σ : St} (h : RI c rk pk cl sd al V σ) : RW σ (xN c) (xW c) := fun i hi => ((h.2.2.2.2.2.2.1 i (by have := h.1.2; omega)).1 hi).2.1
theorem m_bears (N : Nat) (hN : 9 ≤ N) (a : Int32) {k : Nat} {σ : St} (h : Good k σ) : MO N (f_L_bears N a) (f_X4_bears N a) k σ := by
  have h' := h
  obtain ⟨c, rk, pk, cl, sd, al, V, hA, hC, hR, hk⟩ := h'
  have hn := hR.1.2
  have hs := hA.2.2.2.1
  rcases arg_case a hn with ⟨p, hp, rfl⟩ | ha
  · have hp6 : p < 6 := by omega
    have hV := hC.2.2.2.2.2.2.2.2.1
    have hVp := hV p hp6
    by_cases hv : V p 0 = 1
    · obtain ⟨τ, t1, t2, t3⟩ := c_note N 0 (by omega) hs hV
      have hw : CWt τ 0 V (xW c) := fun i hi hp => (t2 _ _ (by omega)).trans (hC.2.2.2.2.2.2.2.2.2.1 i hi hp)
      have hb := c_bears N 0 (by omega) hw t3 hp6
      have hR0 : RI c rk pk cl sd al V τ := hR.fr fun p f _ _ _ _ => t2 p f (by omega)
      refine ⟨0, su τ 51 0 (nI (brn V (xW c) p)), nI (brn V (xW c) p), su (su τ 51 0 (nI (brn V (xW c) p))) 25 0 0, ?_, ?_, su_same _ _ _ _, fun _ => ?_, ?_⟩
      · unfold f_L_bears f_X3_bears
        rw [c_spot_in N hC.1 hn hp, bt_l, hVp.1, if_neg (by rw [hv]; decide), t1, bv_some, hb, bn_some, bhI_l]; rfl
      · have hR1 := (hR0.s51 (v := nI (brn V (xW c) p)))
        have hR2 := hR1.s25 (v := 0)
        unfold f_X4_bears
        rw [r_noP_in N hR1.1 hp, bn_some, if_pos rfl, if_pos (q_inb hp6 (by decide)), q_ix (by omega), if_pos (by rw [r_way' hR1.2.2.2.2.2.2.2 hs hp6]; exact hv), su_same, if_pos rfl, r_borne N hN hR2.1 hR2.2.2.2.2.2.2.2 hs hA.2.2.2.2.2 hR2.rw hp6 hv, bn_some]
      · rw [su_ne _ _ (by omega), su_same]
      · exact good_q h fun p f e1 e2 e3 e4 e5 => by rw [su_ne _ _ (by omega), su_ne _ _ (by omega), t2 p f (by omega)]
    · refine ⟨2, σ, 0, su σ 25 0 2, ?_, ?_, su_same _ _ _ _, fun e => absurd e (by decide), su25 h _⟩
      · have hv0 : V p 0 = 0 := by have := (hs p hp6).1; omega
        unfold f_L_bears f_X3_bears
        rw [c_spot_in N hC.1 hn hp, bt_l, hVp.1, if_pos (by rw [hv0]; decide)]; rfl
      · unfold f_X4_bears
        rw [r_noP_in N hR.1 hp, bn_some, if_pos rfl, if_pos (q_inb hp6 (by decide)), q_ix (by omega), if_neg (by rw [r_way' hR.2.2.2.2.2.2.2 hs hp6]; exact hv), su_same, if_neg (by decide)]
  · refine ⟨1, σ, 0, su σ 25 0 1, ?_, ?_, su_same _ _ _ _, fun e => absurd e (by decide), su25 h _⟩
    · unfold f_L_bears f_X3_bears
      rw [c_spot_out N hC.1 ha, bt_r, bhI_r, if_pos rfl]
    · unfold f_X4_bears
      rw [r_noP_out N hR.1 ha, bn_some, if_neg (by decide), su_same, if_neg (by decide)]
theorem fi_cut {f : Nat → Bool} {n : Nat} (hn : n ≤ 6) (h : ∀ j, n ≤ j → f j = false) : fi f n 0 = fi f 6 0 := by
  have z : ∀ r k, n ≤ k → fi f r k = -1 := by
    intro r
    induction r with
    | zero => intro k _; rfl
    | succ r ih => intro k hk; rw [fi, if_neg (by rw [h k hk]; decide)]; exact ih (k + 1) (by omega)
  have s : ∀ r k, k + r = n → fi f (r + (6 - n)) k = fi f r k := by
    intro r
    induction r with
    | zero => intro k hk; rw [Nat.zero_add, z _ k (by omega)]; rfl
    | succ r ih => intro k hk; rw [show r + 1 + (6 - n) = (r + (6 - n)) + 1 by omega, fi, fi, ih (k + 1) (by omega)]
  have := s n 0 (by omega)
  rw [show n + (6 - n) = 6 by omega] at this
  exact this.symm
theorem r_cell' (N : Nat) {τ : St} {V : PV} {n : Nat} (hn6 : RN τ n) (hV : RV τ V) (hs : SZ V) {x y z : Nat} (hx : x < 8) (hy : y < 8) (hz : z < 8) (c1 c2 c3 : Int32) : ∀ r k f, k + r = n → r < f → lp_X4_cell_63 N c1 c2 c3 f (nI x) (nI y) (nI z) (nI k) τ = some (fi (pIn V x y z) r k, τ) := by
  have hn := hn6.2
  intro r
  induction r with
  | zero =>
    intro k f hk hf
    obtain ⟨f, rfl, -⟩ := fuel1 hf
    simp only [lp_X4_cell_63, qnT hn6 (show n ≤ k by omega) (by omega), ↓reduceIte, fi]
  | succ r ih =>
    intro k f hk hf
    obtain ⟨f, rfl, hf⟩ := fuel1 hf
    have hk6 : k < 6 := by omega
    have ih' := ih (k + 1) f (by omega) (by omega)
    simp only [lp_X4_cell_63, qnF hn6 (show k < n by omega), qiT hk6, qix hk6, nI_1, ↓reduceIte, r_way hV hs hk6, fi, ih']
    by_cases e : V k 0 = 0
    · rw [if_pos e, if_neg (by simp [pIn, e])]
    · have g : V k 0 = 1 := by have := (hs k hk6).1; omega
      have z1 := (hs k hk6).2 g
      unfold sz1 at z1
      obtain ⟨p0, p1, p2, p3, p4, p5, p6⟩ := (hV k hk6).2 g
      rw [if_neg e, p1, p2, p3, p4, p5, p6]
      simp (disch := omega) only [nI_add, q_lt, q_le]
      by_cases hc : pIn V x y z k = true
      · rw [if_pos hc]
        have : V k 1 ≤ x ∧ x < V k 1 + V k 4 ∧ V k 2 ≤ y ∧ y < V k 2 + V k 5 ∧ V k 3 ≤ z ∧ z < V k 3 + V k 6 := by
          unfold pIn cov at hc
          rw [Bool.and_eq_true] at hc
          exact of_decide_eq_true hc.2
        rw [if_neg (by omega), if_neg (by omega), if_neg (by omega), if_neg (by omega), if_neg (by omega), if_neg (by omega)]
      · rw [if_neg hc]
        have : ¬ (V k 1 ≤ x ∧ x < V k 1 + V k 4 ∧ V k 2 ≤ y ∧ y < V k 2 + V k 5 ∧ V k 3 ≤ z ∧ z < V k 3 + V k 6) := fun hh => hc (by unfold pIn cov; rw [g, decide_eq_true hh]; rfl)
        repeat (split; rfl)
        exact absurd (by omega) this
theorem r_notb (N : Nat) (σ : St) (a : Int32) {B : Nat} (h1 : 1 ≤ B) (h8 : B ≤ 8) : (∃ x, x < B ∧ a = nI x ∧ f_X4_not N a 0 (nI B - 1) σ = some (0, σ)) ∨ ((a < 0 ∨ nI B ≤ a) ∧ f_X4_not N a 0 (nI B - 1) σ = some (1, σ)) := by
  have e : nI B - 1 = nI (B - 1) := by
    have := nI_pred (B - 1)
    rwa [show B - 1 + 1 = B by omega] at this
  rw [e]
  rcases rng_case a (B - 1) (by omega) with ⟨m, hm, rfl⟩ | ha
  · exact Or.inl ⟨m, by omega, rfl, r_not_in N σ hm (by omega)⟩
  · refine Or.inr ⟨?_, r_not_out N σ ha⟩
    rcases ha with ha | ⟨h2, h3⟩
    · exact Or.inl ha
    · obtain ⟨j, hj, rfl⟩ := nI_of h2
      refine Or.inr ((nI_leI (by omega) hj).mpr ?_)
      have : ¬ j ≤ B - 1 := fun hh => h3 ((nI_leI hj (by omega)).mpr hh)
      omega
theorem m_cell (N : Nat) (hN : 9 ≤ N) (a b d : Int32) {k : Nat} {σ : St} (h : Good k σ) : MO N (f_L_cell_ N a b d) (f_X4_cell N a b d) k σ := by
  have h' := h
  obtain ⟨c, rk, pk, cl, sd, al, V, hA, hC, hR, hk⟩ := h'
  have hn := hR.1.2
  have hs := hA.2.2.2.1
  have hV := hC.2.2.2.2.2.2.2.2.1
  obtain ⟨c0, c1, c2, c3⟩ := hC.2.2.2.2.2.1
  obtain ⟨b0, b1, b2, b3⟩ := hR.2.1
  have bad : (f_X1_hasCell N 0 a b d σ = some (0, σ)) → (f_X4_cell N a b d σ = some (0, su σ 25 0 1)) → MO N (f_L_cell_ N a b d) (f_X4_cell N a b d) k σ := fun h1 h2 =>
    ⟨1, σ, 0, su σ 25 0 1, by unfold f_L_cell_ f_X3_cell; rw [h1, bn_some, if_pos rfl]; rfl, h2, su_same _ _ _ _, fun e => absurd e (by decide), su25 h _⟩
  have c0' : σ (2 + 0) 0 = nI (xB c 0) := c0
  have c1' : σ (2 + 0) 1 = nI (xB c 1) := c1
  have c2' : σ (2 + 0) 2 = nI (xB c 2) := c2
  have b0' : σ 25 1 = nI (xB c 0) := b0
  have b1' : σ 25 2 = nI (xB c 1) := b1
  have b2' : σ 25 3 = nI (xB c 2) := b2
  rcases r_notb N σ a (B := xB c 0) (by omega) (by omega) with ⟨x, hx, rfl, ex⟩ | ⟨hx, ex⟩
  · rcases r_notb N σ b (B := xB c 1) (by omega) (by omega) with ⟨y, hy, rfl, ey⟩ | ⟨hy, ey⟩
    · rcases r_notb N σ d (B := xB c 2) (by omega) (by omega) with ⟨z, hz, rfl, ez⟩ | ⟨hz, ez⟩
      · refine ⟨0, su σ 51 0 (fi (pIn V x y z) 6 0), fi (pIn V x y z) 6 0, su (su σ 51 0 (fi (pIn V x y z) 6 0)) 25 0 0, ?_, ?_, su_same _ _ _ _, fun _ => ?_, su51 h _⟩
        · have : f_X1_hasCell N 0 (nI x) (nI y) (nI z) σ = some (1, σ) := by
            unfold f_X1_hasCell
            rw [c0', c1', c2', if_neg (nI_pos (by omega)), if_neg (by rw [q_le (by omega) (by omega)]; omega), if_neg (nI_pos (by omega)), if_neg (by rw [q_le (by omega) (by omega)]; omega), if_neg (nI_pos (by omega)), if_neg (by rw [q_le (by omega) (by omega)]; omega)]
          unfold f_L_cell_ f_X3_cell
          rw [this, bn_some, if_neg (by decide), c_pieceIn N 0 (by omega) hV hs (by omega) (by omega) (by omega), bn_some]; rfl
        · have hR1 := (hR.s51 (v := fi (pIn V x y z) 6 0))
          have hR2 := hR1.s25 (v := 0)
          have n0 : ∀ (τ : St) {m B : Nat}, m < B → B ≤ 8 → f_X4_not N (nI m) 0 (nI B - 1) τ = some (0, τ) := fun τ m B h1 h2 => by
            have e : nI B - 1 = nI (B - 1) := by
              have := nI_pred (B - 1)
              rwa [show B - 1 + 1 = B by omega] at this
            rw [e]; exact r_not_in N τ (by omega) (by omega)
          have d0 : su σ 51 0 (fi (pIn V x y z) 6 0) 25 = σ 25 := su_row (by decide)
          unfold f_X4_cell
          rw [d0, b0', n0 _ hx (by omega), bn_some, if_pos rfl, d0, b1', n0 _ hy (by omega), bn_some, if_pos rfl, d0, b2', n0 _ hz (by omega), bn_some, if_pos rfl, su_same, if_pos rfl]
          have := r_cell' N hR2.1 hR2.2.2.2.2.2.2.2 hs (x := x) (y := y) (z := z) (by omega) (by omega) (by omega) (nI x) (nI y) (nI z) (xN c) 0 N (by omega) (by omega)
          rw [fi_cut hn (fun j hj => by simp [pIn, hA.2.2.2.2.2 j hj])] at this
          exact this
        · rw [su_ne _ _ (by omega), su_same]
      · refine bad ?_ ?_
        · unfold f_X1_hasCell
          rw [c0', c1', c2', if_neg (nI_pos (by omega)), if_neg (by rw [q_le (by omega) (by omega)]; omega), if_neg (nI_pos (by omega)), if_neg (by rw [q_le (by omega) (by omega)]; omega)]
          rcases hz with hz | hz
          · rw [if_pos hz]
          · by_cases e : d < 0
            · rw [if_pos e]
            · rw [if_neg e, if_pos hz]
        · unfold f_X4_cell
          rw [b0', ex, bn_some, if_pos rfl, b1', ey, bn_some, if_pos rfl, b2', ez, bn_some, if_neg (by decide), su_same, if_neg (by decide)]
    · refine bad ?_ ?_
      · unfold f_X1_hasCell
        rw [c0', c1', if_neg (nI_pos (by omega)), if_neg (by rw [q_le (by omega) (by omega)]; omega)]
        rcases hy with hy | hy
        · rw [if_pos hy]
        · by_cases e : b < 0
          · rw [if_pos e]
          · rw [if_neg e, if_pos hy]
      · unfold f_X4_cell
        rw [b0', ex, bn_some, if_pos rfl, b1', ey, bn_some, if_neg (by decide), su_same, if_neg (by decide)]
  · refine bad ?_ ?_
    · unfold f_X1_hasCell
      rw [c0']
      rcases hx with hx | hx
      · rw [if_pos hx]
      · by_cases e : a < 0
        · rw [if_pos e]
        · rw [if_neg e, if_pos hx]
    · unfold f_X4_cell
      rw [b0', ex, bn_some, if_neg (by decide), su_same, if_neg (by decide)]
