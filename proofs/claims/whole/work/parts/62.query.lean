/-! layer 2: calls that ask -/
def MO (N : Nat) (fl : St → Option (Int32 × St)) (fr : St → Option (Int32 × St)) (k : Nat) (σ : St) : Prop := ∃ r1 τ1 r2 τ2, fl σ = some (r1, τ1) ∧ fr τ1 = some (r2, τ2) ∧ τ2 25 0 = r1 ∧ (r1 = 0 → τ2 51 0 = r2) ∧ Good (k + 1) τ2
theorem r_way' {τ : St} {V : PV} (h : RV τ V) (hs : SZ V) {i : Nat} (hi : i < 6) : (0 ≤ τ 32 i) = (V i 0 = 1) := by
  have := r_way h hs hi
  have h1 := (hs i hi).1
  by_cases e : V i 0 = 0
  · rw [eq_true e] at this
    exact (eq_false (Int32.not_le.mpr (of_eq_true this))).trans (eq_false (by omega)).symm
  · rw [eq_false e] at this
    exact (eq_true (Int32.not_lt.mp (of_eq_false this))).trans (eq_true (by omega)).symm
theorem su51 {σ : St} {v : Int32} {k : Nat} (h : Good k σ) (w : Int32) : Good (k + 1) (su (su σ 51 0 v) 25 0 w) := good_q h fun p f e1 e2 e3 e4 e5 => by rw [su_ne _ _ (by omega), su_ne _ _ (by omega)]
theorem su25 {σ : St} {k : Nat} (h : Good k σ) (w : Int32) : Good (k + 1) (su σ 25 0 w) := good_q h fun p f e1 e2 e3 e4 e5 => by rw [su_ne _ _ (by omega)]
theorem RI.s51 {c : CT} {rk : Nat → Nat} {pk : Nat → Int32} {cl sd : Nat} {al : Bool} {V : PV} {σ : St} {v : Int32} (h : RI c rk pk cl sd al V σ) : RI c rk pk cl sd al V (su σ 51 0 v) := h.fr fun p f _ _ _ _ => su_ne _ _ (by omega)
theorem RI.s25 {c : CT} {rk : Nat → Nat} {pk : Nat → Int32} {cl sd : Nat} {al : Bool} {V : PV} {σ : St} {v : Int32} (h : RI c rk pk cl sd al V σ) : RI c rk pk cl sd al V (su σ 25 0 v) := h.fr fun p f _ _ _ _ => su_ne _ _ (by omega)
theorem m_box (N : Nat) (a : Int32) {k : Nat} {σ : St} (h : Good k σ) : MO N (f_L_box N a) (f_X4_box N a) k σ := by
  have h' := h
  obtain ⟨c, rk, pk, cl, sd, al, V, hA, hC, hR, hk⟩ := h'
  have hn := hR.1.2
  rcases arg_case a hn with ⟨p, hp, rfl⟩ | ha
  · refine ⟨0, su σ 51 0 (pk p), pk p, su (su σ 51 0 (pk p)) 25 0 0, ?_, ?_, su_same _ _ _ _, fun _ => ?_, su51 h _⟩
    · unfold f_L_box f_X3_box
      rw [c_known_in N hC.1 hn hp, bt_l, bhI_l, (hC.2.2.2.2.2.2.2.1 p (by omega)).2.2.2.2]; rfl
    · unfold f_X4_box
      rw [r_noP_in N hR.s51.1 hp, bn_some, if_pos rfl, su_same, if_pos rfl, if_pos (q_inb (by omega) (by decide)), q_ix (by omega), ((hR.s51.s25.2.2.2.2.2.2.1 p (by omega)).1 hp).2.2.2]
    · rw [su_ne _ _ (by omega), su_same]
  · refine ⟨1, σ, 0, su σ 25 0 1, ?_, ?_, su_same _ _ _ _, fun e => absurd e (by decide), su25 h _⟩
    · unfold f_L_box f_X3_box
      rw [c_known_out N hC.1 ha, bt_r, bhI_r, if_pos rfl]
    · unfold f_X4_box
      rw [r_noP_out N hR.1 ha, bn_some, if_neg (by decide), su_same, if_neg (by decide)]
theorem c_detail (N : Nat) {σ : St} {p : Nat} {a : Nat → Nat} (h : SP σ p a) {w : Nat} (hw : w ≤ 6) : f_X2_detail N p (nI w) σ = some (nI (a (1 + w)), σ) := by
  obtain ⟨p1, p2, p3, p4, p5, p6, p7⟩ := h
  unfold f_X2_detail
  have : w = 0 ∨ w = 1 ∨ w = 2 ∨ w = 3 ∨ w = 4 ∨ w = 5 ∨ w = 6 := by omega
  rw [p1, p2, p3, p4, p5, p6, p7]
  rcases this with rfl | rfl | rfl | rfl | rfl | rfl | rfl <;> rfl
set_option maxHeartbeats 1000000 in
theorem m_at (N : Nat) (a b : Int32) {k : Nat} {σ : St} (h : Good k σ) : MO N (f_L_at N a b) (f_X4_at N a b) k σ := by
  have h' := h
  obtain ⟨c, rk, pk, cl, sd, al, V, hA, hC, hR, hk⟩ := h'
  have hn := hR.1.2
  have hs := hA.2.2.2.1
  rcases arg_case a hn with ⟨p, hp, rfl⟩ | ha
  · have hp6 : p < 6 := by omega
    have hV := hC.2.2.2.2.2.2.2.2.1 p hp6
    rcases rng_case b 6 (by decide) with ⟨w, hw, rfl⟩ | hb
    · have e6 : (nI w ≤ 6) = True := eq_true ((nI_leI (b := 6) (by omega) (by decide)).mpr hw)
      have e0 : (nI w < 0) = False := eq_false (nI_pos (by omega))
      by_cases hv : V p 0 = 0
      · refine ⟨0, su σ 51 0 (-1), -1, su (su σ 51 0 (-1)) 25 0 0, ?_, ?_, su_same _ _ _ _, fun _ => ?_, su51 h _⟩
        · unfold f_L_at f_X3_at
          rw [c_spot_in N hC.1 hn hp, bt_l]
          simp only [e0, e6, ↓reduceIte, hV.1, q_pl0 (hs p hp6).1, hv]
          rfl
        · unfold f_X4_at
          rw [r_noP_in N hR.s51.1 hp, bn_some, if_pos rfl, show (6 : Int32) = nI 6 from rfl, r_not_in N _ hw (by decide), bn_some, if_pos rfl, su_same, if_pos rfl, if_pos (q_inb (by omega) (by decide)), q_ix (by omega)]
          simp only [r_way' hR.s51.s25.2.2.2.2.2.2.2 hs hp6]
          rw [if_neg (by omega)]
        · rw [su_ne _ _ (by omega), su_same]
      · have hv1 : V p 0 = 1 := by have := (hs p hp6).1; omega
        refine ⟨0, su σ 51 0 (nI (V p (1 + w))), nI (V p (1 + w)), su (su σ 51 0 (nI (V p (1 + w)))) 25 0 0, ?_, ?_, su_same _ _ _ _, fun _ => ?_, su51 h _⟩
        · unfold f_L_at f_X3_at
          rw [c_spot_in N hC.1 hn hp, bt_l]
          simp only [e0, e6, ↓reduceIte, hV.1, q_pl0 (hs p hp6).1, hv, c_detail N (hV.2 hv1) hw, bn_some]
          rfl
        · unfold f_X4_at
          rw [r_noP_in N hR.s51.1 hp, bn_some, if_pos rfl, show (6 : Int32) = nI 6 from rfl, r_not_in N _ hw (by decide), bn_some, if_pos rfl, su_same, if_pos rfl, if_pos (q_inb (by omega) (by decide)), q_ix (by omega)]
          have R := ((hR.s51 (v := nI (V p (1 + w)))).s25 (v := 0)).2.2.2.2.2.2.2 p hp6
          simp only [r_way' hR.s51.s25.2.2.2.2.2.2.2 hs hp6]
          obtain ⟨p0, p1, p2, p3, p4, p5, p6⟩ := R.2 hv1
          rw [if_pos hv1, p0, p1, p2, p3, p4, p5, p6]
          simp only [q_inb hp6 (show 6 < 2 ^ 31 by decide), ↓reduceIte]
          have : w = 0 ∨ w = 1 ∨ w = 2 ∨ w = 3 ∨ w = 4 ∨ w = 5 ∨ w = 6 := by omega
          rcases this with rfl | rfl | rfl | rfl | rfl | rfl | rfl <;> rfl
        · rw [su_ne _ _ (by omega), su_same]
    · refine ⟨2, σ, 0, su σ 25 0 2, ?_, ?_, su_same _ _ _ _, fun e => absurd e (by decide), su25 h _⟩
      · unfold f_L_at f_X3_at
        rw [c_spot_in N hC.1 hn hp, bt_l]
        have : (if b < 0 then (some (.inr ("java/lang/IllegalArgumentException", σ)) : Option ((Int32 × St) ⊕ (String × St))) else if b ≤ 6 then (if (σ (13 + 6 * 0 + p) 0 &&& 1) = 0 then some (.inl ((-1), σ)) else bn (f_X2_detail N (13 + 6 * 0 + p) b σ) fun r_2 τ_2 => some (.inl (r_2, τ_2))) else some (.inr ("java/lang/IllegalArgumentException", σ))) = some (.inr ("java/lang/IllegalArgumentException", σ)) := by
          rcases hb with hb | ⟨h1, h2⟩
          · rw [if_pos hb]
          · rw [if_neg h1, if_neg (show ¬ b ≤ 6 from h2)]
        rw [this, bhI_r, if_neg (by decide), if_pos rfl]
      · unfold f_X4_at
        rw [r_noP_in N hR.1 hp, bn_some, if_pos rfl, show (6 : Int32) = nI 6 from rfl, r_not_out N _ hb, bn_some, if_neg (by decide), su_same, if_neg (by decide)]
  · refine ⟨1, σ, 0, su σ 25 0 1, ?_, ?_, su_same _ _ _ _, fun e => absurd e (by decide), su25 h _⟩
    · unfold f_L_at f_X3_at
      rw [c_spot_out N hC.1 ha, bt_r, bhI_r, if_pos rfl]
    · unfold f_X4_at
      rw [r_noP_out N hR.1 ha, bn_some, if_neg (by decide), su_same, if_neg (by decide)]
theorem m_over (N : Nat) (a b : Int32) {k : Nat} {σ : St} (h : Good k σ) : ∃ r1 τ1 r2 τ2, f_L_over N a b σ = some (r1, τ1) ∧ f_X4_over N a b τ1 = some (r2, τ2) ∧ τ2 25 0 = r1 ∧ (r1 = 0 → τ2 51 0 = r2 ∧ (r2 = 0 ∨ r2 = 1)) ∧ Good (k + 1) τ2 := by
  have h' := h
  obtain ⟨c, rk, pk, cl, sd, al, V, hA, hC, hR, hk⟩ := h'
  have hn := hR.1.2
  have hs := hA.2.2.2.1
  rcases arg_case a hn with ⟨p, hp, rfl⟩ | ha
  · have hp6 : p < 6 := by omega
    have hV := hC.2.2.2.2.2.2.2.2.1 p hp6
    rcases arg_case b hn with ⟨q, hq, rfl⟩ | hb
    · have hq6 : q < 6 := by omega
      have hW := hC.2.2.2.2.2.2.2.2.1 q hq6
      by_cases hall : p ≠ q ∧ V p 0 = 1 ∧ V q 0 = 1
      · obtain ⟨e1, e2, e3⟩ := hall
        refine ⟨0, su σ 51 0 (bI (decide (0 < ar2 (V p) (V q)))), bI (decide (0 < ar2 (V p) (V q))), su (su σ 51 0 (bI (decide (0 < ar2 (V p) (V q))))) 25 0 0, ?_, ?_, su_same _ _ _ _, fun _ => ⟨?_, ?_⟩, su51 h _⟩
        · unfold f_L_over f_X3_over
          rw [c_spot_in N hC.1 hn hp, bt_l, c_spot_in N hC.1 hn hq, bt_l, if_neg (by rw [q_eq (by omega) (by omega)]; exact e1), hV.1, hW.1, if_neg (by rw [e2]; decide), if_neg (by rw [e3]; decide), c_mfa N (hV.2 e2) (hW.2 e3) ((hs p hp6).2 e2) ((hs q hq6).2 e3), bn_some, if_pos (of_eq_true (bI_ok _)), bhI_l]
          cases decide (0 < ar2 (V p) (V q)) <;> rfl
        · have hR1 := hR.s51 (v := bI (decide (0 < ar2 (V p) (V q))))
          have a1 := ar2_le (b := V q) ((hs p hp6).2 e2)
          unfold f_X4_over
          rw [r_noP_in N hR1.1 hp, bn_some, if_pos rfl, r_noP_in N hR1.1 hq, bn_some, if_pos rfl, if_neg (by rw [q_eq (by omega) (by omega)]; exact e1), if_pos (q_inb hp6 (by decide)), q_ix (by omega), if_neg (by rw [r_way hR1.2.2.2.2.2.2.2 hs hp6]; omega), if_pos (q_inb hq6 (by decide)), q_ix (by omega), if_pos (by rw [r_way' hR1.2.2.2.2.2.2.2 hs hq6]; exact e3), su_same, if_pos rfl, r_area N hp6 hq6 ((hR1.s25.2.2.2.2.2.2.2 p hp6).2 e2) ((hR1.s25.2.2.2.2.2.2.2 q hq6).2 e3) ((hs p hp6).2 e2) ((hs q hq6).2 e3), bn_some]
          by_cases hz : ar2 (V p) (V q) = 0
          · rw [if_pos (by rw [q_le0 (by omega)]; exact hz), decide_eq_false (by omega)]; rfl
          · rw [if_neg (by rw [q_le0 (by omega)]; exact hz), decide_eq_true (by omega)]; rfl
        · rw [su_ne _ _ (by omega), su_same]
        · cases decide (0 < ar2 (V p) (V q))
          · exact Or.inl rfl
          · exact Or.inr rfl
      · refine ⟨2, σ, 0, su σ 25 0 2, ?_, ?_, su_same _ _ _ _, fun e => absurd e (by decide), su25 h _⟩
        · unfold f_L_over f_X3_over
          rw [c_spot_in N hC.1 hn hp, bt_l, c_spot_in N hC.1 hn hq, bt_l, hV.1, hW.1]
          simp only [q_pl0 (hs p hp6).1, q_pl0 (hs q hq6).1, q_eq (show p < 2 ^ 31 by omega) (show q < 2 ^ 31 by omega)]
          by_cases e1 : p = q
          · rw [if_pos e1]; rfl
          · rw [if_neg e1]
            by_cases e2 : V p 0 = 0
            · rw [if_pos e2]; rfl
            · rw [if_neg e2]
              have e3 : V q 0 = 0 := by have := (hs p hp6).1; have := (hs q hq6).1; omega
              rw [if_pos e3]; rfl
        · unfold f_X4_over
          rw [r_noP_in N hR.1 hp, bn_some, if_pos rfl, r_noP_in N hR.1 hq, bn_some, if_pos rfl]
          simp only [q_eq (show p < 2 ^ 31 by omega) (show q < 2 ^ 31 by omega), qiT hp6, qix hp6, qiT hq6, qix hq6, ↓reduceIte, r_way hR.2.2.2.2.2.2.2 hs hp6, r_way' hR.2.2.2.2.2.2.2 hs hq6, su_same]
          by_cases e1 : p = q
          · rw [if_pos e1, if_neg (by decide)]
          · rw [if_neg e1]
            by_cases e2 : V p 0 = 0
            · rw [if_pos e2, if_neg (by decide)]
            · rw [if_neg e2]
              have e3 : ¬ V q 0 = 1 := by have := (hs p hp6).1; have := (hs q hq6).1; omega
              rw [if_neg e3, if_neg (by decide)]
    · refine ⟨1, σ, 0, su σ 25 0 1, ?_, ?_, su_same _ _ _ _, fun e => absurd e (by decide), su25 h _⟩
      · unfold f_L_over f_X3_over
        rw [c_spot_in N hC.1 hn hp, bt_l, c_spot_out N hC.1 hb, bt_r, bhI_r, if_pos rfl]
      · unfold f_X4_over
        rw [r_noP_in N hR.1 hp, bn_some, if_pos rfl, r_noP_out N hR.1 hb, bn_some, if_neg (by decide), su_same, if_neg (by decide)]
  · refine ⟨1, σ, 0, su σ 25 0 1, ?_, ?_, su_same _ _ _ _, fun e => absurd e (by decide), su25 h _⟩
    · unfold f_L_over f_X3_over
      rw [c_spot_out N hC.1 ha, bt_r, bhI_r, if_pos rfl]
    · unfold f_X4_over
      rw [r_noP_out N hR.1 ha, bn_some, if_neg (by decide), su_same, if_neg (by decide)]
