/-! layer 2: a level of the reference's search -/
theorem Fp_cut {c : CT} {rec : PV → AC → AC} {V : PV} {p w kz ky kx : Nat} {A : AC} (h : A.2.2.2 = true) : Fp c rec V p w kz ky kx A = A := by
  unfold Fp
  rw [fx_cut h, fy_cut h, fz_cut h, fw_cut h]
noncomputable def finA (c : CT) (ps : List Nat) (V : PV) (X : AC) : AC := if X.2.2.2 = true then X else srch c ps V X
theorem LV.fr {τ υ : St} {i : Nat} {V : PV} (h : LV τ i V) (k : ∀ p g, p = 48 ∧ g % 56 / 8 = i ∨ p = 49 ∧ g % 7 = i → υ p g = τ p g) (hi : i < 6) : LV υ i V := fun a ha => by
  obtain ⟨⟨h1, h2⟩, h3⟩ := h a ha
  refine ⟨⟨(k _ _ (by omega)).trans h1, fun j e he => ?_⟩, h3⟩
  have hj : j < (eL V a).length := by
    refine Nat.lt_of_not_le fun hh => ?_
    rw [List.getElem?_eq_none hh] at he; cases he
  exact (k _ _ (by omega)).trans (h2 j e he)
theorem Pos.fr {τ υ : St} {i w kz ky kx : Nat} (h : Pos τ i w kz ky kx) (k : ∀ p, 44 ≤ p → p ≤ 47 → υ p i = τ p i) : Pos υ i w kz ky kx := ⟨(k _ (by omega) (by omega)).trans h.1, (k _ (by omega) (by omega)).trans h.2.1, (k _ (by omega) (by omega)).trans h.2.2.1, (k _ (by omega) (by omega)).trans h.2.2.2⟩
theorem RV.off {τ : St} {V V' : PV} {p : Nat} (h : RV τ V') (hp0 : V p 0 = 0) (hne : ∀ j, j ≠ p → V' j = V j) : RV (su τ 32 p (-1)) V := fun j hj => by
  by_cases e : j = p
  · subst e
    exact ⟨fun _ => su_same _ _ _ _, fun h1 => by omega⟩
  · have hn : ∀ q, su τ 32 p (-1) q j = τ q j := fun q => su_ne τ _ (by omega)
    obtain ⟨g1, g2⟩ := h j hj
    rw [hne j e] at g1 g2
    refine ⟨fun h0 => (hn _).trans (g1 h0), fun h1 => ?_⟩
    obtain ⟨p0, p1, p2, p3, p4, p5, p6⟩ := g2 h1
    exact ⟨(hn _).trans p0, (hn _).trans p1, (hn _).trans p2, (hn _).trans p3, (hn _).trans p4, (hn _).trans p5, (hn _).trans p6⟩
theorem getD_mem {L : List Nat} {k : Nat} (h : k < L.length) : L[k]? = some (L.getD k 0) := by
  rw [List.getD_eq_getElem?_getD, List.getElem?_eq_getElem h]; rfl
set_option maxHeartbeats 4000000 in
theorem r_level (N : Nat) (hN : 9 ≤ N) {c : CT} (hc : CTok c) {pre ps : List Nat} {p : Nat} (hO : xO c = pre ++ p :: ps) (hlen : (xO c).length ≤ 6) {V : PV} (hg : VG c V) (hp : p < xN c) (hp0 : V p 0 = 0)
    (hrec : ∀ V', VG c V' → (V' = V ∨ ∃ w x y z, V' = put V (xS c p) p w x y z) → SS N c (pre.length + 1) V' ps)
    (hGA : ∀ V' A, VG c V' → (V' = V ∨ ∃ w x y z, V' = put V (xS c p) p w x y z) → GA c A → GA c (srch c ps V' A)) :
    ∀ R w kz ky kx A τ, rem V w kz ky kx < R → w < 6 → kx ≤ (eL V 0).length → ky < (eL V 1).length → kz < (eL V 2).length → GA c A → A.2.2.2 = false → RK c τ → RV (su τ 32 p (-1)) V → RA τ A → τ 50 pre.length = 0 → LV τ pre.length V → Pos τ pre.length w kz ky kx →
    ∃ υ u, u + 12 * A.1 ≤ 12 * (finA c ps V (Fp c (srch c ps) V p w kz ky kx A)).1 + (2 * ps.length + 3) ∧ LF pre.length τ υ ∧ RA υ (finA c ps V (Fp c (srch c ps) V p w kz ky kx A)) ∧
      ((finA c ps V (Fp c (srch c ps) V p w kz ky kx A)).2.2.2 = false → RV υ V ∧ ∀ f, lp_X4_search_21 N (nI (xLim c)) (f + u) (nI (xLim c)) (nI pre.length) τ = lp_X4_search_21 N (nI (xLim c)) f (nI (xLim c)) (nI pre.length + (-1)) υ) ∧
      ((finA c ps V (Fp c (srch c ps) V p w kz ky kx A)).2.2.2 = true → ∀ f, lp_X4_search_21 N (nI (xLim c)) (f + u) (nI (xLim c)) (nI pre.length) τ = some (0, υ)) := by
  have hl : (xO c).length = pre.length + (ps.length + 1) := by rw [hO, List.length_append, List.length_cons]
  have hp6 : p < 6 := Nat.lt_of_lt_of_le hp hc.2.1
  have hO43 : (xO c)[pre.length]? = some p := by rw [hO, List.getElem?_append_right (by omega), Nat.sub_self]; rfl
  have hcp := hc.2.2.2.1 p hp
  have hlim := hc.2.2.1
  intro R
  induction R with
  | zero => intro w kz ky kx A τ h; omega
  | succ R ih =>
    intro w kz ky kx A τ hR hw hx hy hz hA hcut hk hV ha h50 hL hP
    have hAl := hA.1
    have hne : ∀ q g, ¬ (q = 32 ∧ g = p) → su τ 32 p (-1) q g = τ q g := fun q g e => su_ne τ _ e
    have h43 : τ 43 pre.length = nI p := hk.2.2.2.2.2 _ _ hO43
    obtain ⟨k1, k2, k3, k4⟩ := hk.2.2.2.1 p hp
    have hAH : AH (su τ 32 p (-1)) pre.length p (xM c p) (xS c p) := ⟨(hne _ _ (by omega)).trans h43, ⟨(hne _ _ (by omega)).trans k3.1, (hne _ _ (by omega)).trans k3.2.1, (hne _ _ (by omega)).trans k3.2.2⟩, (hne _ _ (by omega)).trans k4⟩
    have hL1 : LV (su τ 32 p (-1)) pre.length V := hL.fr (fun q g e => hne q g (by omega)) (by omega)
    have hP1 : Pos (su τ 32 p (-1)) pre.length w kz ky kx := hP.fr fun q h1 h2 => hne q _ (by omega)
    have hLF0 : LF pre.length τ (su τ 32 p (-1)) := fun q g h1 _ _ _ _ _ => hne q g (by omega)
    rcases r_next N hN (c := c) (by omega) hp6 hcp.2 hcp.1 hAH hL1 hP1 hw hx hy hz with ⟨w2, kz2, ky2, k2, υ1, g1, g2, g3, g4, g5, g6, g7, g8, g9⟩ | ⟨υ1, g1, g2, g3⟩
    · have it := fun f => it_go N (nI (xLim c)) f (i := pre.length) (n := (xO c).length) (by omega) hlen hk.2.2.2.2.1 h50 h43 hp6 g1
      have q26 : υ1 25 26 = nI A.1 := (g3 _ _ (by omega)).trans ((hne _ _ (by omega)).trans ha.1)
      have hFx := (g9 (srch c ps) A).trans (Fp_x (c := c) (rec := srch c ps) (p := p) (w := w2) (kz := kz2) (ky := ky2) g5 A)
      have hLF1 := hLF0.tr g3.lf
      by_cases hst : A.1 = xLim c
      · have h1' : one c (srch c ps) V p w2 ((eL V 0).getD k2 0) ((eL V 1).getD ky2 0) ((eL V 2).getD kz2 0) A = (A.1, A.2.1, A.2.2.1, true) := by
          unfold one
          rw [if_neg (by rw [hcut]; decide), if_neg (by omega)]
        rw [hFx, h1', Fp_cut rfl]
        unfold finA
        rw [if_pos rfl]
        refine ⟨υ1, 1, by show 1 + 12 * A.1 ≤ 12 * A.1 + _; omega, hLF1, ?_, (fun e => by cases e), fun _ f => ?_⟩
        · have := ha.fr (υ := υ1) fun q g e => (g3 q g (by omega)).trans (hne q g (by omega))
          exact this
        · rw [it f, if_neg (by decide), if_pos (by rw [q26, hst])]
      · have hlt : A.1 < xLim c := by omega
        obtain ⟨e44, e45, e46, e47⟩ := g2
        have e45' : υ1 45 pre.length = nI k2 := by rw [e45]; exact nI_pred k2
        have L0 := (hL1 0 (by decide)).1.2 k2 _ (getD_mem g5)
        have L1 := (hL1 1 (by decide)).1.2 ky2 _ (getD_mem g6)
        have L2 := (hL1 2 (by decide)).1.2 kz2 _ (getD_mem g7)
        have n0 := (hL1 0 (by decide)).2
        have n1 := (hL1 1 (by decide)).2
        have n2 := (hL1 2 (by decide)).2
        rw [show 56 * 0 + 8 * pre.length + k2 = 8 * pre.length + k2 by omega] at L0
        rw [show 56 * 1 + 8 * pre.length + ky2 = 56 + 8 * pre.length + ky2 by omega] at L1
        rw [show 56 * 2 + 8 * pre.length + kz2 = 112 + 8 * pre.length + kz2 by omega] at L2
        have L0' : υ1 48 (8 * pre.length + k2) = nI ((eL V 0).getD k2 0) := (g3 _ _ (by omega)).trans L0
        have L1' : υ1 48 (56 + 8 * pre.length + ky2) = nI ((eL V 1).getD ky2 0) := (g3 _ _ (by omega)).trans L1
        have L2' : υ1 48 (112 + 8 * pre.length + kz2) = nI ((eL V 2).getD kz2 0) := (g3 _ _ (by omega)).trans L2
        have b0 : (eL V 0).getD k2 0 < 9 := (elf_lt 9 0 _ (List.mem_of_getElem? (getD_mem g5))).2.1
        have b1 : (eL V 1).getD ky2 0 < 9 := (elf_lt 9 0 _ (List.mem_of_getElem? (getD_mem g6))).2.1
        have b2 : (eL V 2).getD kz2 0 < 9 := (elf_lt 9 0 _ (List.mem_of_getElem? (getD_mem g7))).2.1
        have u43 : υ1 43 pre.length = nI p := (g3 _ _ (by omega)).trans ((hne _ _ (by omega)).trans h43)
        have hne2 : ∀ q g, ¬ (q = 25 ∧ g = 26) → su υ1 25 26 (nI (A.1 + 1)) q g = υ1 q g := fun q g e => su_ne υ1 _ e
        have hall : ∀ q g, ¬ (q = 25 ∧ g = 26) → ¬ (44 ≤ q ∧ q ≤ 47 ∧ g = pre.length) → su υ1 25 26 (nI (A.1 + 1)) q g = su τ 32 p (-1) q g := fun q g e1 e2 => (hne2 q g e1).trans (g3 q g e2)
        have hRS : RS (su υ1 25 26 (nI (A.1 + 1))) p (xS c p) := ⟨(hall _ _ (by omega) (by omega)).trans hAH.2.1.1, (hall _ _ (by omega) (by omega)).trans hAH.2.1.2.1, (hall _ _ (by omega) (by omega)).trans hAH.2.1.2.2⟩
        obtain ⟨υ2, s1, s2, s3⟩ := r_stand N hRS hp6 g4 ((eL V 0).getD k2 0) ((eL V 1).getD ky2 0) ((eL V 2).getD kz2 0) V
        have hs' := put_sz hc hg.1 (p := p) (w := w2) (x := (eL V 0).getD k2 0) (y := (eL V 1).getD ky2 0) (z := (eL V 2).getD kz2 0) hp g4 (by omega) (by omega) (by omega)
        have hnp' := put_np hg.2.2.1 w2 ((eL V 0).getD k2 0) ((eL V 1).getD ky2 0) ((eL V 2).getD kz2 0) hp
        have hall2 : ∀ q g, ¬ (q = 25 ∧ g = 26) → ¬ (44 ≤ q ∧ q ≤ 47 ∧ g = pre.length) → ¬ (32 ≤ q ∧ q ≤ 38 ∧ g = p) → υ2 q g = τ q g := fun q g e1 e2 e3 => ((s3 q g e3).trans (hall q g e1 e2)).trans (hne q g (by omega))
        have hV2 : RV υ2 (put V (xS c p) p w2 ((eL V 0).getD k2 0) ((eL V 1).getD ky2 0) ((eL V 2).getD kz2 0)) := fun j hj => by
          by_cases e : j = p
          · subst e
            exact ⟨(fun h0 => by rw [put_0] at h0; cases h0), fun _ => s2⟩
          · rw [put_ne _ _ _ _ _ _ e]
            obtain ⟨x1, x2⟩ := hV j hj
            have hh : ∀ q, 32 ≤ q → q ≤ 38 → υ2 q j = su τ 32 p (-1) q j := fun q h1 h2 => (s3 q j (by omega)).trans (hall q j (by omega) (by omega))
            refine ⟨fun h0 => (hh _ (by omega) (by omega)).trans (x1 h0), fun h1 => ?_⟩
            obtain ⟨p0, p1, p2, p3, p4, p5, p6⟩ := x2 h1
            exact ⟨(hh _ (by omega) (by omega)).trans p0, (hh _ (by omega) (by omega)).trans p1, (hh _ (by omega) (by omega)).trans p2, (hh _ (by omega) (by omega)).trans p3, (hh _ (by omega) (by omega)).trans p4, (hh _ (by omega) (by omega)).trans p5, (hh _ (by omega) (by omega)).trans p6⟩
        have hk2 : RK c υ2 := hk.fr fun q g e => hall2 q g (by omega) (by omega) (by omega)
        have hLF2 : LF pre.length τ υ2 := fun q g h1 h2 h3 _ _ _ => hall2 q g (by omega) (by omega) (by omega)
        have ha2 : RA υ2 (A.1 + 1, A.2.1, A.2.2.1, A.2.2.2) := by
          have hh : ∀ q g, (q = 25 ∧ (g = 20 ∨ g = 21) ∨ 39 ≤ q ∧ q ≤ 42) → υ2 q g = τ q g := fun q g e => hall2 q g (by omega) (by omega) (by omega)
          refine ⟨(s3 _ _ (by omega)).trans (su_same _ _ _ _), (hh _ _ (by omega)).trans ha.2.1, (hh _ _ (by omega)).trans ha.2.2.1, fun j hj => ⟨fun e => (hh _ _ (by omega)).trans ((ha.2.2.2 j hj).1 e), fun e => ?_⟩⟩
          obtain ⟨a1, a2, a3, a4⟩ := (ha.2.2.2 j hj).2 e
          exact ⟨(hh _ _ (by omega)).trans a1, (hh _ _ (by omega)).trans a2, (hh _ _ (by omega)).trans a3, (hh _ _ (by omega)).trans a4⟩
        have h502 : υ2 50 pre.length = 0 := (hall2 _ _ (by omega) (by omega) (by omega)).trans h50
        have hL2 : LV υ2 pre.length V := hL.fr (fun q g e => hall2 q g (by omega) (by omega) (by omega)) (by omega)
        have hP2 : Pos υ2 pre.length w2 kz2 ky2 (k2 + 1) := Pos.fr (τ := υ1) ⟨e44, e45, e46, e47⟩ fun q h1 h2 => (s3 q _ (by omega)).trans (hne2 q _ (by omega))
        have hA1 : GA c (A.1 + 1, A.2.1, A.2.2.1, A.2.2.2) := ⟨hlt, hA.2⟩
        have hpl := r_isPlan N hN hk2.1 hV2 hs' hnp' hc.1 hk2.2.1 (fun i hi => (hk2.2.2.2.1 i hi).1) hk2.2.2.1 (fun i hi => (hk2.2.2.2.1 i hi).2.1)
        have it2 : ∀ f, lp_X4_search_21 N (nI (xLim c)) (f + 1) (nI (xLim c)) (nI pre.length) τ = if okC c (put V (xS c p) p w2 ((eL V 0).getD k2 0) ((eL V 1).getD ky2 0) ((eL V 2).getD kz2 0)) = false then lp_X4_search_21 N (nI (xLim c)) f (nI (xLim c)) (nI pre.length) (su υ2 32 p (-1)) else dpr N (nI (xLim c)) f pre.length υ2 := fun f => by
          rw [it f, if_neg (by decide), if_neg (by rw [q26, q_eq (by omega) (by omega)]; exact hst), e45', e46, e47, nI_add, nI_add, nI_add, if_pos (q_inb (by omega) (by decide)), if_pos (q_inb (by omega) (by decide)), if_pos (q_inb (by omega) (by decide)), q_ix (by omega), q_ix (by omega), q_ix (by omega), L0', L1', L2', u43, e44, q26, nI_1, s1, bv_some, hpl, bn_some]
          simp only [bI_0]
          have : υ2 43 pre.length = nI p := (hall2 _ _ (by omega) (by omega) (by omega)).trans h43
          rw [this, if_pos (q_inb hp6 (by decide)), q_ix (by omega)]; rfl
        by_cases hok : okC c (put V (xS c p) p w2 ((eL V 0).getD k2 0) ((eL V 1).getD ky2 0) ((eL V 2).getD kz2 0)) = false
        · have h1' : one c (srch c ps) V p w2 ((eL V 0).getD k2 0) ((eL V 1).getD ky2 0) ((eL V 2).getD kz2 0) A = (A.1 + 1, A.2.1, A.2.2.1, A.2.2.2) := by
            unfold one
            rw [if_neg (by rw [hcut]; decide), if_pos hlt, if_neg (by rw [hok]; decide), hcut]
          rw [hFx, h1']
          have hne3 : ∀ q g, ¬ (q = 32 ∧ g = p) → su υ2 32 p (-1) q g = υ2 q g := fun q g e => su_ne υ2 _ e
          obtain ⟨υ, u, f1, f2, f3, f4, f5⟩ := ih w2 kz2 ky2 (k2 + 1) (A.1 + 1, A.2.1, A.2.2.1, A.2.2.2) (su υ2 32 p (-1)) (by omega) g4 (by omega) g6 g7 hA1 hcut (hk2.fr fun q g e => hne3 q g (by omega)) ((RV.off hV2 hp0 (fun j hj => put_ne _ _ _ _ _ _ hj)).off hp0 (fun _ _ => rfl)) (ha2.fr fun q g e => hne3 q g (by omega)) ((hne3 _ _ (by omega)).trans h502) (hL2.fr (fun q g e => hne3 q g (by omega)) (by omega)) (hP2.fr fun q h1 h2 => hne3 q _ (by omega))
          refine ⟨υ, u + 1, ?_, (hLF2.tr fun q g h1 _ _ _ _ _ => hne3 q g (by omega)).tr f2, f3, fun e => ⟨(f4 e).1, fun f => ?_⟩, fun e f => ?_⟩
          · have f1' : u + 12 * (A.1 + 1) ≤ _ := f1
            omega
          · rw [show f + (u + 1) = (f + u) + 1 by omega, it2, if_pos hok]; exact (f4 e).2 f
          · rw [show f + (u + 1) = (f + u) + 1 by omega, it2, if_pos hok]; exact f5 e f
        · have hok' := Bool.of_not_eq_false hok
          have hg' : VG c (put V (xS c p) p w2 ((eL V 0).getD k2 0) ((eL V 1).getD ky2 0) ((eL V 2).getD kz2 0)) := ⟨hs', put_dv hg.2.1 _ _ _ g4, hnp', hok'⟩
          have h1' : one c (srch c ps) V p w2 ((eL V 0).getD k2 0) ((eL V 1).getD ky2 0) ((eL V 2).getD kz2 0) A = srch c ps (put V (xS c p) p w2 ((eL V 0).getD k2 0) ((eL V 1).getD ky2 0) ((eL V 2).getD kz2 0)) (A.1 + 1, A.2.1, A.2.2.1, A.2.2.2) := by
            unfold one
            rw [if_neg (by rw [hcut]; decide), if_pos hlt, if_pos hok', hcut]
          rw [hFx, h1']
          obtain ⟨υ3, d1, d2, d3, d4, d5⟩ := r_dpr N hN hc hO hlen hg' hk2 hV2
          obtain ⟨υ4, u4, f1, f2, f3, f4, f5⟩ := hrec _ hg' (Or.inr ⟨_, _, _, _, rfl⟩) (A.1 + 1, A.2.1, A.2.2.1, A.2.2.2) υ3 hA1 hcut (hk2.lf d2) d3 (ha2.fr fun q g e => d5 q g (by omega) (by omega)) d4
          have hGA2 := hGA _ (A.1 + 1, A.2.1, A.2.2.1, A.2.2.2) hg' (Or.inr ⟨_, _, _, _, rfl⟩) hA1
          generalize hA2 : srch c ps (put V (xS c p) p w2 ((eL V 0).getD k2 0) ((eL V 1).getD ky2 0) ((eL V 2).getD kz2 0)) (A.1 + 1, A.2.1, A.2.2.1, A.2.2.2) = A2 at f1 f3 f4 f5 hGA2 ⊢
          have f1' : u4 + 12 * (A.1 + 1) ≤ 12 * A2.1 + (2 * ps.length + 1) := f1
          have hLF4 := d2.tr f2
          by_cases hc2 : A2.2.2.2 = true
          · rw [Fp_cut hc2]
            unfold finA
            rw [if_pos hc2]
            refine ⟨υ4, u4 + 1, by omega, hLF2.tr hLF4.dn, f3, (fun e => by rw [hc2] at e; cases e), fun _ f => ?_⟩
            rw [show f + (u4 + 1) = (f + u4) + 1 by omega, it2, if_neg hok, d1]
            exact f5 hc2 f
          · have hc2' := Bool.eq_false_iff.mpr hc2
            obtain ⟨hV4, hf4⟩ := f4 hc2'
            obtain ⟨υ, u, r1, r2, r3, r4, r5⟩ := ih w2 kz2 ky2 (k2 + 1) A2 υ4 (by omega) g4 (by omega) g6 g7 hGA2 hc2' (hk2.lf hLF4) (RV.off hV4 hp0 (fun j hj => put_ne _ _ _ _ _ _ hj)) f3 ((hLF4 _ _ (by omega) (by omega) (by omega) (by omega) (by omega) (by omega)).trans h502) (hL2.fr (fun q g e => hLF4 q g (by omega) (by omega) (by omega) (by omega) (by omega) (by omega)) (by omega)) (hP2.fr fun q h1 h2 => hLF4 q _ (by omega) (by omega) (by omega) (by omega) (by omega) (by omega))
            have back : ∀ f, lp_X4_search_21 N (nI (xLim c)) (f + (u + u4 + 1)) (nI (xLim c)) (nI pre.length) τ = lp_X4_search_21 N (nI (xLim c)) (f + u) (nI (xLim c)) (nI pre.length) υ4 := fun f => by
              rw [show f + (u + u4 + 1) = ((f + u) + u4) + 1 by omega, it2, if_neg hok, d1, hf4 (f + u), q_pred (by omega), show pre.length + 1 - 1 = pre.length by omega]
            refine ⟨υ, u + u4 + 1, by omega, (hLF2.tr hLF4.dn).tr r2, r3, fun e => ⟨(r4 e).1, fun f => (back f).trans ((r4 e).2 f)⟩, fun e f => (back f).trans (r5 e f)⟩
    · have it := fun f => it_go N (nI (xLim c)) f (i := pre.length) (n := (xO c).length) (by omega) hlen hk.2.2.2.2.1 h50 h43 hp6 g1
      rw [g3]
      have hall : ∀ q g, ¬ (q = 50 ∧ g = pre.length) → ¬ (44 ≤ q ∧ q ≤ 47 ∧ g = pre.length) → su υ1 50 pre.length 1 q g = su τ 32 p (-1) q g := fun q g e1 e2 => (su_ne υ1 _ e1).trans (g2 q g e2)
      have hV1 : RV (su υ1 50 pre.length 1) V := hV.fe (i := 0) fun q g _ _ => hall q g (by omega) (by omega)
      have hk1 : RK c (su υ1 50 pre.length 1) := hk.fr fun q g e => (hall q g (by omega) (by omega)).trans (hne q g (by omega))
      have ha1 : RA (su υ1 50 pre.length 1) A := ha.fr fun q g e => (hall q g (by omega) (by omega)).trans (hne q g (by omega))
      have hLF1 : LF pre.length τ (su υ1 50 pre.length 1) := fun q g h1 _ h3 _ _ h6 => (hall q g (by omega) (by omega)).trans (hne q g (by omega))
      obtain ⟨υ3, d1, d2, d3, d4, d5⟩ := r_dpr N hN hc hO hlen hg hk1 hV1
      obtain ⟨υ4, u4, f1, f2, f3, f4, f5⟩ := hrec V hg (Or.inl rfl) A υ3 hA hcut (hk1.lf d2) d3 (ha1.fr fun q g e => d5 q g (by omega) (by omega)) d4
      have hLF4 := d2.tr f2
      unfold finA
      rw [if_neg (by rw [hcut]; decide)]
      have it2 : ∀ f, lp_X4_search_21 N (nI (xLim c)) (f + 1) (nI (xLim c)) (nI pre.length) τ = lp_X4_search_21 N (nI (xLim c)) f (nI (xLim c)) (nI (pre.length + 1)) υ3 := fun f => by rw [it f, if_pos rfl, d1]
      by_cases hc2 : (srch c ps V A).2.2.2 = true
      · refine ⟨υ4, u4 + 1, by omega, hLF1.tr hLF4.dn, f3, (fun e => by rw [hc2] at e; cases e), fun _ f => ?_⟩
        rw [show f + (u4 + 1) = (f + u4) + 1 by omega, it2]
        exact f5 hc2 f
      · have hc2' := Bool.eq_false_iff.mpr hc2
        obtain ⟨hV4, hf4⟩ := f4 hc2'
        refine ⟨υ4, u4 + 2, by omega, hLF1.tr hLF4.dn, f3, fun _ => ⟨hV4, fun f => ?_⟩, fun e => absurd e hc2⟩
        have h51 : υ4 50 pre.length = 1 := (hLF4 _ _ (by omega) (by omega) (by omega) (by omega) (by omega) (by omega)).trans (su_same _ _ _ _)
        have h28 : υ4 25 28 = nI (xO c).length := (hk1.lf hLF4).2.2.2.2.1
        rw [show f + (u4 + 2) = ((f + 1) + u4) + 1 by omega, it2, hf4 (f + 1), q_pred (by omega), show pre.length + 1 - 1 = pre.length by omega, it_pop N _ f (by omega) hlen h28 h51]
theorem r_search (N : Nat) (hN : 9 ≤ N) {c : CT} (hc : CTok c) (hlen : (xO c).length ≤ 6) : ∀ ps pre V, xO c = pre ++ ps → (∀ p, p ∈ ps → p < xN c ∧ V p 0 = 0) → ps.Nodup → VG c V → SS N c pre.length V ps := by
  intro ps
  induction ps with
  | nil =>
    intro pre V hO _ _ hg A τ hA hcut hk hV ha hr
    have hl : (xO c).length = pre.length := by rw [hO, List.append_nil]
    obtain ⟨υ, u1, u2, u3⟩ := r_look N hN hg hA hk hV ha
    have hcs : (srch c [] V A).2.2.2 = false := by
      unfold srch lookA
      split
      · exact hcut
      · exact hcut
    have hst : (srch c [] V A).1 = A.1 := by
      unfold srch lookA
      split <;> rfl
    refine ⟨υ, 1, by rw [hst, List.length_nil]; omega, fun q g h1 h2 _ _ _ _ => u3 q g (by omega) (by omega), u2, fun _ => ⟨hV.fe (i := 0) fun q g h1 h2 => u3 q g (by omega) (by omega), fun f => ?_⟩, fun e => by rw [hcs] at e; cases e⟩
    rw [it_leaf N _ f (by omega) (by rw [hk.2.2.2.2.1, hl]), u1, bv_some]
  | cons p ps ih =>
    intro pre V hO hps hnd hg A τ hA hcut hk hV ha hr
    have hp := hps p List.mem_cons_self
    have hnd' := List.nodup_cons.mp hnd
    have hO' : xO c = (pre ++ [p]) ++ ps := by rw [hO]; simp
    have hl' : (pre ++ [p]).length = pre.length + 1 := by simp
    have hpsV : ∀ V', (V' = V ∨ ∃ w x y z, V' = put V (xS c p) p w x y z) → ∀ q, q ∈ ps → q < xN c ∧ V' q 0 = 0 := fun V' hV' q hq => by
      have := hps q (List.mem_cons_of_mem _ hq)
      refine ⟨this.1, ?_⟩
      rcases hV' with rfl | ⟨w, x, y, z, rfl⟩
      · exact this.2
      · exact put_un (fun e => hnd'.1 (e ▸ hq)) this.2
    obtain ⟨hL, hP⟩ := hr.2 (by simp)
    have key := r_level N hN hc hO hlen hg hp.1 hp.2 (fun V' hg' hV' => by
      have := ih (pre ++ [p]) V' hO' (hpsV V' hV') hnd'.2 hg'
      rwa [hl'] at this) (fun V' A hg' hV' hA' => srch_GA hc ps V' A (hpsV V' hV') hnd'.2 hg' hA') (rem V 0 0 0 0 + 1) 0 0 0 0 A τ (by omega) (by decide) (by omega) (eL_0 V 1) (eL_0 V 2) hA hcut hk (hV.off hp.2 (fun _ _ => rfl)) ha hr.1 hL hP
    have e : finA c ps V (Fp c (srch c ps) V p 0 0 0 0 A) = srch c (p :: ps) V A := by rw [Fp_start]; rfl
    rw [e] at key
    rw [List.length_cons]
    obtain ⟨υ, u, k1, k2, k3, k4, k5⟩ := key
    exact ⟨υ, u, by omega, k2, k3, k4, k5⟩
