/-! layer 2: the reference's search is the pure one -/
noncomputable def Fp (c : CT) (rec : PV → AC → AC) (V : PV) (p w kz ky kx : Nat) (A : AC) : AC :=
  fw c rec V p (elf (lt (xM c p) (xS c p)) (5 - w) (w + 1)) (fz c rec V p w ((eL V 2).drop (kz + 1)) (fy c rec V p w ((eL V 2).getD kz 0) ((eL V 1).drop (ky + 1)) (fx c rec V p w ((eL V 1).getD ky 0) ((eL V 2).getD kz 0) ((eL V 0).drop kx) A)))
theorem drop_one {L : List Nat} {k : Nat} (h : k < L.length) : L.drop k = L.getD k 0 :: L.drop (k + 1) := by
  rw [List.drop_eq_getElem_cons h, List.getD_eq_getElem?_getD, List.getElem?_eq_getElem h]; rfl
theorem Fp_x {c : CT} {rec : PV → AC → AC} {V : PV} {p w kz ky kx : Nat} (h : kx < (eL V 0).length) (A : AC) : Fp c rec V p w kz ky kx A = Fp c rec V p w kz ky (kx + 1) (one c rec V p w ((eL V 0).getD kx 0) ((eL V 1).getD ky 0) ((eL V 2).getD kz 0) A) := by
  unfold Fp
  rw [drop_one h]; rfl
theorem Fp_y {c : CT} {rec : PV → AC → AC} {V : PV} {p w kz ky kx : Nat} (h : kx = (eL V 0).length) (h2 : ky + 1 < (eL V 1).length) (A : AC) : Fp c rec V p w kz ky kx A = Fp c rec V p w kz (ky + 1) 0 A := by
  unfold Fp
  rw [drop_one h2, h, List.drop_length, List.drop_zero]; rfl
theorem Fp_z {c : CT} {rec : PV → AC → AC} {V : PV} {p w kz ky kx : Nat} (h : kx = (eL V 0).length) (h2 : ky + 1 = (eL V 1).length) (h3 : kz + 1 < (eL V 2).length) (A : AC) : Fp c rec V p w kz ky kx A = Fp c rec V p w (kz + 1) 0 0 A := by
  unfold Fp
  rw [drop_one h3, h, List.drop_length, h2, List.drop_length, List.drop_zero]
  have e : eL V 1 = (eL V 1).getD 0 0 :: (eL V 1).drop (0 + 1) := by
    have := drop_one (L := eL V 1) (k := 0) (by omega)
    rwa [List.drop_zero] at this
  show fw c rec V p _ (fz c rec V p w ((eL V 2).drop (kz + 1 + 1)) (fy c rec V p w ((eL V 2).getD (kz + 1) 0) (eL V 1) A)) = _
  conv => lhs; rw [e]
  rfl
theorem Fp_w {c : CT} {rec : PV → AC → AC} {V : PV} {p w w' kz ky kx : Nat} (h : kx = (eL V 0).length) (h2 : ky + 1 = (eL V 1).length) (h3 : kz + 1 = (eL V 2).length) (hw : w < w') (hw6 : w' < 6) (hl : lt (xM c p) (xS c p) w' = true) (hn : ∀ x, w < x → x < w' → lt (xM c p) (xS c p) x = false) (A : AC) : Fp c rec V p w kz ky kx A = Fp c rec V p w' 0 0 0 A := by
  have e0 : elf (lt (xM c p) (xS c p)) (5 - w) (w + 1) = w' :: elf (lt (xM c p) (xS c p)) (5 - w') (w' + 1) := by
    have hs := elf_split (lt (xM c p) (xS c p)) (w' - (w + 1)) (6 - w') (w + 1)
    rw [show w' - (w + 1) + (6 - w') = 5 - w by omega, show w + 1 + (w' - (w + 1)) = w' by omega] at hs
    have hnil : elf (lt (xM c p) (xS c p)) (w' - (w + 1)) (w + 1) = [] := by
      refine List.eq_nil_iff_forall_not_mem.mpr fun x hx => ?_
      have := elf_lt _ _ _ hx
      rw [hn x (by omega) (by omega)] at this
      cases this.2.2
    rw [hs, hnil, List.nil_append, show 6 - w' = (5 - w') + 1 by omega, elf_t hl]
  have e1 : eL V 1 = (eL V 1).getD 0 0 :: (eL V 1).drop (0 + 1) := by
    have := drop_one (L := eL V 1) (k := 0) (by omega)
    rwa [List.drop_zero] at this
  have e2 : eL V 2 = (eL V 2).getD 0 0 :: (eL V 2).drop (0 + 1) := by
    have := drop_one (L := eL V 2) (k := 0) (by omega)
    rwa [List.drop_zero] at this
  unfold Fp
  rw [e0, h, List.drop_length, h2, List.drop_length, h3, List.drop_length, List.drop_zero]
  show fw c rec V p _ (fz c rec V p w' (eL V 2) A) = _
  have : fz c rec V p w' (eL V 2) A = fz c rec V p w' ((eL V 2).drop (0 + 1)) (fy c rec V p w' ((eL V 2).getD 0 0) (eL V 1) A) := by
    conv => lhs; rw [e2]
    rfl
  rw [this]
  have : fy c rec V p w' ((eL V 2).getD 0 0) (eL V 1) A = fy c rec V p w' ((eL V 2).getD 0 0) ((eL V 1).drop (0 + 1)) (fx c rec V p w' ((eL V 1).getD 0 0) ((eL V 2).getD 0 0) (eL V 0) A) := by
    conv => lhs; rw [e1]
    rfl
  rw [this]
theorem Fp_end {c : CT} {rec : PV → AC → AC} {V : PV} {p w kz ky kx : Nat} (h : kx = (eL V 0).length) (h2 : ky + 1 = (eL V 1).length) (h3 : kz + 1 = (eL V 2).length) (hw : w < 6) (hn : ∀ x, w < x → x < 6 → lt (xM c p) (xS c p) x = false) (A : AC) : Fp c rec V p w kz ky kx A = A := by
  have hnil : elf (lt (xM c p) (xS c p)) (5 - w) (w + 1) = [] := by
    refine List.eq_nil_iff_forall_not_mem.mpr fun x hx => ?_
    have := elf_lt _ _ _ hx
    rw [hn x (by omega) (by omega)] at this
    cases this.2.2
  unfold Fp
  rw [hnil, h, List.drop_length, h2, List.drop_length, h3, List.drop_length]; rfl
theorem eL_0 (V : PV) (a : Nat) : 0 < (eL V a).length := by
  have h : 0 ∈ eL V a := elf_mem 9 0 (by omega) (by omega) ((tb_mk6 _ _ 0 6 0 1).mpr (Or.inl (by decide)))
  exact List.length_pos_of_mem h
theorem Fp_start {c : CT} {rec : PV → AC → AC} {V : PV} {p : Nat} (A : AC) : Fp c rec V p 0 0 0 0 A = fw c rec V p (wL c p) A := by
  have e1 : eL V 1 = (eL V 1).getD 0 0 :: (eL V 1).drop (0 + 1) := by
    have := drop_one (L := eL V 1) (k := 0) (eL_0 V 1)
    rwa [List.drop_zero] at this
  have e2 : eL V 2 = (eL V 2).getD 0 0 :: (eL V 2).drop (0 + 1) := by
    have := drop_one (L := eL V 2) (k := 0) (eL_0 V 2)
    rwa [List.drop_zero] at this
  unfold Fp wL
  rw [elf_t (ltw_0 _ _), List.drop_zero]
  show _ = fw c rec V p _ (fz c rec V p 0 (eL V 2) A)
  have : fz c rec V p 0 (eL V 2) A = fz c rec V p 0 ((eL V 2).drop (0 + 1)) (fy c rec V p 0 ((eL V 2).getD 0 0) (eL V 1) A) := by
    conv => lhs; rw [e2]
    rfl
  rw [this]
  have : fy c rec V p 0 ((eL V 2).getD 0 0) (eL V 1) A = fy c rec V p 0 ((eL V 2).getD 0 0) ((eL V 1).drop (0 + 1)) (fx c rec V p 0 ((eL V 1).getD 0 0) ((eL V 2).getD 0 0) (eL V 0) A) := by
    conv => lhs; rw [e1]
    rfl
  rw [this]
def rem (V : PV) (w kz ky kx : Nat) : Nat := ((eL V 0).length - kx) + 10 * (((eL V 1).length - 1 - ky) + 10 * (((eL V 2).length - 1 - kz) + 10 * (5 - w)))
/-- the reference's next trial, with the pure search's -/
theorem r_next (N : Nat) (hN : 9 ≤ N) {c : CT} {V : PV} {i p : Nat} (hi : i < 6) (hp : p < 6) (hm : xM c p ≤ 3) (hs : s38 (xS c p)) {τ : St} (h : AH τ i p (xM c p) (xS c p)) (hL : LV τ i V) {w kz ky kx : Nat} (hP : Pos τ i w kz ky kx) (hw : w < 6) (hx : kx ≤ (eL V 0).length) (hy : ky < (eL V 1).length) (hz : kz < (eL V 2).length) :
    (∃ w2 kz2 ky2 k2 υ, f_X4_advance N (nI i) τ = some (1, υ) ∧ Pos υ i w2 kz2 ky2 (k2 + 1) ∧ FA i τ υ ∧ w2 < 6 ∧ k2 < (eL V 0).length ∧ ky2 < (eL V 1).length ∧ kz2 < (eL V 2).length ∧ rem V w2 kz2 ky2 (k2 + 1) < rem V w kz ky kx ∧ ∀ rec A, Fp c rec V p w kz ky kx A = Fp c rec V p w2 kz2 ky2 k2 A) ∨
    (∃ υ, f_X4_advance N (nI i) τ = some (0, υ) ∧ FA i τ υ ∧ ∀ rec A, Fp c rec V p w kz ky kx A = A) := by
  have L0 := hL 0 (by decide)
  have L1 := hL 1 (by decide)
  have L2 := hL 2 (by decide)
  have z0 := eL_0 V 0
  have z1 := eL_0 V 1
  have z2 := eL_0 V 2
  have l0 : τ 49 i = nI (eL V 0).length := by have := L0.1.1; rwa [show 7 * 0 + i = i by omega] at this
  have l1 : τ 49 (7 + i) = nI (eL V 1).length := L1.1.1
  have l2 : τ 49 (14 + i) = nI (eL V 2).length := L2.1.1
  have := r_advance N hN hi hp hm hs h hP l0 l1 l2 hw hx hy hz (by omega) (by omega) (by omega)
  unfold ADV at this
  unfold rem
  rcases this with ⟨c1, υ, g1, g2, g3⟩ | ⟨c1, c2, υ, g1, g2, g3⟩ | ⟨c1, c2, c3, υ, g1, g2, g3⟩ | ⟨c1, c2, c3, w', υ, d1, d2, d3, d4, g1, g2, g3⟩ | ⟨c1, c2, c3, d1, υ, g1, g2⟩
  · exact Or.inl ⟨w, kz, ky, kx, υ, g1, g2, g3, hw, c1, hy, hz, by omega, fun _ _ => rfl⟩
  · exact Or.inl ⟨w, kz, ky + 1, 0, υ, g1, g2, g3, hw, z0, c2, hz, by omega, fun rec A => Fp_y c1 c2 A⟩
  · exact Or.inl ⟨w, kz + 1, 0, 0, υ, g1, g2, g3, hw, z0, z1, c3, by omega, fun rec A => Fp_z c1 c2 c3 A⟩
  · exact Or.inl ⟨w', 0, 0, 0, υ, g1, g2, g3, d2, z0, z1, z2, by omega, fun rec A => Fp_w c1 c2 c3 d1 d2 d3 d4 A⟩
  · exact Or.inr ⟨υ, g1, g2, fun rec A => Fp_end c1 c2 c3 hw d1 A⟩
/-- a level is ready -/
def RDY (τ : St) (i : Nat) (V : PV) (ps : List Nat) : Prop := τ 50 i = 0 ∧ (ps ≠ [] → LV τ i V ∧ Pos τ i 0 0 0 0)
/-- from level i, ready, the search comes back to the level before, or ends -/
def SS (N : Nat) (c : CT) (i : Nat) (V : PV) (ps : List Nat) : Prop := ∀ A τ, GA c A → A.2.2.2 = false → RK c τ → RV τ V → RA τ A → RDY τ i V ps → ∃ υ u, u + 12 * A.1 ≤ 12 * (srch c ps V A).1 + (2 * ps.length + 1) ∧ LF i τ υ ∧ RA υ (srch c ps V A) ∧
  ((srch c ps V A).2.2.2 = false → RV υ V ∧ ∀ f, lp_X4_search_21 N (nI (xLim c)) (f + u) (nI (xLim c)) (nI i) τ = lp_X4_search_21 N (nI (xLim c)) f (nI (xLim c)) (nI i + (-1)) υ) ∧
  ((srch c ps V A).2.2.2 = true → ∀ f, lp_X4_search_21 N (nI (xLim c)) (f + u) (nI (xLim c)) (nI i) τ = some (0, υ))
theorem r_dpr (N : Nat) (hN : 9 ≤ N) {c : CT} (hc : CTok c) {pre ps : List Nat} {p : Nat} (hO : xO c = pre ++ p :: ps) (hlen : (xO c).length ≤ 6) {V : PV} (hg : VG c V) {τ : St} (hk : RK c τ) (hV : RV τ V) : ∃ υ, (∀ f, dpr N (nI (xLim c)) f pre.length τ = lp_X4_search_21 N (nI (xLim c)) f (nI (xLim c)) (nI (pre.length + 1)) υ) ∧ LF (pre.length + 1) τ υ ∧ RV υ V ∧ RDY υ (pre.length + 1) V ps ∧ ∀ q g, 25 ≤ q → q ≤ 43 → υ q g = τ q g := by
  have hl : (xO c).length = pre.length + (ps.length + 1) := by rw [hO, List.length_append, List.length_cons]
  have hne : ∀ q g, ¬ (q = 50 ∧ g = pre.length + 1) → su τ 50 (pre.length + 1) 0 q g = τ q g := fun q g e => su_ne τ _ e
  have h28 : (su τ 50 (pre.length + 1) 0) 25 28 = nI (xO c).length := (hne _ _ (by omega)).trans hk.2.2.2.2.1
  have hLF : LF (pre.length + 1) τ (su τ 50 (pre.length + 1) 0) := fun q g _ _ _ _ _ h6 => hne q g (by omega)
  have hV1 : RV (su τ 50 (pre.length + 1) 0) V := hV.fe (i := 0) fun q g _ _ => hne q g (by omega)
  cases ps with
  | nil =>
    refine ⟨_, fun f => ?_, hLF, hV1, ⟨su_same _ _ _ _, fun e => absurd rfl e⟩, fun q g _ _ => hne q g (by omega)⟩
    unfold dpr
    rw [if_pos]
    rw [h28, hl, q_le (by rw [List.length_nil]; rw [List.length_nil] at hl; omega) (by omega)]
    rw [List.length_nil]; omega
  | cons q ps =>
    rw [List.length_cons] at hl
    obtain ⟨υ, u1, u2, u3, u4, u5, u6, u7⟩ := r_enter N hN (i := pre.length + 1) (by omega) hg.1 hg.2.2.1 (fun a ha => fit_ends hc hg ha) (τ := su τ 50 (pre.length + 1) 0) ⟨(hne _ _ (by omega)).trans hk.1.1, hk.1.2⟩ hV1
    refine ⟨υ, fun f => ?_, hLF.tr u7.lf, hV1.fe (i := 0) fun q g _ _ => u7 q g (by omega) (by omega) (by omega), ⟨(u7 _ _ (by omega) (by omega) (by omega)).trans (su_same _ _ _ _), fun _ => ⟨u2, u3, u4, u5, u6⟩⟩, fun q g _ _ => (u7 q g (by omega) (by omega) (by omega)).trans (hne q g (by omega))⟩
    unfold dpr
    rw [if_neg, u1]
    · rfl
    · rw [h28, q_le (by omega) (by omega)]; omega
