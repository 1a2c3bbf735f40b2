/-! layer 2: close -/
theorem c_close27 (N : Nat) {V : PV} (hs : SZ V) {n cl : Nat} (hn : n ≤ 6) : ∀ r k f σ, CV σ 0 V → σ 0 4 = nI n → k + r = n → r < f → ∃ τ, lp_X3_close_27 N f (nI cl) (nI k) σ = (bv (f_X1_clear N 0 τ) fun τ_1 => some (.inl (nI cl, (su τ_1 0 7 ((τ_1 0 7) + 1))))) ∧ (∀ i, k ≤ i → i < n → τ (5 + i) 7 = if V i 0 = 1 then nI cl else σ (5 + i) 7) ∧ ∀ q g, ¬ (5 + k ≤ q ∧ q < 5 + n ∧ g = 7) → τ q g = σ q g := by
  intro r
  induction r with
  | zero =>
    intro k f σ hV h4 hk hf
    obtain ⟨f, rfl, -⟩ := fuel1 hf
    refine ⟨σ, ?_, fun i h1 h2 => by omega, fun _ _ _ => rfl⟩
    simp (disch := omega) only [lp_X3_close_27, h4, q_le, show n ≤ k by omega, ↓reduceIte]
  | succ r ih =>
    intro k f σ hV h4 hk hf
    obtain ⟨f, rfl, hf⟩ := fuel1 hf
    have hk6 : k < 6 := by omega
    simp (disch := omega) only [lp_X3_close_27, h4, q_le, show ¬ n ≤ k by omega, ↓reduceIte, nI_1, qiT hk6, qix hk6, (hV k hk6).1, q_pl0 (hs k hk6).1]
    by_cases e : V k 0 = 0
    · rw [if_pos e]
      obtain ⟨τ, t1, t2, t3⟩ := ih (k + 1) f σ hV h4 (by omega) (by omega)
      refine ⟨τ, t1, fun i h1 h2 => ?_, fun q g h => t3 q g (by omega)⟩
      by_cases e2 : i = k
      · subst e2; rw [if_neg (by omega)]; exact t3 _ _ (by omega)
      · exact t2 i (by omega) h2
    · rw [if_neg e]
      have hne : ∀ q g, ¬ (q = 5 + k ∧ g = 7) → su σ (5 + k) 7 (nI cl) q g = σ q g := fun q g h => su_ne σ _ h
      obtain ⟨τ, t1, t2, t3⟩ := ih (k + 1) f (su σ (5 + k) 7 (nI cl)) (hV.fr fun q g _ _ _ => hne q g (by omega)) ((hne _ _ (by omega)).trans h4) (by omega) (by omega)
      refine ⟨τ, t1, fun i h1 h2 => ?_, fun q g h => (t3 q g (by omega)).trans (hne q g (by omega))⟩
      by_cases e2 : i = k
      · subst e2; rw [if_pos (by have := (hs i hk6).1; omega), t3 _ _ (by omega), su_same]
      · rw [t2 i (by omega) h2, hne _ _ (by omega)]
theorem r_close61 (N : Nat) {V : PV} (hs : SZ V) {n cl : Nat} (v1 : Int32) : ∀ r k f τ, RN τ n → (∀ i, k ≤ i → i < n → (τ 32 i < 0) = (V i 0 = 0)) → τ 25 12 = nI cl → k + r = n → r < f → ∃ υ, lp_X4_close_61 N f v1 (nI k) τ = some (nI cl, υ) ∧ υ 25 12 = nI (cl + 1) ∧ (∀ i, k ≤ i → i < n → υ 32 i = -1 ∧ υ 31 i = if V i 0 = 1 then nI cl else τ 31 i) ∧ ∀ q g, ¬ (q = 25 ∧ g = 12) → ¬ ((q = 31 ∨ q = 32) ∧ k ≤ g ∧ g < n) → υ q g = τ q g := by
  intro r
  induction r with
  | zero =>
    intro k f τ hn6 hV h12 hk hf
    obtain ⟨f, rfl, -⟩ := fuel1 hf
    have hn := hn6.2
    refine ⟨su τ 25 12 (nI (cl + 1)), ?_, su_same _ _ _ _, fun i h1 h2 => by omega, fun q g h1 _ => su_ne _ _ h1⟩
    simp only [lp_X4_close_61, qnT hn6 (show n ≤ k by omega) (by omega), ↓reduceIte, h12, nI_1, su_same]
    rw [nI_pred]
  | succ r ih =>
    intro k f τ hn6 hV h12 hk hf
    obtain ⟨f, rfl, hf⟩ := fuel1 hf
    have hn := hn6.2
    have hk6 : k < 6 := by omega
    simp only [lp_X4_close_61, qnF hn6 (show k < n by omega), qiT hk6, qix hk6, nI_1, ↓reduceIte, hV k (Nat.le_refl k) (show k < n by omega), h12]
    by_cases e : V k 0 = 0
    · rw [if_pos e]
      have hne : ∀ q g, ¬ (q = 32 ∧ g = k) → su τ 32 k (-1) q g = τ q g := fun q g h => su_ne τ _ h
      obtain ⟨υ, u1, u2, u3, u4⟩ := ih (k + 1) f (su τ 32 k (-1)) ⟨(hne _ _ (by omega)).trans hn6.1, hn⟩ (fun i h1 h2 => by rw [hne _ _ (by omega)]; exact hV i (by omega) h2) ((hne _ _ (by omega)).trans h12) (by omega) (by omega)
      refine ⟨υ, u1, u2, fun i h1 h2 => ?_, fun q g h1 h2 => (u4 q g h1 (by omega)).trans (hne q g (by omega))⟩
      by_cases e2 : i = k
      · subst e2
        rw [if_neg (by omega), u4 _ _ (by omega) (by omega), u4 _ _ (by omega) (by omega), su_same, hne _ _ (by omega)]; exact ⟨rfl, rfl⟩
      · have := u3 i (by omega) h2
        rw [hne _ _ (by omega)] at this; exact this
    · rw [if_neg e]
      have hne : ∀ q g, ¬ ((q = 31 ∨ q = 32) ∧ g = k) → su (su τ 31 k (nI cl)) 32 k (-1) q g = τ q g := fun q g h => by rw [su_ne _ _ (by omega), su_ne _ _ (by omega)]
      obtain ⟨υ, u1, u2, u3, u4⟩ := ih (k + 1) f (su (su τ 31 k (nI cl)) 32 k (-1)) ⟨(hne _ _ (by omega)).trans hn6.1, hn⟩ (fun i h1 h2 => by rw [hne _ _ (by omega)]; exact hV i (by omega) h2) ((hne _ _ (by omega)).trans h12) (by omega) (by omega)
      refine ⟨υ, u1, u2, fun i h1 h2 => ?_, fun q g h1 h2 => (u4 q g h1 (by omega)).trans (hne q g (by omega))⟩
      by_cases e2 : i = k
      · subst e2
        rw [if_pos (by have := (hs i hk6).1; omega), u4 _ _ (by omega) (by omega), u4 _ _ (by omega) (by omega), su_same, su_ne _ _ (by omega), su_same]; exact ⟨rfl, rfl⟩
      · have := u3 i (by omega) h2
        rw [hne _ _ (by omega)] at this; exact this
theorem r_close4 (N : Nat) {V : PV} (hs : SZ V) {n : Nat} {τ : St} (hn6 : RN τ n) (hV : RV τ V) : ∀ r k f b, k + r = n → r < f → lp_X4_close_4 N f (bI b) (nI k) τ = (if (b || be (fun i => V i 0 == 1) r k) = true then lp_X4_close_61 N N 1 0 (su τ 25 0 0) else some (0, su τ 25 0 1)) := by
  have hn := hn6.2
  intro r
  induction r with
  | zero =>
    intro k f b hk hf
    obtain ⟨f, rfl, -⟩ := fuel1 hf
    simp only [lp_X4_close_4, qnT hn6 (show n ≤ k by omega) (by omega), ↓reduceIte, bI_0, su_same, be, Bool.or_false]
    cases b
    · rw [if_pos rfl, if_neg (by decide)]; rfl
    · rw [if_neg (by decide)]; rfl
  | succ r ih =>
    intro k f b hk hf
    obtain ⟨f, rfl, hf⟩ := fuel1 hf
    have hk6 : k < 6 := by omega
    have i0 := ih (k + 1) f false (by omega) (by omega)
    have i1 := ih (k + 1) f true (by omega) (by omega)
    rw [show bI false = 0 from rfl] at i0
    rw [show bI true = 1 from rfl] at i1
    simp only [lp_X4_close_4, qnF hn6 (show k < n by omega), qiT hk6, qix hk6, nI_1, ↓reduceIte, r_way hV hs hk6, bI_0, i0, i1]
    have hb : be (fun i => V i 0 == 1) (r + 1) k = ((V k 0 == 1) || be (fun i => V i 0 == 1) r (k + 1)) := rfl
    rw [hb]
    cases b
    · rw [if_pos rfl]
      by_cases e : V k 0 = 0
      · rw [if_pos e, show (V k 0 == 1) = false by simp [e]]; rfl
      · have g : V k 0 = 1 := by have := (hs k hk6).1; omega
        rw [if_neg e, show (V k 0 == 1) = true by simp [g]]; rfl
    · rw [if_neg (by decide)]; rfl
theorem m_close (N : Nat) (hN : 9 ≤ N) {k : Nat} (hk1 : k < 100000) {σ : St} (h : Good k σ) : MO N (f_L_close N) (f_X4_close N) k σ := by
  have h' := h
  obtain ⟨c, rk, pk, cl, sd, al, V, hA, hC, hR, hk⟩ := h'
  have hn := hR.1.2
  have hs := hA.2.2.2.1
  have hV := hC.2.2.2.2.2.2.2.2.1
  have hnp := hA.2.2.2.2.2
  have hsz : up (fun j => V j 0) 6 0 ≤ 6 * 1 := up_bound 6 0 fun j _ hj => (hs j (by omega)).1
  have c4 := fun (τ : St) (hn6 : RN τ (xN c)) (hRV : RV τ V) => r_close4 N hs hn6 hRV (xN c) 0 N false (by omega) (by omega)
  by_cases hany : be (fun i => V i 0 == 1) (xN c) 0 = true
  · obtain ⟨j0, -, j1, j2⟩ := (be_iff _ _ _).mp hany
    have hpos : up (fun j => V j 0) 6 0 ≠ 0 := fun e => by
      have hsp := up_split (fun j => V j 0) j0 (6 - j0) 0
      rw [show j0 + (6 - j0) = 6 by omega, show 6 - j0 = (5 - j0) + 1 by omega] at hsp
      have : up (fun j => V j 0) (5 - j0 + 1) (0 + j0) = V (0 + j0) 0 + up (fun j => V j 0) (5 - j0) (0 + j0 + 1) := rfl
      rw [this, Nat.zero_add] at hsp
      have : V j0 0 = 1 := by simpa using j2
      omega
    obtain ⟨τ, t1, t2, t3⟩ := c_close27 N hs (n := xN c) (cl := cl) hn (xN c) 0 N σ hV hC.1 (by omega) (by omega)
    obtain ⟨υ, u1, u2, u3⟩ := c_clear N 0 (by omega) τ
    have hυ : ∀ q g, ¬ (5 ≤ q ∧ q < 5 + xN c ∧ g = 7) → ¬ (g = 0 ∧ 13 ≤ q ∧ q < 19) → υ q g = σ q g := fun q g e1 e2 => (u3 q g (by omega)).trans (t3 q g (by omega))
    have h7 : υ 0 7 + 1 = nI (cl + 1) := by rw [hυ _ _ (by omega) (by omega), hC.2.2.1, nI_1]
    have hcl : f_L_close N σ = some (0, su (su υ 0 7 (nI (cl + 1))) 51 0 (nI cl)) := by
      unfold f_L_close f_X3_close
      rw [c_size N 0 (by omega) hV hs, bn_some, if_neg (by show ¬ nI _ = nI 0; rw [q_eq (by omega) (by decide)]; exact hpos), hC.2.2.1]
      have t1' : lp_X3_close_27 N N (nI cl) 0 σ = _ := t1
      rw [t1', u1, bv_some, h7]; rfl
    generalize hτ1 : su (su υ 0 7 (nI (cl + 1))) 51 0 (nI cl) = τ1 at hcl
    have f51 : τ1 51 0 = nI cl := by rw [← hτ1, su_same]
    have f7 : τ1 0 7 = nI (cl + 1) := by rw [← hτ1, su_ne _ _ (by omega), su_same]
    have fpk : ∀ i, i < xN c → τ1 (5 + i) 7 = if V i 0 = 1 then nI cl else σ (5 + i) 7 := fun i hi => by
      rw [← hτ1, su_ne _ _ (by omega), su_ne _ _ (by omega), u3 _ _ (by omega)]; exact t2 i (by omega) hi
    have fun0 : ∀ i, i < 6 → τ1 (13 + 6 * 0 + i) 0 = 0 := fun i hi => by
      rw [← hτ1, su_ne _ _ (by omega), su_ne _ _ (by omega)]; exact u2 i hi
    have fn : ∀ q g, ¬ (5 ≤ q ∧ q < 5 + xN c ∧ g = 7) → ¬ (g = 0 ∧ 13 ≤ q ∧ q < 19) → ¬ (q = 0 ∧ g = 7) → q ≠ 51 → τ1 q g = σ q g := fun q g e1 e2 e3 e4 => by
      rw [← hτ1, su_ne _ _ (by omega), su_ne _ _ (by omega)]; exact hυ q g e1 e2
    have hR1 : RI c rk pk cl sd al V τ1 := hR.fr fun q g e1 e2 _ _ => fn q g (by omega) (by omega) (by omega) (by omega)
    have hR2 := hR1.s25 (v := 0)
    obtain ⟨φ, v1, v2, v3, v4⟩ := r_close61 N hs (n := xN c) (cl := cl) 1 (xN c) 0 N (su τ1 25 0 0) hR2.1 (fun i _ hi => r_way hR2.2.2.2.2.2.2.2 hs (by omega)) hR2.2.2.2.1 (by omega) (by omega)
    have hre : f_X4_close N τ1 = some (nI cl, φ) := by
      refine (c4 τ1 hR1.1 hR1.2.2.2.2.2.2.2).trans ?_
      rw [if_pos (by rw [hany]; rfl)]; exact v1
    have vn : ∀ q g, ¬ (q = 25 ∧ (g = 0 ∨ g = 12)) → ¬ ((q = 31 ∨ q = 32) ∧ g < xN c) → φ q g = τ1 q g := fun q g e1 e2 => by rw [v4 q g (by omega) (by omega), su_ne _ _ (by omega)]
    refine ⟨0, τ1, nI cl, φ, hcl, hre, ?_, fun _ => ?_, c, rk, (fun i => if V i 0 = 1 then nI cl else pk i), cl + 1, sd, al, (fun _ _ => 0), ?_, ?_, ?_, by omega⟩
    · rw [v4 _ _ (by omega) (by omega), su_same]
    · rw [vn _ _ (by omega) (by omega)]; exact f51
    · refine ⟨hA.1, fun i hi => ?_, fun i => ⟨(hA.2.2.1 i).1, ?_⟩, fun i _ => ⟨Nat.zero_le 1, fun e => by cases e⟩, (fun i _ e => by cases e), fun i _ => rfl⟩
      · have := hA.2.1 i hi
        refine ⟨this.1, this.2.1, ?_, this.2.2.2⟩
        show (if V i 0 = 1 then nI cl else pk i) = -1
        rw [if_neg (by rw [hnp i hi]; decide)]; exact this.2.2.1
      · show (if V i 0 = 1 then nI cl else pk i) = -1 ∨ 0 ≤ (if V i 0 = 1 then nI cl else pk i)
        by_cases e : V i 0 = 1
        · rw [if_pos e]; exact Or.inr (nI_pos' (by omega))
        · rw [if_neg e]; exact (hA.2.2.1 i).2
    · have kk : ∀ q g, q < 25 → ¬ (5 ≤ q ∧ q < 5 + xN c ∧ g = 7) → ¬ (g = 0 ∧ 13 ≤ q ∧ q < 19) → ¬ (q = 0 ∧ g = 7) → φ q g = σ q g := fun q g e1 e2 e3 e4 => (vn q g (by omega) (by omega)).trans (fn q g e2 e3 e4 (by omega))
      have kt : ∀ q g, q < 25 → φ q g = τ1 q g := fun q g e => vn q g (by omega) (by omega)
      obtain ⟨h1, h2, h3, h4, h5, ⟨b0, b1, b2, b3⟩, ⟨d0, d1, d2, d3⟩, h8, h9, h10, h11⟩ := hC
      refine ⟨(kk _ _ (by omega) (by omega) (by omega) (by omega)).trans h1, (kk _ _ (by omega) (by omega) (by omega) (by omega)).trans h2, (kt _ _ (by omega)).trans f7, (kk _ _ (by omega) (by omega) (by omega) (by omega)).trans h4, (kk _ _ (by omega) (by omega) (by omega) (by omega)).trans h5, ⟨(kk _ _ (by omega) (by omega) (by omega) (by omega)).trans b0, (kk _ _ (by omega) (by omega) (by omega) (by omega)).trans b1, (kk _ _ (by omega) (by omega) (by omega) (by omega)).trans b2, b3⟩, ⟨(kk _ _ (by omega) (by omega) (by omega) (by omega)).trans d0, (kk _ _ (by omega) (by omega) (by omega) (by omega)).trans d1, (kk _ _ (by omega) (by omega) (by omega) (by omega)).trans d2, d3⟩, fun i hi => ?_, fun i hi => ⟨(kt _ _ (by omega)).trans (fun0 i hi), fun e => by cases e⟩, (fun i _ e => by cases e), fun i hi => (kk _ _ (by omega) (by omega) (by omega) (by omega)).trans (h11 i hi)⟩
      obtain ⟨g1, g2, ⟨m, g3, g4, g5⟩, g6, g7⟩ := h8 i hi
      have ki : ∀ f, f ≠ 7 → φ (5 + i) f = σ (5 + i) f := fun f e => kk _ _ (by omega) (by omega) (by omega) (by omega)
      refine ⟨fun hh => ?_, (ki _ (by decide)).trans g2, ⟨m, g3, (ki _ (by decide)).trans g4, g5⟩, (ki _ (by decide)).trans g6, ?_⟩
      · obtain ⟨⟨s0, s1, s2⟩, w1⟩ := g1 hh
        exact ⟨⟨(ki _ (by decide)).trans s0, (ki _ (by decide)).trans s1, (ki _ (by decide)).trans s2⟩, (ki _ (by decide)).trans w1⟩
      · by_cases hi2 : i < xN c
        · rw [kt _ _ (by omega), fpk i hi2, g7]
        · show _ = if V i 0 = 1 then nI cl else pk i
          rw [if_neg (by rw [hnp i (by omega)]; decide), kk _ _ (by omega) (by omega) (by omega) (by omega)]; exact g7
    · obtain ⟨⟨h1, h1'⟩, ⟨b0, b1, b2, b3⟩, h3, h4, h5, h6, h7, h8⟩ := hR1
      have k25 : ∀ f, f ≠ 0 → f ≠ 12 → φ 25 f = τ1 25 f := fun f _ _ => vn _ _ (by omega) (by omega)
      refine ⟨⟨(k25 _ (by decide) (by decide)).trans h1, h1'⟩, ⟨(k25 _ (by decide) (by decide)).trans b0, (k25 _ (by decide) (by decide)).trans b1, (k25 _ (by decide) (by decide)).trans b2, b3⟩, (k25 _ (by decide) (by decide)).trans h3, v2, (k25 _ (by decide) (by decide)).trans h5, (k25 _ (by decide) (by decide)).trans h6, fun i hi => ?_, fun i hi => ⟨fun _ => ?_, fun e => by cases e⟩⟩
      · obtain ⟨g1, g2, g3⟩ := h7 i hi
        have kr : ∀ q f, 26 ≤ q → q ≤ 30 → φ q f = τ1 q f := fun q f _ _ => vn q f (by omega) (by omega)
        refine ⟨fun hh => ?_, (kr _ _ (by omega) (by omega)).trans g2, (kr _ _ (by omega) (by omega)).trans g3⟩
        obtain ⟨⟨s0, s1, s2⟩, q1, q2, q3⟩ := g1 hh
        refine ⟨⟨(kr _ _ (by omega) (by omega)).trans s0, (kr _ _ (by omega) (by omega)).trans s1, (kr _ _ (by omega) (by omega)).trans s2⟩, (kr _ _ (by omega) (by omega)).trans q1, (kr _ _ (by omega) (by omega)).trans q2, ?_⟩
        rw [(v3 i (by omega) hh).2, su_ne _ _ (by omega), q3]
      · by_cases hi2 : i < xN c
        · exact (v3 i (by omega) hi2).1
        · rw [vn _ _ (by omega) (by omega)]
          exact (h8 i hi).1 (hnp i (by omega))
  · have hall : ∀ j, j < 6 → V j 0 = 0 := fun j hj => by
      refine Classical.byContradiction fun e => hany ((be_iff _ _ _).mpr ⟨j, by omega, ?_, ?_⟩)
      · refine Nat.lt_of_not_le fun hh => e (hnp j (by omega))
      · have := (hs j hj).1
        show (V j 0 == 1) = true
        rw [show V j 0 = 1 by omega]; rfl
    refine ⟨1, σ, 0, su σ 25 0 1, ?_, ?_, su_same _ _ _ _, fun e => absurd e (by decide), su25 h _⟩
    · unfold f_L_close f_X3_close
      rw [c_size N 0 (by omega) hV hs, bn_some, up_zero 6 0 (fun j _ hj => hall j (by omega)), if_pos (show nI 0 = (0 : Int32) from rfl)]; rfl
    · refine (c4 σ hR.1 hR.2.2.2.2.2.2.2).trans ?_
      rw [if_neg (by rw [Bool.false_or]; exact hany)]
