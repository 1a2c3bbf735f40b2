/-! layer 2: the class's search, the loops of places and ways -/
theorem eM_lt {c : CT} (hc : CTok c) {V : PV} (hg : VG c V) {x : Nat} (hx : x < 3) : eM V x < 512 := mk6_lt (w := 9) 6 0 1 (by decide) (fun i _ hi hp => fit_ends hc hg hx i (by omega) (by simpa using hp))
set_option maxHeartbeats 1000000 in
theorem c_56 (N : Nat) (hN : 11 ≤ N) {c : CT} (hc : CTok c) {V : PV} (hg : VG c V) {p : Nat} (hp : p < xN c) (hp0 : V p 0 = 0) {w z d : Nat} (hw : w < 6) (hz : z < 9) (rec : Int32 → St → Option St) (recA : PV → AC → AC)
    (hrec : ∀ x y, x < 9 → y < 9 → RC c (rec (nI (d + 1))) recA (put V (xS c p) p w x y z)) {my : Nat} (hmy : my < 512) (a1 a4 v7 : Int32) (k33 : Int32 → Int32 → Int32 → Int32 → Int32 → Int32 → St → Option St) :
    ∀ r k f A σ, k + r = 9 → r < f → GA c A → A.2.2.2 = false → Sim c V A σ → ∃ τ, FC σ τ ∧ Sim c V (fy c recA V p w z (elf (tb my) r k) A) τ ∧ GA c (fy c recA V p w z (elf (tb my) r k) A) ∧
      lp_X3_tryWay_56 N rec a1 (5 + p) (13 + 6 * 1 + p) a4 k33 f (nI d) (nI w) (nI (eM V 0)) (nI my) v7 (nI z) (nI k) σ = if (fy c recA V p w z (elf (tb my) r k) A).2.2.2 = true then some τ else k33 (nI d) (nI w) (nI (eM V 0)) (nI my) v7 (nI (z + 1)) τ := by
  intro r
  induction r with
  | zero =>
    intro k f A σ hk hf hA hcut h
    obtain ⟨f, rfl, -⟩ := fuel1 hf
    refine ⟨σ, FC.rf _, h, hA, ?_⟩
    simp only [lp_X3_tryWay_56, q8T (show 9 ≤ k by omega) (by omega), ↓reduceIte, nI_1]
    rw [if_neg (by show ¬ A.2.2.2 = true; rw [hcut]; decide)]
  | succ r ih =>
    intro k f A σ hk hf hA hcut h
    obtain ⟨f, rfl, hf⟩ := fuel1 hf
    have hk9 : k < 9 := by omega
    simp (disch := omega) only [lp_X3_tryWay_56, q8F hk9, ↓reduceIte, nI_1, c_isIn N σ hmy hk9, bn_some, bI_0]
    by_cases h1 : tb my k = false
    · rw [if_pos h1, elf_f h1]
      exact ih (k + 1) f A σ (by omega) (by omega) hA hcut h
    · rw [if_neg h1, elf_t (Bool.of_not_eq_false h1)]
      have hfy : fy c recA V p w z (k :: elf (tb my) r (k + 1)) A = fy c recA V p w z (elf (tb my) r (k + 1)) (fx c recA V p w k z (eL V 0) A) := rfl
      rw [hfy]
      obtain ⟨τ, t1, t2, t3, t4⟩ := c_79 N (by omega) hc hg hp hp0 hw hk9 hz rec recA (fun x hx => hrec x k hx hk9) (eM_lt hc hg (x := 0) (by decide)) a1 a4 (nI my) v7 (fun w1 w4 w5 w6 w7 w8 σ => k33 w1 w4 w5 w6 w7 w8 σ) (fun w1 w4 w5 w6 w7 w8 w9 σ => lp_X3_tryWay_56 N rec a1 (5 + p) (13 + 6 * 1 + p) a4 k33 f w1 w4 w5 w6 w7 w8 w9 σ) 9 0 N A σ rfl (by omega) hA hcut h
      have t2' : Sim c V (fx c recA V p w k z (eL V 0) A) τ := t2
      have t3' : GA c (fx c recA V p w k z (eL V 0) A) := t3
      have t4' : lp_X3_tryWay_79 N rec a1 (5 + p) (13 + 6 * 1 + p) a4 (fun w1 w4 w5 w6 w7 w8 σ => k33 w1 w4 w5 w6 w7 w8 σ) (fun w1 w4 w5 w6 w7 w8 w9 σ => lp_X3_tryWay_56 N rec a1 (5 + p) (13 + 6 * 1 + p) a4 k33 f w1 w4 w5 w6 w7 w8 w9 σ) N (nI d) (nI w) (nI (eM V 0)) (nI my) v7 (nI z) (nI k) 0 σ = if (fx c recA V p w k z (eL V 0) A).2.2.2 = true then some τ else lp_X3_tryWay_56 N rec a1 (5 + p) (13 + 6 * 1 + p) a4 k33 f (nI d) (nI w) (nI (eM V 0)) (nI my) v7 (nI z) (nI (k + 1)) τ := t4
      rw [t4']
      by_cases h2 : (fx c recA V p w k z (eL V 0) A).2.2.2 = true
      · rw [if_pos h2, fy_cut h2]
        exact ⟨τ, t1, t2', t3', by rw [if_pos h2]⟩
      · rw [if_neg h2]
        obtain ⟨υ, v1, v2, v3, v4⟩ := ih (k + 1) f _ τ (by omega) (by omega) t3' (Bool.eq_false_iff.mpr h2) t2'
        exact ⟨υ, t1.tr v1, v2, v3, v4⟩
set_option maxHeartbeats 1000000 in
theorem c_33 (N : Nat) (hN : 11 ≤ N) {c : CT} (hc : CTok c) {V : PV} (hg : VG c V) {p : Nat} (hp : p < xN c) (hp0 : V p 0 = 0) {w d : Nat} (hw : w < 6) (rec : Int32 → St → Option St) (recA : PV → AC → AC)
    (hrec : ∀ x y z, x < 9 → y < 9 → z < 9 → RC c (rec (nI (d + 1))) recA (put V (xS c p) p w x y z)) {mz : Nat} (hmz : mz < 512) (a1 a4 : Int32) :
    ∀ r k f A σ, k + r = 9 → r < f → GA c A → A.2.2.2 = false → Sim c V A σ → ∃ τ, FC σ τ ∧ Sim c V (fz c recA V p w (elf (tb mz) r k) A) τ ∧ GA c (fz c recA V p w (elf (tb mz) r k) A) ∧
      lp_X3_tryWay_33 N rec a1 (5 + p) (13 + 6 * 1 + p) a4 f (nI d) (nI w) (nI (eM V 0)) (nI (eM V 1)) (nI mz) (nI k) σ = some τ := by
  intro r
  induction r with
  | zero =>
    intro k f A σ hk hf hA hcut h
    obtain ⟨f, rfl, -⟩ := fuel1 hf
    refine ⟨σ, FC.rf _, h, hA, ?_⟩
    simp only [lp_X3_tryWay_33, q8T (show 9 ≤ k by omega) (by omega), ↓reduceIte]
  | succ r ih =>
    intro k f A σ hk hf hA hcut h
    obtain ⟨f, rfl, hf⟩ := fuel1 hf
    have hk9 : k < 9 := by omega
    simp (disch := omega) only [lp_X3_tryWay_33, q8F hk9, ↓reduceIte, nI_1, c_isIn N σ hmz hk9, bn_some, bI_0]
    by_cases h1 : tb mz k = false
    · rw [if_pos h1, elf_f h1]
      exact ih (k + 1) f A σ (by omega) (by omega) hA hcut h
    · rw [if_neg h1, elf_t (Bool.of_not_eq_false h1)]
      have hfz : fz c recA V p w (k :: elf (tb mz) r (k + 1)) A = fz c recA V p w (elf (tb mz) r (k + 1)) (fy c recA V p w k (eL V 1) A) := rfl
      rw [hfz]
      obtain ⟨τ, t1, t2, t3, t4⟩ := c_56 N hN hc hg hp hp0 hw hk9 rec recA (fun x y hx hy => hrec x y k hx hy hk9) (eM_lt hc hg (x := 1) (by decide)) a1 a4 (nI mz) (fun w1 w4 w5 w6 w7 w8 σ => lp_X3_tryWay_33 N rec a1 (5 + p) (13 + 6 * 1 + p) a4 f w1 w4 w5 w6 w7 w8 σ) 9 0 N A σ rfl (by omega) hA hcut h
      have t2' : Sim c V (fy c recA V p w k (eL V 1) A) τ := t2
      have t3' : GA c (fy c recA V p w k (eL V 1) A) := t3
      have t4' : lp_X3_tryWay_56 N rec a1 (5 + p) (13 + 6 * 1 + p) a4 (fun w1 w4 w5 w6 w7 w8 σ => lp_X3_tryWay_33 N rec a1 (5 + p) (13 + 6 * 1 + p) a4 f w1 w4 w5 w6 w7 w8 σ) N (nI d) (nI w) (nI (eM V 0)) (nI (eM V 1)) (nI mz) (nI k) 0 σ = if (fy c recA V p w k (eL V 1) A).2.2.2 = true then some τ else lp_X3_tryWay_33 N rec a1 (5 + p) (13 + 6 * 1 + p) a4 f (nI d) (nI w) (nI (eM V 0)) (nI (eM V 1)) (nI mz) (nI (k + 1)) τ := t4
      rw [t4']
      by_cases h2 : (fy c recA V p w k (eL V 1) A).2.2.2 = true
      · rw [if_pos h2, fz_cut h2]
        exact ⟨τ, t1, t2', t3', rfl⟩
      · rw [if_neg h2]
        obtain ⟨υ, v1, v2, v3, v4⟩ := ih (k + 1) f _ τ (by omega) (by omega) t3' (Bool.eq_false_iff.mpr h2) t2'
        exact ⟨υ, t1.tr v1, v2, v3, v4⟩
theorem c_tryWay (N : Nat) (hN : 11 ≤ N) {c : CT} (hc : CTok c) {V : PV} (hg : VG c V) {p : Nat} (hp : p < xN c) (hp0 : V p 0 = 0) {w d : Nat} (hw : w < 6) (rec : Int32 → St → Option St) (recA : PV → AC → AC)
    (hrec : ∀ x y z, x < 9 → y < 9 → z < 9 → RC c (rec (nI (d + 1))) recA (put V (xS c p) p w x y z)) {A : AC} {σ : St} (hA : GA c A) (hcut : A.2.2.2 = false) (h : Sim c V A σ) : ∃ τ, FC σ τ ∧ Sim c V (fz c recA V p w (eL V 2) A) τ ∧ GA c (fz c recA V p w (eL V 2) A) ∧ f_X3_tryWay N rec (nI d) (5 + p) (13 + 6 * 1 + p) (nI w) σ = some τ := by
  unfold f_X3_tryWay
  rw [show (0 : Int32) = nI 0 from rfl, show (1 : Int32) = nI 1 from rfl, show (2 : Int32) = nI 2 from rfl, c_ends N 1 (by omega) h.2.1.1 hg.1 (x := 0) (by decide) (fit_ends hc hg (by decide)), bn_some, c_ends N 1 (by omega) h.2.1.1 hg.1 (x := 1) (by decide) (fit_ends hc hg (by decide)), bn_some, c_ends N 1 (by omega) h.2.1.1 hg.1 (x := 2) (by decide) (fit_ends hc hg (by decide)), bn_some]
  exact c_33 N hN hc hg hp hp0 hw rec recA hrec (eM_lt hc hg (x := 2) (by decide)) (nI d) (nI w) 9 0 N A σ rfl (by omega) hA hcut h
set_option maxHeartbeats 1000000 in
theorem c_22 (N : Nat) (hN : 11 ≤ N) {c : CT} (hc : CTok c) {V : PV} (hg : VG c V) {p : Nat} (hp : p < xN c) (hp0 : V p 0 = 0) {d : Nat} (rec : Int32 → St → Option St) (recA : PV → AC → AC)
    (hrec : ∀ w x y z, w < 6 → x < 9 → y < 9 → z < 9 → RC c (rec (nI (d + 1))) recA (put V (xS c p) p w x y z)) (hrec0 : RC c (rec (nI (d + 1))) recA V) (a1 : Int32) :
    ∀ r k f A σ, k + r = 6 → r < f → GA c A → Sim c V A σ → ∃ τ, FC σ τ ∧ Sim c V (if (fw c recA V p (elf (lt (xM c p) (xS c p)) r k) A).2.2.2 = true then fw c recA V p (elf (lt (xM c p) (xS c p)) r k) A else recA V (fw c recA V p (elf (lt (xM c p) (xS c p)) r k) A)) τ ∧
      lp_X3_searchFrom_22 N rec a1 f (nI d) (nI p) (nI k) σ = some τ := by
  have hp6 : p < 6 := Nat.lt_of_lt_of_le hp hc.2.1
  intro r
  induction r with
  | zero =>
    intro k f A σ hk hf hA h
    obtain ⟨f, rfl, -⟩ := fuel1 hf
    have e11 : σ 0 11 = bI A.2.2.2 := h.2.2.2.2.1
    simp only [lp_X3_searchFrom_22, q6T (show 6 ≤ k by omega) (by omega), ↓reduceIte, nI_1, e11, bI_and]
    show ∃ τ, FC σ τ ∧ Sim c V (if A.2.2.2 = true then A else recA V A) τ ∧ _
    by_cases h1 : A.2.2.2 = false
    · rw [if_pos h1, if_neg (by rw [h1]; decide)]
      obtain ⟨τ, w1, w2, w3, -⟩ := hrec0 hg A σ hA h1 h
      exact ⟨τ, w2, w3, by rw [w1]; rfl⟩
    · rw [if_neg h1, if_pos (Bool.of_not_eq_false h1)]
      exact ⟨σ, FC.rf _, h, rfl⟩
  | succ r ih =>
    intro k f A σ hk hf hA h
    obtain ⟨f, rfl, hf⟩ := fuel1 hf
    have hk6 : k < 6 := by omega
    have e11 : σ 0 11 = bI A.2.2.2 := h.2.2.2.2.1
    obtain ⟨hps, -, -, m, hm, hm4, hmt⟩ := h.1.2.2.2.1 p hp hp6
    simp only [lp_X3_searchFrom_22, q6F hk6, ↓reduceIte, nI_1, e11, bI_and, qiT hp6, qix hp6, c_lets N hm4 hm hk6, bn_some, bI_0, hmt k hk6]
    by_cases h1 : A.2.2.2 = false
    · rw [if_pos h1]
      by_cases h2 : lt (xM c p) (xS c p) k = false
      · rw [if_pos h2, elf_f h2]
        exact ih (k + 1) f A σ (by omega) (by omega) hA h
      · rw [if_neg h2, elf_t (Bool.of_not_eq_false h2)]
        have hfw : fw c recA V p (k :: elf (lt (xM c p) (xS c p)) r (k + 1)) A = fw c recA V p (elf (lt (xM c p) (xS c p)) r (k + 1)) (fz c recA V p k (eL V 2) A) := rfl
        rw [hfw]
        obtain ⟨τ, t1, t2, t3, t4⟩ := c_tryWay N hN hc hg hp hp0 hk6 rec recA (fun x y z => hrec k x y z hk6) hA h1 h
        rw [t4, bv_some]
        obtain ⟨υ, v1, v2, v3⟩ := ih (k + 1) f _ τ (by omega) (by omega) t3 t2
        exact ⟨υ, t1.tr v1, v2, v3⟩
    · rw [if_neg h1, if_neg h1, fw_cut (Bool.of_not_eq_false h1), if_pos (Bool.of_not_eq_false h1)]
      exact ⟨σ, FC.rf _, h, rfl⟩
theorem OC.at {σ : St} {pre ps : List Nat} (h : OC σ 0 (pre ++ ps)) : OC σ pre.length ps := ⟨by rw [h.1, List.length_append]; congr 1; omega, fun j q hq => by
  have := h.2 (pre.length + j) q (by rw [List.getElem?_append_right (by omega)]; rwa [show pre.length + j - pre.length = j by omega])
  rwa [Nat.zero_add] at this⟩
theorem c_search (N : Nat) (hN : 11 ≤ N) {c : CT} (hc : CTok c) : ∀ ps pre dd V, xO c = pre ++ ps → ps.length < dd → pre.length + ps.length ≤ 6 → (∀ p, p ∈ ps → p < xN c ∧ V p 0 = 0) → ps.Nodup → RC c (f_X3_searchFrom N dd (nI pre.length)) (srch c ps) V := by
  intro ps
  induction ps with
  | nil =>
    intro pre dd V hO hdd hd _ _ hg A σ hA hcut h
    obtain ⟨dd, rfl, -⟩ := fuel1 hdd
    have ho : OC σ pre.length [] := OC.at (by rw [← hO]; exact h.1.2.2.2.2)
    have h5 : σ 0 5 = nI pre.length := ho.1
    rw [List.length_nil] at hd
    obtain ⟨τ, t1, t2, t3⟩ := c_look N (by omega) hg hA h
    refine ⟨τ, ?_, t2, t3, srch_GA hc [] V A (fun _ h => by cases h) List.nodup_nil hg hA⟩
    simp only [f_X3_searchFrom, f_X3_searchFromG, h5]
    rw [if_neg (by rw [q_lt (by omega) (by omega)]; omega), t1]; rfl
  | cons p ps ih =>
    intro pre dd V hO hdd hd hps hnd hg A σ hA hcut h
    obtain ⟨dd, rfl, hdd'⟩ := fuel1 hdd
    rw [List.length_cons] at hd hdd'
    have hp := hps p List.mem_cons_self
    have hnd' := List.nodup_cons.mp hnd
    have ho : OC σ pre.length (p :: ps) := OC.at (by rw [← hO]; exact h.1.2.2.2.2)
    have h5 : σ 0 5 = nI (pre.length + (ps.length + 1)) := ho.1
    have h4 : σ 4 pre.length = nI p := ho.2 0 p rfl
    have hO' : xO c = (pre ++ [p]) ++ ps := by rw [hO]; simp
    have hl : (pre ++ [p]).length = pre.length + 1 := by simp
    have key : ∀ V', (∀ q, q ∈ ps → q < xN c ∧ V' q 0 = 0) → RC c (f_X3_searchFrom N dd (nI (pre.length + 1))) (srch c ps) V' := fun V' hV' => by
      have := ih (pre ++ [p]) dd V' hO' (by omega) (by omega) hV' hnd'.2
      rwa [hl] at this
    obtain ⟨τ, t1, t2, t3⟩ := c_22 N hN hc hg hp.1 hp.2 (d := pre.length) (f_X3_searchFrom N dd) (srch c ps) (fun w x y z _ _ _ _ => key _ (fun q hq => ⟨(hps q (List.mem_cons_of_mem _ hq)).1, put_un (fun e => hnd'.1 (e ▸ hq)) (hps q (List.mem_cons_of_mem _ hq)).2⟩)) (key V (fun q hq => hps q (List.mem_cons_of_mem _ hq))) (nI pre.length) 6 0 N A σ rfl (by omega) hA h
    refine ⟨τ, ?_, t1, t2, srch_GA hc (p :: ps) V A hps hnd hg hA⟩
    simp only [f_X3_searchFrom, f_X3_searchFromG, h5]
    rw [if_pos (by rw [q_lt (by omega) (by omega)]; omega), if_pos (q_inb (by omega) (by decide)), q_ix (by omega), h4]
    exact t3
