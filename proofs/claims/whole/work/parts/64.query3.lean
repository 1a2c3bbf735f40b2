/-! layer 2: count, bound, exact, steps -/
def MQq (fl : St → Option (Int32 × St)) (fr : St → Option (Int32 × St)) (k : Nat) (σ : St) : Prop := ∃ r τ1 τ2, fl σ = some (r, τ1) ∧ fr τ1 = some (r, τ2) ∧ Good (k + 1) τ2
theorem m_exact (N : Nat) {k : Nat} {σ : St} (h : Good k σ) : MQq (f_X3_exact N) (f_X4_exact N) k σ := by
  have h' := h
  obtain ⟨c, rk, pk, cl, sd, al, V, hA, hC, hR, hk⟩ := h'
  refine ⟨bI al, σ, su σ 25 0 0, ?_, ?_, su25 h _⟩
  · unfold f_X3_exact
    rw [hC.2.2.2.2.1]; cases al <;> rfl
  · unfold f_X4_exact
    rw [su_ne _ _ (by omega), hR.2.2.2.2.2.1]; cases al <;> rfl
theorem m_steps (N : Nat) {k : Nat} {σ : St} (h : Good k σ) : MQq (f_X3_steps N) (f_X4_steps N) k σ := by
  have h' := h
  obtain ⟨c, rk, pk, cl, sd, al, V, hA, hC, hR, hk⟩ := h'
  refine ⟨nI sd, σ, su σ 25 0 0, ?_, ?_, su25 h _⟩
  · unfold f_X3_steps; rw [hC.2.2.2.1]
  · unfold f_X4_steps
    rw [su_ne _ _ (by omega), hR.2.2.2.2.1]
def unp (pk : Nat → Int32) (i : Nat) : Bool := decide (pk i = -1)
theorem CI.cu {c : CT} {rk : Nat → Nat} {pk : Nat → Int32} {cl sd : Nat} {al : Bool} {V : PV} {σ : St} (hA : AI c rk pk V) (h : CI c rk pk cl sd al V σ) : CU σ (xN c) rk (unp pk) := ⟨h.1, fun i hi => by
  have hn := hA.1.2.1
  have := h.2.2.2.2.2.2.2.1 i (by omega)
  exact ⟨this.2.2.2.1, (hA.2.2.1 i).1, by rw [this.2.2.2.2]; unfold unp; exact decide_eq_true_iff.symm⟩⟩
theorem RI.ru {c : CT} {rk : Nat → Nat} {pk : Nat → Int32} {cl sd : Nat} {al : Bool} {V : PV} {σ : St} (hA : AI c rk pk V) (h : RI c rk pk cl sd al V σ) : RU σ (xN c) rk (unp pk) := ⟨h.1, fun i hi => by
  have hn := hA.1.2.1
  have := h.2.2.2.2.2.2.1 i (by omega)
  refine ⟨this.2.2, (hA.2.2.1 i).1, ?_⟩
  rw [(this.1 hi).2.2.2]
  unfold unp
  rw [decide_eq_false_iff_not]
  rcases (hA.2.2.1 i).2 with e | e
  · rw [e]; exact ⟨fun h => absurd h (by decide), fun h => absurd rfl h⟩
  · exact ⟨fun _ e2 => by rw [e2] at e; exact absurd e (by decide), fun _ => e⟩⟩
def unT (pk : Nat → Int32) (j : Nat) : Nat := if unp pk j = true then 1 else 0
theorem c_unp' (N : Nat) {σ : St} {n : Nat} {rk : Nat → Nat} {pk : Nat → Int32} (hU : CU σ n rk (unp pk)) (hn : n ≤ 6) : ∀ r k f a, k + r = n → r < f → lp_X3_unpackedCount_4 N f (nI a) (nI k) σ = some (nI (a + up (unT pk) r k), σ) := by
  intro r
  induction r with
  | zero =>
    intro k f a hk hf
    obtain ⟨f, rfl, -⟩ := fuel1 hf
    simp (disch := omega) only [lp_X3_unpackedCount_4, hU.1, q_le, show n ≤ k by omega, ↓reduceIte, up, Nat.add_zero]
  | succ r ih =>
    intro k f a hk hf
    obtain ⟨f, rfl, hf⟩ := fuel1 hf
    have hk6 : k < 6 := by omega
    simp (disch := omega) only [lp_X3_unpackedCount_4, hU.1, q_le, show ¬ n ≤ k by omega, ↓reduceIte, nI_1, qiT hk6, qix hk6, c_packed N hU (show k < n by omega), bn_some, bI_0, up]
    have hu : (!unp pk k) = false ↔ unp pk k = true := by cases unp pk k <;> simp
    by_cases e : unp pk k = true
    · rw [if_pos (hu.mpr e), ih (k + 1) f _ (by omega) (by omega), unT, if_pos e, Nat.add_assoc]
    · rw [if_neg (fun h => e (hu.mp h)), ih (k + 1) f _ (by omega) (by omega), unT, if_neg e, Nat.zero_add]
def eC (N : Nat) (v1 v2 v3 v4 v5 : Int32) (σ : St) : Option (Int32 × St) := if v1 = 0 then some ((σ 25 4), σ) else if v1 = 1 then some (v2, σ) else if v1 = 2 then some (v3, σ) else if v1 = 3 then some ((σ 25 12), σ) else if v1 = 4 then (bn (f_X4_volumeNow N σ) fun r_1 τ_1 => some (r_1, τ_1)) else if v1 = 5 then some (v4, σ) else if v1 = 6 then some (v5, σ) else some ((-1), σ)
theorem r_count' (N : Nat) {τ : St} {V : PV} {n : Nat} {rk : Nat → Nat} {pk : Nat → Int32} {wt : Nat → Nat} (hU : RU τ n rk (unp pk)) (hV : RV τ V) (hs : SZ V) (hw : RW τ n wt) (c1 a : Int32) : ∀ r k f i1 i2 i3 i4, k + r = n → r < f → i4 < 100 → lp_X4_count_18 N c1 f a (nI i1) (nI i2) (nI i3) (nI i4) (nI k) τ = eC N a (nI (i1 + up (fun j => V j 0) r k)) (nI (i2 + up (unT pk) r k)) (nI (i3 + up (wtT V wt) r k)) (nI (mxh V r k i4)) τ := by
  have hn := hU.1.2
  intro r
  induction r with
  | zero =>
    intro k f i1 i2 i3 i4 hk hf _
    obtain ⟨f, rfl, -⟩ := fuel1 hf
    simp only [lp_X4_count_18, qnT hU.1 (show n ≤ k by omega) (by omega), ↓reduceIte, up, Nat.add_zero, mxh]
    rfl
  | succ r ih =>
    intro k f i1 i2 i3 i4 hk hf h4
    obtain ⟨f, rfl, hf⟩ := fuel1 hf
    have hk6 : k < 6 := by omega
    have hun := (hU.2 k (show k < n by omega)).2.2
    simp only [lp_X4_count_18, qnF hU.1 (show k < n by omega), qiT hk6, qix hk6, nI_1, ↓reduceIte, r_way hV hs hk6, Int32.add_zero, up, mxh]
    have t0 : V k 0 = 0 → (if V k 0 = 1 then max i4 (V k 3 + V k 6) else i4) = i4 := fun e => by rw [if_neg (by omega)]
    have w0 : V k 0 = 0 → wtT V wt k = 0 := fun e => by rw [wtT, if_neg (by omega)]
    by_cases e : V k 0 = 0
    · rw [t0 e, w0 e, e]
      simp only [↓reduceIte, Nat.zero_add]
      by_cases u : unp pk k = true
      · have u1 : unT pk k = 1 := by rw [unT, if_pos u]
        rw [if_neg (fun h => by rw [hun.mp h] at u; cases u), ih (k + 1) f _ _ _ _ (by omega) (by omega) h4, u1]
        simp only [Nat.add_assoc]
      · have u1 : unT pk k = 0 := by rw [unT, if_neg u]
        rw [if_pos (hun.mpr (Bool.eq_false_iff.mpr u)), ih (k + 1) f _ _ _ _ (by omega) (by omega) h4, u1, Nat.zero_add]
    · have g : V k 0 = 1 := by have := (hs k hk6).1; omega
      have z1 := (hs k hk6).2 g
      unfold sz1 at z1
      obtain ⟨p0, p1, p2, p3, p4, p5, p6⟩ := (hV k hk6).2 g
      have w1 : wtT V wt k = wt k := by rw [wtT, if_pos g]
      rw [p3, p6, hw k (by omega), w1, if_pos g, g]
      simp (disch := omega) only [nI_add, q_le, show ¬ (1 : Nat) = 0 by decide, ↓reduceIte]
      by_cases u : unp pk k = true
      · have u1 : unT pk k = 1 := by rw [unT, if_pos u]
        rw [if_neg (fun h => by rw [hun.mp h] at u; cases u), u1]
        by_cases m : V k 3 + V k 6 ≤ i4
        · rw [if_pos m, ih (k + 1) f _ _ _ _ (by omega) (by omega) h4, Nat.max_eq_left m]
          simp only [Nat.add_assoc]
        · rw [if_neg m, ih (k + 1) f _ _ _ _ (by omega) (by omega) (by omega), Nat.max_eq_right (by omega)]
          simp only [Nat.add_assoc]
      · have u1 : unT pk k = 0 := by rw [unT, if_neg u]
        rw [if_pos (hun.mpr (Bool.eq_false_iff.mpr u)), u1, Nat.zero_add]
        by_cases m : V k 3 + V k 6 ≤ i4
        · rw [if_pos m, ih (k + 1) f _ _ _ _ (by omega) (by omega) h4, Nat.max_eq_left m]
          simp only [Nat.add_assoc]
        · rw [if_neg m, ih (k + 1) f _ _ _ _ (by omega) (by omega) (by omega), Nat.max_eq_right (by omega)]
          simp only [Nat.add_assoc]
theorem mxh_cut {V : PV} {n : Nat} (hn : n ≤ 6) (hnp : NP n V) (a : Nat) : mxh V n 0 a = mxh V 6 0 a := by
  have z : ∀ r k a, n ≤ k → mxh V r k a = a := by
    intro r
    induction r with
    | zero => intro k a _; rfl
    | succ r ih => intro k a hk; rw [mxh, if_neg (by rw [hnp k hk]; decide)]; exact ih (k + 1) a (by omega)
  have s : ∀ r k a, k + r = n → mxh V (r + (6 - n)) k a = mxh V r k a := by
    intro r
    induction r with
    | zero => intro k a hk; rw [Nat.zero_add, z _ k a (by omega)]; rfl
    | succ r ih => intro k a hk; rw [show r + 1 + (6 - n) = (r + (6 - n)) + 1 by omega, mxh, mxh]; exact ih (k + 1) _ (by omega)
  have := s n 0 a (by omega)
  rw [show n + (6 - n) = 6 by omega] at this
  exact this.symm
theorem m_count (N : Nat) (hN : 9 ≤ N) (a : Int32) {k : Nat} {σ : St} (h : Good k σ) : MQq (f_X3_count N a) (f_X4_count N a) k σ := by
  have h' := h
  obtain ⟨c, rk, pk, cl, sd, al, V, hA, hC, hR, hk⟩ := h'
  have hn := hR.1.2
  have hs := hA.2.2.2.1
  have hV := hC.2.2.2.2.2.2.2.2.1
  have hnp := hA.2.2.2.2.2
  have hR2 := hR.s25 (v := 0)
  have e1 := c_size N 0 (by omega) hV hs
  have e2 : f_X3_unpackedCount N σ = some (nI (up (unT pk) (xN c) 0), σ) := by
    have := c_unp' N (hC.cu hA) hn (xN c) 0 N 0 (by omega) (by omega)
    rw [Nat.zero_add] at this; exact this
  have e4 := c_vol N 0 (by omega) hV hs
  have e5 := c_weight N 0 (by omega) hV hs hC.2.2.2.2.2.2.2.2.2.1
  have e6 := c_top N 0 (by omega) hV hs
  have r4 := r_vol N (by omega) hR2.1 hR2.2.2.2.2.2.2.2 hs hnp (fun i hi => ((hR2.2.2.2.2.2.2.1 i (by omega)).1 hi).1) hA.2.2.2.2.1
  have rr : f_X4_count N a σ = eC N a (nI (up (fun j => V j 0) 6 0)) (nI (up (unT pk) (xN c) 0)) (nI (up (wtT V (xW c)) 6 0)) (nI (mxh V 6 0 0)) (su σ 25 0 0) := by
    have := r_count' N (hR2.ru hA) hR2.2.2.2.2.2.2.2 hs hR2.rw a a (xN c) 0 N 0 0 0 0 (by omega) (by omega) (by omega)
    rw [Nat.zero_add, Nat.zero_add, Nat.zero_add, up_cut (f := fun j => V j 0) hn (fun j h1 _ => hnp j h1), up_cut (f := wtT V (xW c)) hn (fun j h1 _ => by rw [wtT, if_neg (by rw [hnp j h1]; decide)]), mxh_cut hn hnp] at this
    exact this
  have done : ∀ r, f_X3_count N a σ = some (r, σ) → f_X4_count N a σ = some (r, su σ 25 0 0) → MQq (f_X3_count N a) (f_X4_count N a) k σ := fun r h1 h2 => ⟨r, σ, su σ 25 0 0, h1, h2, su25 h _⟩
  have c4 : (su σ 25 0 0) 25 4 = nI (xN c) := hR2.1.1
  have c12 : (su σ 25 0 0) 25 12 = nI cl := hR2.2.2.2.1
  rw [eC, c4, c12, r4, bn_some] at rr
  have cc : f_X3_count N a σ = if a = 0 then some (nI (xN c), σ) else if a = 1 then some (nI (up (fun j => V j 0) 6 0), σ) else if a = 2 then some (nI (up (unT pk) (xN c) 0), σ) else if a = 3 then some (nI cl, σ) else if a = 4 then some (nI (up (volT V) 6 0), σ) else if a = 5 then some (nI (up (wtT V (xW c)) 6 0), σ) else if a = 6 then some (nI (mxh V 6 0 0), σ) else some (-1, σ) := by
    unfold f_X3_count
    rw [hC.1, e1, bn_some, e2, bn_some, hC.2.2.1, e4, bn_some, e5, bn_some, e6, bn_some]
  by_cases a0 : a = 0
  · rw [if_pos a0] at rr cc; exact done _ cc rr
  · rw [if_neg a0] at rr cc
    by_cases a1 : a = 1
    · rw [if_pos a1] at rr cc; exact done _ cc rr
    · rw [if_neg a1] at rr cc
      by_cases a2 : a = 2
      · rw [if_pos a2] at rr cc; exact done _ cc rr
      · rw [if_neg a2] at rr cc
        by_cases a3 : a = 3
        · rw [if_pos a3] at rr cc; exact done _ cc rr
        · rw [if_neg a3] at rr cc
          by_cases a4 : a = 4
          · rw [if_pos a4] at rr cc; exact done _ cc rr
          · rw [if_neg a4] at rr cc
            by_cases a5 : a = 5
            · rw [if_pos a5] at rr cc; exact done _ cc rr
            · rw [if_neg a5] at rr cc
              by_cases a6 : a = 6
              · rw [if_pos a6] at rr cc; exact done _ cc rr
              · rw [if_neg a6] at rr cc; exact done _ cc rr
/-! bound -/
def gI (B : Nat → Nat) (m : Nat) (s : Nat → Nat) (w : Nat) : Bool := lt m s w && decide (s (fr w 0) ≤ B 0 ∧ s (fr w 1) ≤ B 1 ∧ s (fr w 2) ≤ B 2)
theorem c_fits' (N : Nat) {σ : St} {p m mm : Nat} {s B : Nat → Nat} (h4 : σ p 4 = nI mm) (hmm : mm < 64) (hm : ∀ w, w < 6 → tb mm w = lt m s w) (hp : PS σ p s) (hs : s38 s) (hB : BX σ 2 0 B) : ∀ r k f, k + r = 6 → r < f → lp_X3_fitsAlone_2 N p f (nI k) σ = some (bI (be (gI B m s) r k), σ) := by
  intro r
  induction r with
  | zero =>
    intro k f hk hf
    obtain ⟨f, rfl, -⟩ := fuel1 hf
    simp only [lp_X3_fitsAlone_2, q6T (show 6 ≤ k by omega) (by omega), ↓reduceIte, be]; rfl
  | succ r ih =>
    intro k f hk hf
    obtain ⟨f, rfl, hf⟩ := fuel1 hf
    have hk6 : k < 6 := by omega
    have b0 := s38_at hs (fr_lt k hk6 0 (by decide))
    have b1 := s38_at hs (fr_lt k hk6 1 (by decide))
    have b2 := s38_at hs (fr_lt k hk6 2 (by decide))
    have ct := c_takes N 0 hB (x := s (fr k 0)) (y := s (fr k 1)) (z := s (fr k 2)) (by omega) (by omega) (by omega)
    simp only [lp_X3_fitsAlone_2, q6F hk6, ↓reduceIte, nI_1, c_lets N h4 hmm hk6, bn_some, bI_0, hm k hk6, c_widthIn N hp hk6, c_depthIn N hp hk6, c_heightIn N hp hk6, ct, decide_eq_false_iff_not, be]
    by_cases e1 : lt m s k = false
    · rw [if_pos e1, ih (k + 1) f (by omega) (by omega), show gI B m s k = false by rw [gI, e1]; rfl, Bool.false_or]
    · rw [if_neg e1]
      by_cases e2 : ¬ (s (fr k 0) ≤ B 0 ∧ s (fr k 1) ≤ B 1 ∧ s (fr k 2) ≤ B 2)
      · rw [if_pos e2, ih (k + 1) f (by omega) (by omega), show gI B m s k = false by rw [gI, decide_eq_false e2, Bool.and_false], Bool.false_or]
      · rw [if_neg e2, show gI B m s k = true by rw [gI, Bool.of_not_eq_false e1, decide_eq_true (Classical.not_not.mp e2)]; rfl]; rfl
theorem r_goes' (N : Nat) (hN : 9 ≤ N) {τ : St} {i m : Nat} {s B : Nat → Nat} (hi : i < 6) (h : RS τ i s) (hs : s38 s) (hm : m ≤ 3) (hmk : τ 28 i = nI m) (hB : BX τ 25 1 B) (c1 : Int32) : ∀ r k f, k + r = 6 → r < f → lp_X4_goesIn_2 N c1 f (nI i) (nI k) τ = some (bI (be (gI B m s) r k), τ) := by
  obtain ⟨x0, x1, x2, x3⟩ := hB
  have x0' : τ 25 1 = nI (B 0) := x0
  have x1' : τ 25 2 = nI (B 1) := x1
  have x2' : τ 25 3 = nI (B 2) := x2
  intro r
  induction r with
  | zero =>
    intro k f hk hf
    obtain ⟨f, rfl, -⟩ := fuel1 hf
    simp only [lp_X4_goesIn_2, q6T (show 6 ≤ k by omega) (by omega), ↓reduceIte, be]; rfl
  | succ r ih =>
    intro k f hk hf
    obtain ⟨f, rfl, hf⟩ := fuel1 hf
    have hk6 : k < 6 := by omega
    have b0 := s38_at hs (fr_lt k hk6 0 (by decide))
    have b1 := s38_at hs (fr_lt k hk6 1 (by decide))
    have b2 := s38_at hs (fr_lt k hk6 2 (by decide))
    have m0 : f_X4_measure N (nI i) (nI k) 0 τ = some (nI (s (fr k 0)), τ) := r_measure N h hi hk6 (k := 0) (by decide)
    have m1 : f_X4_measure N (nI i) (nI k) 1 τ = some (nI (s (fr k 1)), τ) := r_measure N h hi hk6 (k := 1) (by decide)
    have m2 : f_X4_measure N (nI i) (nI k) 2 τ = some (nI (s (fr k 2)), τ) := r_measure N h hi hk6 (k := 2) (by decide)
    have ih' := ih (k + 1) f (by omega) (by omega)
    simp (disch := omega) only [lp_X4_goesIn_2, q6F hk6, ↓reduceIte, nI_1, r_let N (by omega) h hs hi hk6 hm hmk, bn_some, bI_0, m0, m1, m2, x0', x1', x2', q_lt, be, ih']
    by_cases e1 : lt m s k = false
    · rw [if_pos e1, show gI B m s k = false by rw [gI, e1]; rfl, Bool.false_or]
    · rw [if_neg e1]
      by_cases e2 : s (fr k 0) ≤ B 0 ∧ s (fr k 1) ≤ B 1 ∧ s (fr k 2) ≤ B 2
      · rw [if_neg (by omega), if_neg (by omega), if_neg (by omega), show gI B m s k = true by rw [gI, Bool.of_not_eq_false e1, decide_eq_true e2]; rfl]; rfl
      · rw [show gI B m s k = false by rw [gI, decide_eq_false e2, Bool.and_false], Bool.false_or]
        repeat (split; rfl)
        exact absurd (by omega) e2
def bdT (c : CT) (pk : Nat → Int32) (j : Nat) : Nat := if unp pk j = true ∧ be (gI (xB c) (xM c j) (xS c j)) 6 0 = true then xS c j 0 * xS c j 1 * xS c j 2 else 0
def bdR (x v : Int32) : Int32 := if x ≤ v then x else v
theorem m_bound (N : Nat) (hN : 9 ≤ N) {k : Nat} {σ : St} (h : Good k σ) : MQq (f_X3_bound N) (f_X4_bound N) k σ := by
  have h' := h
  obtain ⟨c, rk, pk, cl, sd, al, V, hA, hC, hR, hk⟩ := h'
  have hn := hR.1.2
  have hcu := hC.cu hA
  have hR2 := hR.s25 (v := 0)
  have hru := hR2.ru hA
  obtain ⟨c0, c1, c2, c3⟩ := hC.2.2.2.2.2.1
  obtain ⟨b0, b1, b2, b3⟩ := hR2.2.1
  have c0' : σ (2 + 0) 0 = nI (xB c 0) := c0
  have c1' : σ (2 + 0) 1 = nI (xB c 1) := c1
  have c2' : σ (2 + 0) 2 = nI (xB c 2) := c2
  have b0' : (su σ 25 0 0) 25 1 = nI (xB c 0) := b0
  have b1' : (su σ 25 0 0) 25 2 = nI (xB c 1) := b1
  have b2' : (su σ 25 0 0) 25 3 = nI (xB c 2) := b2
  have hvol : xB c 0 * xB c 1 * xB c 2 ≤ 8 * 8 * 8 := Nat.mul_le_mul (Nat.mul_le_mul (by omega) (by omega)) (by omega)
  have hbd : ∀ j, j < xN c → bdT c pk j ≤ 512 := fun j hj => by
    unfold bdT
    split
    · have := (hA.1.2.2.2.1 j hj).1
      unfold s38 at this
      exact Nat.mul_le_mul (Nat.mul_le_mul (show xS c j 0 ≤ 8 by omega) (show xS c j 1 ≤ 8 by omega)) (show xS c j 2 ≤ 8 by omega)
    · omega
  have hsum : up (bdT c pk) (xN c) 0 ≤ xN c * 512 := up_bound _ _ fun j _ hj => hbd j (by omega)
  have hsum2 : xN c * 512 ≤ 6 * 512 := Nat.mul_le_mul_right _ hn
  have cl' : ∀ r k f a, k + r = xN c → r < f → lp_X3_bound_4 N f (nI a) (nI k) σ = some (mmin (nI (xB c 0 * xB c 1 * xB c 2)) (nI (a + up (bdT c pk) r k)), σ) := by
    intro r
    induction r with
    | zero =>
      intro k f a hk hf
      obtain ⟨f, rfl, -⟩ := fuel1 hf
      simp (disch := omega) only [lp_X3_bound_4, hC.1, q_le, show xN c ≤ k by omega, ↓reduceIte, up, Nat.add_zero, f_X1_boxVolume, bn_some, c0', c1', c2', q_mul]
    | succ r ih =>
      intro k f a hk hf
      obtain ⟨f, rfl, hf⟩ := fuel1 hf
      have hk6 : k < 6 := by omega
      obtain ⟨g1, g2, ⟨mm, g3, g4, g5⟩, g6, g7⟩ := hC.2.2.2.2.2.2.2.1 k hk6
      have hf1 : f_X3_fitsAlone N (5 + k) σ = some (bI (be (gI (xB c) (xM c k) (xS c k)) 6 0), σ) := c_fits' N g4 g3 g5 (g1 (by omega)).1 (hA.1.2.2.2.1 k (by omega)).1 hC.2.2.2.2.2.1 6 0 N rfl (by omega)
      have hv : f_X0_volume N (5 + k) σ = some (nI (xS c k 0 * xS c k 1 * xS c k 2), σ) := by
        obtain ⟨s0, s1, s2⟩ := (g1 (by omega)).1
        unfold f_X0_volume
        rw [s0, s1, s2, q_mul, q_mul]
      simp (disch := omega) only [lp_X3_bound_4, hC.1, q_le, show ¬ xN c ≤ k by omega, ↓reduceIte, nI_1, qiT hk6, qix hk6, c_packed N hcu (show k < xN c by omega), bn_some, bI_0, hf1, hv, nI_add, up]
      have hu : (!unp pk k) = false ↔ unp pk k = true := by cases unp pk k <;> simp
      by_cases e : unp pk k = true
      · rw [if_pos (hu.mpr e)]
        by_cases e2 : be (gI (xB c) (xM c k) (xS c k)) 6 0 = false
        · rw [if_pos e2, ih (k + 1) f _ (by omega) (by omega), bdT, if_neg (by rw [e2]; simp), Nat.zero_add]
        · rw [if_neg e2, ih (k + 1) f _ (by omega) (by omega), bdT, if_pos ⟨e, Bool.of_not_eq_false e2⟩, Nat.add_assoc]
      · rw [if_neg (fun h => e (hu.mp h)), ih (k + 1) f _ (by omega) (by omega), bdT, if_neg (fun h => e h.1), Nat.zero_add]
  have rl : ∀ r k f a, k + r = xN c → r < f → lp_X4_bound_9 N f (nI a) (nI k) (su σ 25 0 0) = some (bdR (nI (xB c 0 * xB c 1 * xB c 2)) (nI (a + up (bdT c pk) r k)), su σ 25 0 0) := by
    intro r
    induction r with
    | zero =>
      intro k f a hk hf
      obtain ⟨f, rfl, -⟩ := fuel1 hf
      simp (disch := omega) only [lp_X4_bound_9, qnT hR2.1 (show xN c ≤ k by omega) (by omega), ↓reduceIte, up, Nat.add_zero, b0', b1', b2', q_mul]
      unfold bdR
      by_cases e : nI (xB c 0 * xB c 1 * xB c 2) ≤ nI a
      · rw [if_pos e, if_pos e]
      · rw [if_neg e, if_neg e]
    | succ r ih =>
      intro k f a hk hf
      obtain ⟨f, rfl, hf⟩ := fuel1 hf
      have hk6 : k < 6 := by omega
      have hun := (hru.2 k (show k < xN c by omega)).2.2
      obtain ⟨g1, g2, g3⟩ := hR2.2.2.2.2.2.2.1 k hk6
      have hck := hA.1.2.2.2.1 k (by omega)
      have hf1 : f_X4_goesIn N (nI k) (su σ 25 0 0) = some (bI (be (gI (xB c) (xM c k) (xS c k)) 6 0), su σ 25 0 0) := r_goes' N hN hk6 (g1 (by omega)).1 hck.1 hck.2 g2 hR2.2.1 _ 6 0 N rfl (by omega)
      simp only [lp_X4_bound_9, qnF hR2.1 (show k < xN c by omega), qiT hk6, qix hk6, nI_1, ↓reduceIte, hf1, bn_some, bI_0, r_volume N (g1 (by omega)).1 hk6, nI_add, Int32.add_zero, up]
      by_cases e : unp pk k = true
      · rw [if_neg (fun h => by rw [hun.mp h] at e; cases e)]
        by_cases e2 : be (gI (xB c) (xM c k) (xS c k)) 6 0 = false
        · have z : bdT c pk k = 0 := by unfold bdT; rw [if_neg (by rw [e2]; simp)]
          rw [if_pos e2, ih (k + 1) f _ (by omega) (by omega), z, Nat.zero_add]
        · have z : bdT c pk k = xS c k 0 * xS c k 1 * xS c k 2 := by unfold bdT; rw [if_pos ⟨e, Bool.of_not_eq_false e2⟩]
          rw [if_neg e2, ih (k + 1) f _ (by omega) (by omega), z, Nat.add_assoc]
      · have z : bdT c pk k = 0 := by unfold bdT; rw [if_neg (fun h => e h.1)]
        rw [if_pos (hun.mpr (Bool.eq_false_iff.mpr e)), ih (k + 1) f _ (by omega) (by omega), z, Nat.zero_add]
  have h1 := cl' (xN c) 0 N 0 (by omega) (by omega)
  have h2 := rl (xN c) 0 N 0 (by omega) (by omega)
  rw [Nat.zero_add] at h1 h2
  refine ⟨_, σ, su σ 25 0 0, h1, ?_, su25 h _⟩
  refine (show f_X4_bound N σ = _ from h2).trans ?_
  congr 2
  rw [q_min (by omega) (by omega)]
  unfold bdR
  simp (disch := omega) only [q_le]
  split
  · rw [Nat.min_eq_left (by omega)]
  · rw [Nat.min_eq_right (by omega)]
