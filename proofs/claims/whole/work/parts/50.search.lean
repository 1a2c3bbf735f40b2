/-! layer 2: the search, as a pure function -/
abbrev CT : Type := (Nat → Nat) × (Nat → Nat) × (Nat → Nat) × PV × (Nat → Int32) × Nat × Nat × Nat × List Nat
def xB (c : CT) : Nat → Nat := c.1
def xW (c : CT) : Nat → Nat := c.2.1
def xM (c : CT) : Nat → Nat := c.2.2.1
def xS (c : CT) : PV := c.2.2.2.1
def xL (c : CT) : Nat → Int32 := c.2.2.2.2.1
def xSh (c : CT) : Nat := c.2.2.2.2.2.1
def xLim (c : CT) : Nat := c.2.2.2.2.2.2.1
def xN (c : CT) : Nat := c.2.2.2.2.2.2.2.1
def xO (c : CT) : List Nat := c.2.2.2.2.2.2.2.2
def CTok (c : CT) : Prop := xSh c ≤ 100 ∧ xN c ≤ 6 ∧ xLim c ≤ 3000 ∧ (∀ i, i < xN c → s38 (xS c i) ∧ xM c i ≤ 3) ∧ (∀ j, xL c j < 0 ↔ xL c j = -1) ∧ (∀ k, k < 3 → 1 ≤ xB c k ∧ xB c k ≤ 8)
noncomputable def okC (c : CT) (V : PV) : Bool := okA (xB c) (xSh c) (xW c) (xL c) V
/-- steps, the best volume and one (0: none), its plan, cut short -/
abbrev AC : Type := Nat × Nat × PV × Bool
def elf (f : Nat → Bool) : Nat → Nat → List Nat
  | 0, _ => []
  | r + 1, k => if f k = true then k :: elf f r (k + 1) else elf f r (k + 1)
def eL (V : PV) (a : Nat) : List Nat := elf (tb (eM V a)) 9 0
def vol (V : PV) : Nat := up (volT V) 6 0
noncomputable def one (c : CT) (rec : PV → AC → AC) (V : PV) (p w x y z : Nat) (A : AC) : AC :=
  if A.2.2.2 = true then A else if A.1 < xLim c then
    (if okC c (put V (xS c p) p w x y z) = true then rec (put V (xS c p) p w x y z) (A.1 + 1, A.2.1, A.2.2.1, false) else (A.1 + 1, A.2.1, A.2.2.1, false))
  else (A.1, A.2.1, A.2.2.1, true)
noncomputable def fx (c : CT) (rec : PV → AC → AC) (V : PV) (p w y z : Nat) (L : List Nat) (A : AC) : AC := L.foldl (fun A x => one c rec V p w x y z A) A
noncomputable def fy (c : CT) (rec : PV → AC → AC) (V : PV) (p w z : Nat) (L : List Nat) (A : AC) : AC := L.foldl (fun A y => fx c rec V p w y z (eL V 0) A) A
noncomputable def fz (c : CT) (rec : PV → AC → AC) (V : PV) (p w : Nat) (L : List Nat) (A : AC) : AC := L.foldl (fun A z => fy c rec V p w z (eL V 1) A) A
noncomputable def fw (c : CT) (rec : PV → AC → AC) (V : PV) (p : Nat) (L : List Nat) (A : AC) : AC := L.foldl (fun A w => fz c rec V p w (eL V 2) A) A
def wL (c : CT) (p : Nat) : List Nat := elf (lt (xM c p) (xS c p)) 6 0
def lookA (V : PV) (A : AC) : AC := if A.2.1 < vol V + 1 then (A.1, vol V + 1, V, A.2.2.2) else A
noncomputable def srch (c : CT) : List Nat → PV → AC → AC
  | [], V, A => lookA V A
  | p :: ps, V, A => if (fw c (srch c ps) V p (wL c p) A).2.2.2 = true then fw c (srch c ps) V p (wL c p) A else srch c ps V (fw c (srch c ps) V p (wL c p) A)
theorem one_cut {c : CT} {rec : PV → AC → AC} {V : PV} {p w x y z : Nat} {A : AC} (h : A.2.2.2 = true) : one c rec V p w x y z A = A := by unfold one; rw [if_pos h]
theorem fx_cut {c : CT} {rec : PV → AC → AC} {V : PV} {p w y z : Nat} {A : AC} (h : A.2.2.2 = true) : ∀ L, fx c rec V p w y z L A = A := by
  intro L
  induction L with
  | nil => rfl
  | cons a L ih => unfold fx at *; rw [List.foldl_cons, one_cut h]; exact ih
theorem fy_cut {c : CT} {rec : PV → AC → AC} {V : PV} {p w z : Nat} {A : AC} (h : A.2.2.2 = true) : ∀ L, fy c rec V p w z L A = A := by
  intro L
  induction L with
  | nil => rfl
  | cons a L ih => unfold fy at *; rw [List.foldl_cons, fx_cut h]; exact ih
theorem fz_cut {c : CT} {rec : PV → AC → AC} {V : PV} {p w : Nat} {A : AC} (h : A.2.2.2 = true) : ∀ L, fz c rec V p w L A = A := by
  intro L
  induction L with
  | nil => rfl
  | cons a L ih => unfold fz at *; rw [List.foldl_cons, fy_cut h]; exact ih
theorem fw_cut {c : CT} {rec : PV → AC → AC} {V : PV} {p : Nat} {A : AC} (h : A.2.2.2 = true) : ∀ L, fw c rec V p L A = A := by
  intro L
  induction L with
  | nil => rfl
  | cons a L ih => unfold fw at *; rw [List.foldl_cons, fz_cut h]; exact ih
/-- what every plan of the search is -/
def VG (c : CT) (V : PV) : Prop := SZ V ∧ DV (xS c) V ∧ NP (xN c) V ∧ okC c V = true
def GA (c : CT) (A : AC) : Prop := A.1 ≤ xLim c ∧ A.2.1 ≤ 4000 ∧ SZ A.2.2.1 ∧ DV (xS c) A.2.2.1 ∧ NP (xN c) A.2.2.1 ∧ (A.2.1 = vol A.2.2.1 + 1 ∨ (A.2.1 = 0 ∧ ∀ i, A.2.2.1 i 0 = 0))
theorem vol_le {V : PV} (hs : SZ V) : vol V ≤ 3072 := by
  refine up_bound (c := 512) 6 0 fun j _ hj => ?_
  unfold volT
  split
  · rename_i h
    have := (hs j (by omega)).2 h
    unfold sz1 at this
    exact Nat.mul_le_mul (Nat.mul_le_mul (show V j 4 ≤ 8 by omega) (show V j 5 ≤ 8 by omega)) (show V j 6 ≤ 8 by omega)
  · omega
theorem fit_ends {c : CT} (hc : CTok c) {V : PV} (hg : VG c V) {x : Nat} (hx : x < 3) : ∀ i, i < 6 → V i 0 = 1 → V i (1 + x) + V i (4 + x) < 9 := by
  intro i hi hp
  have h1 := (ba_iff _ _ _).mp hg.2.2.2 i (by omega) (by omega)
  have h2 := (of_decide_eq_true h1 hp).1
  have h3 := of_decide_eq_true h2
  have b0 := hc.2.2.2.2.2 0 (by decide)
  have b1 := hc.2.2.2.2.2 1 (by decide)
  have b2 := hc.2.2.2.2.2 2 (by decide)
  rcases lt3 hx with rfl | rfl | rfl
  · show V i 1 + V i 4 < 9; omega
  · show V i 2 + V i 5 < 9; omega
  · show V i 3 + V i 6 < 9; omega
theorem elf_lt {f : Nat → Bool} : ∀ r k x, x ∈ elf f r k → k ≤ x ∧ x < k + r ∧ f x = true := by
  intro r
  induction r with
  | zero => intro k x h; cases h
  | succ r ih =>
    intro k x h
    unfold elf at h
    split at h
    · rename_i hf
      rcases List.mem_cons.mp h with rfl | h
      · exact ⟨by omega, by omega, hf⟩
      · have := ih _ _ h; exact ⟨by omega, by omega, this.2.2⟩
    · have := ih _ _ h; exact ⟨by omega, by omega, this.2.2⟩
theorem put_sz {c : CT} (hc : CTok c) {V : PV} (hs : SZ V) {p w x y z : Nat} (hp : p < xN c) (hw : w < 6) (hx : x < 9) (hy : y < 9) (hz : z < 9) : SZ (put V (xS c p) p w x y z) := by
  intro i hi
  by_cases e : i = p
  · subst e
    refine ⟨by simp [put], fun _ => ?_⟩
    have s := (hc.2.2.2.1 i hp).1
    have s0 := s38_at s (fr_lt w hw 0 (by decide))
    have s1 := s38_at s (fr_lt w hw 1 (by decide))
    have s2 := s38_at s (fr_lt w hw 2 (by decide))
    unfold sz1
    simp [put]
    omega
  · rw [put_ne _ _ _ _ _ _ e]; exact hs i hi
theorem put_dv {c : CT} {V : PV} (hD : DV (xS c) V) {p w : Nat} (x y z : Nat) (hw : w < 6) : DV (xS c) (put V (xS c p) p w x y z) := by
  intro i hi
  by_cases e : i = p
  · subst e; intro _; simp [put]; exact hw
  · rw [put_ne _ _ _ _ _ _ e]; exact hD i hi
theorem put_np {c : CT} {V : PV} (hn : NP (xN c) V) {p : Nat} (w x y z : Nat) (hp : p < xN c) : NP (xN c) (put V (xS c p) p w x y z) := by
  intro i hi
  rw [put_ne _ _ _ _ _ _ (by omega)]; exact hn i hi
theorem put_0 (V : PV) (s : Nat → Nat) (p w x y z : Nat) : put V s p w x y z p 0 = 1 := by simp [put]
theorem put_un {V : PV} {s : Nat → Nat} {p q w x y z : Nat} (h : q ≠ p) (hq : V q 0 = 0) : put V s p w x y z q 0 = 0 := by rw [put_ne _ _ _ _ _ _ h]; exact hq
/-- a property of what the search holds goes through it -/
theorem fold_ind {α : Type} (P : AC → Prop) (f : AC → α → AC) : ∀ (L : List α) (A : AC), P A → (∀ A a, a ∈ L → P A → P (f A a)) → P (L.foldl f A) := by
  intro L
  induction L with
  | nil => intro A h _; exact h
  | cons a L ih => intro A h k; exact ih (f A a) (k A a List.mem_cons_self h) (fun A b hb => k A b (List.mem_cons_of_mem _ hb))
theorem one_GA {c : CT} (hc : CTok c) {rec : PV → AC → AC} {V : PV} (hg : VG c V) {p w x y z : Nat} (hp : p < xN c) (hw : w < 6) (hx : x < 9) (hy : y < 9) (hz : z < 9) (hrec : ∀ A, VG c (put V (xS c p) p w x y z) → GA c A → GA c (rec (put V (xS c p) p w x y z) A)) {A : AC} (h : GA c A) : GA c (one c rec V p w x y z A) := by
  unfold one
  split
  · exact h
  · split
    · rename_i h1
      have h2 : GA c (A.1 + 1, A.2.1, A.2.2.1, false) := ⟨h1, h.2⟩
      split
      · rename_i hok
        exact hrec _ ⟨put_sz hc hg.1 hp hw hx hy hz, put_dv hg.2.1 x y z hw, put_np hg.2.2.1 w x y z hp, hok⟩ h2
      · exact h2
    · exact h
theorem fw_GA {c : CT} (hc : CTok c) {rec : PV → AC → AC} {V : PV} (hg : VG c V) {p : Nat} (hp : p < xN c) (hrec : ∀ w x y z A, VG c (put V (xS c p) p w x y z) → GA c A → GA c (rec (put V (xS c p) p w x y z) A)) {A : AC} (h : GA c A) : GA c (fw c rec V p (wL c p) A) := by
  refine fold_ind (GA c) _ _ _ h fun A w hw hA => ?_
  refine fold_ind (GA c) _ _ _ hA fun A z hz hA => ?_
  refine fold_ind (GA c) _ _ _ hA fun A y hy hA => ?_
  refine fold_ind (GA c) _ _ _ hA fun A x hx hA => ?_
  have a1 := elf_lt 6 0 w hw
  have a2 := elf_lt 9 0 z hz
  have a3 := elf_lt 9 0 y hy
  have a4 := elf_lt 9 0 x hx
  exact one_GA hc hg hp (by omega) (by omega) (by omega) (by omega) (hrec w x y z) hA
theorem srch_GA {c : CT} (hc : CTok c) : ∀ ps V A, (∀ p, p ∈ ps → p < xN c ∧ V p 0 = 0) → ps.Nodup → VG c V → GA c A → GA c (srch c ps V A) := by
  intro ps
  induction ps with
  | nil =>
    intro V A _ _ hg h
    unfold srch lookA
    have := vol_le hg.1
    split
    · exact ⟨h.1, by show vol V + 1 ≤ 4000; omega, hg.1, hg.2.1, hg.2.2.1, Or.inl rfl⟩
    · exact h
  | cons p ps ih =>
    intro V A hps hnd hg h
    have hp := hps p List.mem_cons_self
    have hnd' := List.nodup_cons.mp hnd
    have h1 : GA c (fw c (srch c ps) V p (wL c p) A) := fw_GA hc hg hp.1 (fun w x y z A hv hA => ih _ A (fun q hq => ⟨(hps q (List.mem_cons_of_mem _ hq)).1, put_un (fun e => hnd'.1 (e ▸ hq)) (hps q (List.mem_cons_of_mem _ hq)).2⟩) hnd'.2 hv hA) h
    unfold srch
    split
    · exact h1
    · exact ih V _ (fun q hq => hps q (List.mem_cons_of_mem _ hq)) hnd'.2 hg h1
