/-- an index in range, and the place that it names -/
def inb (x : Int32) (n : Nat) : Bool := decide (¬ (x < 0 ∨ n ≤ x.toNatClampNeg))
def ix (x : Int32) : Nat := x.toNatClampNeg
theorem inb_in {x : Int32} {n : Nat} (h : inb x n = true) : vp_in x n := by
  unfold inb at h
  have h2 : ¬ (x < 0 ∨ n ≤ x.toNatClampNeg) := of_decide_eq_true h
  exact h2
theorem inb_lt {x : Int32} {n : Nat} (h : inb x n = true) : ix x < n := Nat.not_le.mp fun q => inb_in h (Or.inr q)
/-! fields and arrays of a world of a shape; contracts over such a world; calls and returns -/
/-- own's pool entry index is the field j of the class number ci -/
def FL (own : String) (index ci j : Nat) : Prop := ∃ (C : String) (T : u_T) (N : Nat), vwCl[ci]? = some (C, T, N) ∧ j < N ∧ (∀ w ∈ u_ws C T N, w ∈ WS) ∧ Cond.fieldLink own index (T j).1 (T j).2.1 (T j).2.2.1 ∈ WS
def FP (own : String) (index ci j : Nat) (ty : FieldType) : Prop := ∃ (C : String) (T : u_T) (N : Nat) (ty0 : Nat → FieldType), vwCl[ci]? = some (C, T, N) ∧ j < N ∧ (∀ w ∈ u_ws C T N, w ∈ WS) ∧ Cond.fieldLink own index (T j).1 (T j).2.1 (T j).2.2.1 ∈ WS ∧ (∀ k, k < N → parseFieldDescriptor (T k).2.2.1 = some (ty0 k)) ∧ (∀ a, a < N → ∀ b, b < N → a ≠ b → (T a).2.1 ≠ (T b).2.1) ∧ (T j).2.2.2 = false ∧ parseFieldDescriptor (T j).2.2.1 = some ty
theorem i_and1 {v : Int32} (h : v = 0 ∨ v = 1) : v &&& 1 = v := by rcases h with rfl | rfl <;> decide +kernel
theorem i_and1_01 (x : Int32) : x &&& 1 = 0 ∨ x &&& 1 = 1 := by
  obtain ⟨j, hj, e⟩ := pk_andE x (m := 1) 1 (by decide +kernel)
  rcases (show j = 0 ∨ j = 1 by omega) with rfl | rfl
  · exact Or.inl (by rw [e]; decide +kernel)
  · exact Or.inr (by rw [e]; decide +kernel)
section WWF
variable {p : Program} {l : Launch} {e : Env} {R : Room} {s : State} {m : MethodId} {args : Array Value} {below : List Frame} {meth : Method} {c : Code} {cells slots : Nat} {Q : State → Prop} {A : Nat → Prop} {D : va_G} {ca : Nat → ClassId} {ad : Nat → Nat} {sh : List sO} {own : String} {cc : ByteArray} {nL pc : Nat} {lo : List (Option Value)} {st : List Value} {σ : St}
theorem s_get (C : CX p s m args c D ca A own cc nL) {index ci j q : Nat} {fs : List sF} {x : sF} (hF : FL own index ci j) (hq : sh[q]? = some (.inl (ci, fs))) (hx : fs[j]? = some x) (d : decode cc pc = .ok (.getfield index, 3)) (k : WW p l e R s m args below meth c cells slots Q A D ca ad sh (pc + 3) lo (sv ad (σ q) j x :: st) σ) : WW p l e R s m args below meth c cells slots Q A D ca ad sh pc lo (.ref (ad q) :: st) σ := by
  intro H locs ls hP hD hS hl
  obtain ⟨Cn, T, N, hc, hj, hin, hlk⟩ := hF
  refine va_get (D := D) (ci := ci) (v := sv ad (σ q) j x) (C := Cn) (T := T) (N := N) C.1 C.2.1 C.2.2.2.2.1 hin C.2.2.2.1 C.2.2.2.2.2.1 hP q (wd_at hq) hc j hj (C.2.2.2.2.1 _ hlk) (fun _ h => h) ?_ d (k H locs ls hP hD hS hl)
  simp [hx]
theorem s_getI (C : CX p s m args c D ca A own cc nL) {index ci j q : Nat} {fs : List sF} (hF : FL own index ci j) (hq : sh[q]? = some (.inl (ci, fs))) (hx : fs[j]? = some (.inr false)) (d : decode cc pc = .ok (.getfield index, 3)) (k : WW p l e R s m args below meth c cells slots Q A D ca ad sh (pc + 3) lo (.int (σ q j) :: st) σ) : WW p l e R s m args below meth c cells slots Q A D ca ad sh pc lo (.ref (ad q) :: st) σ := s_get C hF hq hx d k
theorem s_getZ (C : CX p s m args c D ca A own cc nL) {index ci j q : Nat} {fs : List sF} (hF : FL own index ci j) (hq : sh[q]? = some (.inl (ci, fs))) (hx : fs[j]? = some (.inr true)) (d : decode cc pc = .ok (.getfield index, 3)) (k : WW p l e R s m args below meth c cells slots Q A D ca ad sh (pc + 3) lo (.int (σ q j &&& 1) :: st) σ) : WW p l e R s m args below meth c cells slots Q A D ca ad sh pc lo (.ref (ad q) :: st) σ := s_get C hF hq hx d k
theorem s_getR (C : CX p s m args c D ca A own cc nL) {index ci j q r : Nat} {fs : List sF} (hF : FL own index ci j) (hq : sh[q]? = some (.inl (ci, fs))) (hx : fs[j]? = some (.inl r)) (d : decode cc pc = .ok (.getfield index, 3)) (k : WW p l e R s m args below meth c cells slots Q A D ca ad sh (pc + 3) lo (.ref (ad r) :: st) σ) : WW p l e R s m args below meth c cells slots Q A D ca ad sh pc lo (.ref (ad q) :: st) σ := s_get C hF hq hx d k
theorem s_put (C : CX p s m args c D ca A own cc nL) {index ci j q : Nat} {fs : List sF} {x : sF} {ty : FieldType} {v : Int32} (hF : FP own index ci j ty) (hq : sh[q]? = some (.inl (ci, fs))) (hx : fs[j]? = some x) (hv : sv ad (upd (σ q) j v) j x = .int v) (hn : narrow ty (.int v) = .int v) (hfit : fits ty (.int v) = true) (d : decode cc pc = .ok (.putfield index, 3)) (k : WW p l e R s m args below meth c cells slots Q A D ca ad sh (pc + 3) lo st (su σ q j v)) : WW p l e R s m args below meth c cells slots Q A D ca ad sh pc lo (.int v :: .ref (ad q) :: st) σ := by
  intro H locs ls hP hD hS hl
  obtain ⟨Cn, T, N, ty0, hc, hj, hin, hlk, hty, hnm, hfin, hd⟩ := hF
  have hlen : j < (fs.mapIdx (fun i y => sv ad (σ q) i y)).length := by
    have := (List.getElem?_eq_some_iff.mp hx).1
    simpa using this
  refine va_put (D := D) (ci := ci) (v := .int v) (ty := ty) (C := Cn) (T := T) (N := N) C.1 C.2.1 C.2.2.2.2.1 hin ty0 hty hnm C.2.2.2.1 C.2.2.2.2.2.1 hP hD hS q (wd_at hq) hc j hj (C.2.2.2.2.1 _ hlk) (fun _ h => h) hfin hd hn hfit hlen d (fun H1 locs1 hP1 hD1 hS1 => ?_)
  have he : (wd sh ca ad σ).set q (ad q, .inr (ci, (fs.mapIdx (fun i y => sv ad (σ q) i y)).set j (.int v))) = wd sh ca ad (su σ q j v) := by
    refine wd_set hq ?_ (fun a ha => su_row ha)
    rw [su_at]
    show (Sum.inr (ci, _) : va_E) = Sum.inr (ci, _)
    rw [sv_set hx hv]
  rw [he] at hP1 hD1
  exact k H1 locs1 ls hP1 hD1 hS1 hl
theorem s_putI (C : CX p s m args c D ca A own cc nL) {index ci j q : Nat} {fs : List sF} {v : Int32} (hF : FP own index ci j .int) (hq : sh[q]? = some (.inl (ci, fs))) (hx : fs[j]? = some (.inr false)) (d : decode cc pc = .ok (.putfield index, 3)) (k : WW p l e R s m args below meth c cells slots Q A D ca ad sh (pc + 3) lo st (su σ q j v)) : WW p l e R s m args below meth c cells slots Q A D ca ad sh pc lo (.int v :: .ref (ad q) :: st) σ := s_put C hF hq hx (by simp [sv, upd]) rfl rfl d k
theorem s_putZ (C : CX p s m args c D ca A own cc nL) {index ci j q : Nat} {fs : List sF} {v : Int32} (hF : FP own index ci j .boolean) (hq : sh[q]? = some (.inl (ci, fs))) (hx : fs[j]? = some (.inr true)) (h01 : v = 0 ∨ v = 1) (d : decode cc pc = .ok (.putfield index, 3)) (k : WW p l e R s m args below meth c cells slots Q A D ca ad sh (pc + 3) lo st (su σ q j v)) : WW p l e R s m args below meth c cells slots Q A D ca ad sh pc lo (.int v :: .ref (ad q) :: st) σ :=
  s_put C hF hq hx (by simp [sv, upd, i_and1 h01]) (by show Value.int (v &&& 1) = _; rw [i_and1 h01]) (by rcases h01 with rfl | rfl <;> rfl) d k
theorem s_alenI (C : CX p s m args c D ca A own cc nL) {t n q : Nat} {o : Option (Option Nat)} {ty : FieldType} {v : Int32} (hq : sh[q]? = some (.inr (t, n, o))) (ht : (tys ca)[t]? = some (ca t, ty)) (hv : nI n = v) (d : decode cc pc = .ok (.arraylength, 1)) (k : WW p l e R s m args below meth c cells slots Q A D ca ad sh (pc + 1) lo (.int v :: st) σ) : WW p l e R s m args below meth c cells slots Q A D ca ad sh pc lo (.ref (ad q) :: st) σ := by
  intro H locs ls hP hD hS hl
  cases o with
  | none => exact va_alen C.1 C.2.1 C.2.2.2.2.2.1 hP q t (wd_at hq) ht hv d (k H locs ls hP hD hS hl)
  | some o => cases o with
    | none => exact va_alen C.1 C.2.1 C.2.2.2.2.2.1 hP q t (wd_at hq) ht hv d (k H locs ls hP hD hS hl)
    | some b => exact va_alen C.1 C.2.1 C.2.2.2.2.2.1 hP q t (wd_at hq) ht hv d (k H locs ls hP hD hS hl)
theorem s_iald (C : CX p s m args c D ca A own cc nL) {t n q : Nat} {x : Int32} (hq : sh[q]? = some (.inr (t, n, none))) (ht : (tys ca)[t]? = some (ca t, .int)) (hx : inb x n = true) (d : decode cc pc = .ok (.iaload, 1)) (k : WW p l e R s m args below meth c cells slots Q A D ca ad sh (pc + 1) lo (.int (σ q (ix x)) :: st) σ) : WW p l e R s m args below meth c cells slots Q A D ca ad sh pc lo (.int x :: .ref (ad q) :: st) σ := fun H locs ls hP hD hS hl => va_iald C.1 C.2.1 C.2.2.2.2.2.1 hP q t (wd_at hq) ht (inb_in hx) d (k H locs ls hP hD hS hl)
theorem s_iast (C : CX p s m args c D ca A own cc nL) {t n q : Nat} {x v : Int32} (hq : sh[q]? = some (.inr (t, n, none))) (ht : (tys ca)[t]? = some (ca t, .int)) (hx : inb x n = true) (d : decode cc pc = .ok (.iastore, 1)) (k : WW p l e R s m args below meth c cells slots Q A D ca ad sh (pc + 1) lo st (su σ q (ix x) v)) : WW p l e R s m args below meth c cells slots Q A D ca ad sh pc lo (.int v :: .int x :: .ref (ad q) :: st) σ := by
  intro H locs ls hP hD hS hl
  refine va_iast C.1 C.2.1 C.2.2.2.2.2.1 hP hD hS q t (wd_at hq) ht (inb_in hx) d (fun H1 locs1 hP1 hD1 hS1 => ?_)
  have he : (wd sh ca ad σ).set q (ad q, .inl (ca t, n, .inl (upd (σ q) x.toNatClampNeg v))) = wd sh ca ad (su σ q (ix x) v) := by
    refine wd_set hq ?_ (fun a ha => su_row ha)
    rw [su_at]
    rfl
  rw [he] at hP1 hD1
  exact k H1 locs1 ls hP1 hD1 hS1 hl
theorem s_aald (C : CX p s m args c D ca A own cc nL) {t n q b : Nat} {x : Int32} {Cn : String} (hq : sh[q]? = some (.inr (t, n, some (some b)))) (ht : (tys ca)[t]? = some (ca t, .object Cn)) (hx : inb x n = true) (d : decode cc pc = .ok (.aaload, 1)) (k : WW p l e R s m args below meth c cells slots Q A D ca ad sh (pc + 1) lo (.ref (ad (b + ix x)) :: st) σ) : WW p l e R s m args below meth c cells slots Q A D ca ad sh pc lo (.int x :: .ref (ad q) :: st) σ := fun H locs ls hP hD hS hl => va_aldq C.1 C.2.1 C.2.2.2.2.2.1 hP q t (wd_at hq) ht (inb_in hx) d (k H locs ls hP hD hS hl)
end WWF
/-! contracts: a method of a world of a shape that makes nothing and always returns: what it answers (ov), the state behind it (τ) -/
def Pr (D : va_G) (ca : Nat → ClassId) (ad : Nat → Nat) (sh : List sO) (av : List Value) (σ : St) (sz : Nat) : Array Value → State → Prop := va_Pc av (fun U => U.heap.size = sz ∧ va_P D vwCl (wd sh ca ad σ) U.heap ∧ va_K D vwCl (tys ca) U ∧ va_D (fun _ => True) (wd sh ca ad σ) ∧ NWs U)
def QV (D : va_G) (ca : Nat → ClassId) (ad : Nat → Nat) (sh : List sO) (A : Nat → Prop) (ov : Option Value) (τ : St) : Array Value → State → Outcome → State → Prop := fun _ st oc t => (oc = .returned ov ∧ va_P D vwCl (wd sh ca ad τ) t.heap ∧ va_K D vwCl (tys ca) t ∧ va_D A (wd sh ca ad τ)) ∧ va_F A st t
def cM (l : Launch) (y : MethodName) (cw : Cond) (rm : Room) (D : va_G) (ca : Nat → ClassId) (ad : Nat → Nat) (sh : List sO) (av : List Value) (σ : St) (ov : Option Value) (τ : St) : Prop :=
  ∀ sz : Nat, Met l y (cw :: WS) rm (Pr D ca ad sh av σ sz) (QV D ca ad sh (va_A (wd sh ca ad σ) sz) ov τ) 0 0 (va_A (wd sh ca ad σ) sz)
/-- the end that a body owes -/
def EQ (D : va_G) (ca : Nat → ClassId) (ad : Nat → Nat) (sh : List sO) (A : Nat → Prop) (below : List Frame) (args : Array Value) (s : State) (ov : Option Value) (τ : St) : State → Prop := MQ below (QV D ca ad sh A ov τ) args s 0 0 A
def lo0 (av : List Value) (nL : Nat) : List (Option Value) := av.map some ++ List.replicate (nL - av.length) none
theorem lg_sl_len1 : ∀ {av : List Value}, (∀ v ∈ av, v.category = 1) → (lg_sl av).length = av.length
  | [], _ => rfl
  | v :: r, h => by
    have h1 := h v List.mem_cons_self
    have h2 := lg_sl_len1 (av := r) (fun w hw => h w (List.mem_cons_of_mem _ hw))
    cases v <;> simp_all [lg_sl, Value.category]
theorem lv_args1 : ∀ {av : List Value} {b : Nat}, (∀ v ∈ av, v.category = 1) → ∀ {i : Nat} {v : Value}, av[i]? = some v → (b + i, v) ∈ lv_args b av
  | [], _, _, i, v, h => by simp at h
  | w :: r, b, hc, 0, v, h => by
    simp only [List.getElem?_cons_zero, Option.some.injEq] at h
    subst h
    exact List.mem_cons_self
  | w :: r, b, hc, i + 1, v, h => by
    simp only [List.getElem?_cons_succ] at h
    have h1 := hc w List.mem_cons_self
    have h2 := lv_args1 (av := r) (b := b + 1) (fun x hx => hc x (List.mem_cons_of_mem _ hx)) h
    have e : b + (i + 1) = b + 1 + i := by omega
    rw [e]
    unfold lv_args
    rw [h1]
    exact List.mem_cons_of_mem _ h2
theorem lh_entry {av : List Value} {nL : Nat} (hc : ∀ v ∈ av, v.category = 1) (hn : av.length ≤ nL) : lh ((lg_sl av ++ List.replicate (nL - (lg_sl av).length) Slot.unset).toArray) (lo0 av nL) := by
  have hlen := lg_sl_len1 hc
  have h := lv_entry av (n := nL) (by rw [hlen]; exact hn)
  have key : ∀ (i : Nat) (v : Value), (lo0 av nL)[i]? = some (some v) → av[i]? = some v := by
    intro i v hi
    unfold lo0 at hi
    by_cases hlt : i < av.length
    · rw [List.getElem?_append_left (by simpa using hlt), List.getElem?_map] at hi
      cases hv : av[i]? with
      | none => rw [hv] at hi; cases hi
      | some w => rw [hv] at hi; simpa using hi
    · rw [List.getElem?_append_right (by simpa using hlt)] at hi
      rw [List.getElem?_replicate] at hi
      split at hi <;> simp at hi
  refine ⟨by rw [h.1]; simp [lo0]; omega, h.2.1, fun i v hi => ?_, fun i v hi => ?_⟩
  · have := h.2.2 _ (lv_args1 (b := 0) hc (key i v hi))
    simpa using this
  · exact hc v (List.mem_of_getElem? (key i v hi))
theorem cM.intro {l : Launch} {y : MethodName} {cc : ByteArray} {nL : Nat} {ret : Option FieldType} {rm : Room} {D : va_G} {ca : Nat → ClassId} {ad : Nat → Nat} {sh : List sO} {av : List Value} {σ : St} {ov : Option Value} {τ : St} {own : String}
    (hy : plainName y.cls = true) (hown : y.cls = own) (hc : ∀ v ∈ av, v.category = 1) (hn : av.length ≤ nL)
    (k : ∀ (p : Program) (e : Env) (s : State) (m : MethodId) (args : Array Value) (below : List Frame) (meth : Method) (c : Code) (A : Nat → Prop), CX p s m args c D ca A own cc nL → meth.sig.returnType = ret → meth.locks = false →
      WW p l e rm s m args below meth c 0 0 (EQ D ca ad sh A below args s ov τ) A D ca ad sh 0 (lo0 av nL) [] σ) : cM l y (.code y cc nL ret) rm D ca ad sh av σ ov τ := by
  intro sz
  refine Met.ofW (cc := cc) (maxL := nL) (ret := ret) hy rfl ?_
  intro p e s m args below meth c s₁ B hml hv
  obtain ⟨rfl, hsz, hP, hK, hD0, hNW⟩ := hv
  have hts := atoms_spec (ws := .code y cc nL ret :: WS) B.pre
  have ho : s.vm.findClass own = some m.cls := by rw [← hown]; exact findClass_of_methodNamed B.named
  subst hsz
  have hA : ∀ q : Nat, s.heap.size ≤ q → va_A (wd sh ca ad σ) s.heap.size q := fun q h => Or.inr h
  rw [lg_entry_eq]
  exact k p e s m _ below meth c _ ⟨B.exec, B.bytes, hml, ho, fun w hw => hts w (List.mem_cons_of_mem _ hw), hK, hA, hNW⟩ B.returns B.notSynchronized s.heap [] _ hP hD0.self va_S.rf (lh_entry hc hn)
section WWC
variable {p : Program} {l : Launch} {e : Env} {R : Room} {s : State} {m : MethodId} {args : Array Value} {below : List Frame} {meth : Method} {c : Code} {cells slots : Nat} {Q : State → Prop} {A : Nat → Prop} {D : va_G} {ca : Nat → ClassId} {ad : Nat → Nat} {sh : List sO} {own : String} {cc : ByteArray} {nL pc : Nat} {lo : List (Option Value)} {st : List Value} {σ τ : St} {ov : Option Value}
theorem s_iret (C : CX p s m args c D ca A own cc nL) {v : Int32} (hr : meth.sig.returnType = some .int) (hlocks : meth.locks = false) (d : decode cc pc = .ok (.ireturn, 1)) (hv : ov = some (.int v)) (hσ : τ = σ) : WW p l e R s m args below meth c 0 0 (EQ D ca ad sh A below args s ov τ) A D ca ad sh pc lo [.int v] σ := by
  subst hv; subst hσ
  intro H locs ls hP hD hS hl
  exact W.iret (Qc := QV D ca ad sh A (some (.int v)) τ) C.1 C.2.1 hr (fun t ht hW => ⟨⟨rfl, by rw [ht]; exact hP, va_K.moved hW.alike C.2.2.2.2.2.1, hD⟩, hS.F ht⟩) hS.2.2 d hlocks
theorem s_zret (C : CX p s m args c D ca A own cc nL) {v : Int32} (hr : meth.sig.returnType = some .boolean) (hlocks : meth.locks = false) (d : decode cc pc = .ok (.ireturn, 1)) (h01 : v = 0 ∨ v = 1) (hv : ov = some (.int v)) (hσ : τ = σ) : WW p l e R s m args below meth c 0 0 (EQ D ca ad sh A below args s ov τ) A D ca ad sh pc lo [.int v] σ := by
  subst hv; subst hσ
  intro H locs ls hP hD hS hl
  exact W.zret (Qc := QV D ca ad sh A (some (.int v)) τ) (ty := .boolean) C.1 C.2.1 hr (by show Value.int (v &&& 1) = _; rw [i_and1 h01]) (fun t ht hW => ⟨⟨rfl, by rw [ht]; exact hP, va_K.moved hW.alike C.2.2.2.2.2.1, hD⟩, hS.F ht⟩) hS.2.2 d hlocks
theorem s_vret (C : CX p s m args c D ca A own cc nL) (hr : meth.sig.returnType = none) (hlocks : meth.locks = false) (d : decode cc pc = .ok (.return_, 1)) (hv : ov = none) (hσ : τ = σ) : WW p l e R s m args below meth c 0 0 (EQ D ca ad sh A below args s ov τ) A D ca ad sh pc lo [] σ := by
  subst hv; subst hσ
  intro H locs ls hP hD hS hl
  exact W.vret (Qc := QV D ca ad sh A none τ) C.1 C.2.1 hr (fun t ht hW => ⟨⟨rfl, by rw [ht]; exact hP, va_K.moved hW.alike C.2.2.2.2.2.1, hD⟩, hS.F ht⟩) hS.2.2 d hlocks
theorem s_aret (C : CX p s m args c D ca A own cc nL) {a : Nat} {Cn : String} (hr : meth.sig.returnType = some (.object Cn)) (hlocks : meth.locks = false) (d : decode cc pc = .ok (.areturn, 1)) (hv : ov = some (.ref a)) (hσ : τ = σ) : WW p l e R s m args below meth c 0 0 (EQ D ca ad sh A below args s ov τ) A D ca ad sh pc lo [.ref a] σ := by
  subst hv; subst hσ
  intro H locs ls hP hD hS hl
  exact W.aret (Qc := QV D ca ad sh A (some (.ref a)) τ) C.1 C.2.1 hr (Or.inl ⟨_, rfl⟩) (Or.inr ⟨_, rfl⟩) (fun t ht hW => ⟨⟨rfl, by rw [ht]; exact hP, va_K.moved hW.alike C.2.2.2.2.2.1, hD⟩, hS.F ht⟩) hS.2.2 d hlocks
/-- what lies behind a call in the world -/
theorem s_back (C : CX p s m args c D ca A own cc nL) {st0 : List Value} {rest : List Value} (hr : ∀ H locs ls, va_P D vwCl (wd sh ca ad σ) H → va_D A (wd sh ca ad σ) → lh ls lo → va_Run p l e R s m args below meth c H locs cells slots 0 0 (F0 m pc ls st0) rest (QV D ca ad sh (va_A (wd sh ca ad σ) H.size) ov τ #[]) (va_A (wd sh ca ad σ) H.size))
    (k : WW p l e R s m args below meth c cells slots Q A D ca ad sh (pc + 3) lo (ov.toList ++ rest) τ) : WW p l e R s m args below meth c cells slots Q A D ca ad sh pc lo st0 σ := by
  intro H locs ls hP hD hS hl T hT X
  obtain ⟨v, st₀, t, T', L, h0, X', hL, e1, e2, ⟨⟨hv, hb1, hb2, hb3⟩, hz, hk⟩, go⟩ := hr H locs ls hP hD hl T hT X
  cases hv
  rw [h0] at hz hk
  have hsub : ∀ q, va_A (wd sh ca ad σ) H.size q → A q := by
    intro q hq
    rcases hq with ⟨i, x, hi⟩ | hq
    · exact hD.2 i _ hi
    · exact C.2.2.2.2.2.2.1 q (Nat.le_trans hS.1 hq)
  obtain ⟨t2, a1, b1⟩ := k T'.heap (locs ++ L) ls (by rw [e1]; exact hb1) (hb3.weaken (fun _ _ _ h => hsub _ h))
    ⟨Nat.le_trans hS.1 (by rw [e1]; exact hz), fun q h1 h2 => by rw [e1, hk q (Nat.lt_of_lt_of_le h1 hS.1) (fun z => h2 (hsub q z))]; exact hS.2.1 q h1 h2, fun q hq => by
      rcases List.mem_append.mp hq with h | h
      · exact hS.2.2 q h
      · exact hsub _ (hL q h)⟩ hl T' rfl X'
  exact ⟨t2, go t2 a1, b1⟩
end WWC
