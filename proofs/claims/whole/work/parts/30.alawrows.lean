/-! the law: its helpers (methods with a table that catch all that is thrown), its rows -/
def NCL : List (String × String) := [("java/lang/IllegalArgumentException", "java/util/NoSuchElementException"), ("java/lang/UnsupportedOperationException", "java/lang/IllegalArgumentException"), ("java/lang/IllegalStateException", "java/util/NoSuchElementException"), ("java/lang/ArithmeticException", "java/util/NoSuchElementException")]
def NCs (U : State) : Prop := ∀ q ∈ NCL, va_Nc q.1 q.2 U
theorem NCs.moved {u U : State} (h : u.vm.Alike U.vm) (hN : NCs u) : NCs U := fun q hq => va_Nc.moved h (hN q hq)
def PrH (D : va_G) (ca : Nat → ClassId) (ad : Nat → Nat) (sh : List sO) (av : List Value) (σ : St) (sz : Nat) : Array Value → State → Prop := va_Pc av (fun U => U.heap.size = sz ∧ va_P D vwCl (wd sh ca ad σ) U.heap ∧ va_K D vwCl (tys ca) U ∧ va_D (fun _ => True) (wd sh ca ad σ) ∧ NWs U ∧ XE (va_A (wd sh ca ad σ) sz) U U.heap ∧ NCs U)
def cH (l : Launch) (y : MethodName) (cw : Cond) (rm : Room) (D : va_G) (ca : Nat → ClassId) (ad : Nat → Nat) (sh : List sO) (av : List Value) (σ : St) (ov : Option Value) (τ : St) (nc : Nat) : Prop :=
  ∀ sz : Nat, Met l y (cw :: WS) rm (PrH D ca ad sh av σ sz) (QV D ca ad sh (va_A (wd sh ca ad σ) sz) ov τ) nc (6 * nc) (va_A (wd sh ca ad σ) sz)
def EH (D : va_G) (ca : Nat → ClassId) (ad : Nat → Nat) (sh : List sO) (A : Nat → Prop) (below : List Frame) (args : Array Value) (s : State) (ov : Option Value) (τ : St) (nc : Nat) : State → Prop := MQ below (QV D ca ad sh A ov τ) args s nc (6 * nc) A
theorem cH.intro {l : Launch} {y : MethodName} {cc : ByteArray} {nL nc : Nat} {ret : Option FieldType} {hh : List (Nat × Nat × Nat × Nat)} {rm : Room} {D : va_G} {ca : Nat → ClassId} {ad : Nat → Nat} {sh : List sO} {av : List Value} {σ : St} {ov : Option Value} {τ : St} {own : String} {lo : List (Option Value)}
    (hy : plainName y.cls = true) (hown : y.cls = own) (hc : ∀ v ∈ av, v.category = 1) (hn : av.length ≤ nL) (hlo : lo0 av nL = lo)
    (k : ∀ (p : Program) (e : Env) (s : State) (m : MethodId) (args : Array Value) (below : List Frame) (meth : Method) (c : Code) (A : Nat → Prop), CX p s m args c D ca A own cc nL → meth.sig.returnType = ret → meth.locks = false → c.exceptionTable.toList = tableOf hh → XE A s s.heap → NCs s →
      WW p l e rm s m args below meth c 0 0 (EH D ca ad sh A below args s ov τ nc) A D ca ad sh 0 lo [] σ) : cH l y (.codeWith y cc nL ret hh) rm D ca ad sh av σ ov τ nc := by
  subst hlo
  intro sz
  refine va_MetW (cc := cc) (maxL := nL) (ret := ret) (hh := hh) hy rfl ?_
  intro p e s m args below meth c s₁ B hml hv
  obtain ⟨rfl, hsz, hP, hK, hD0, hNW, hXE, hNC⟩ := hv
  have hts := atoms_spec (ws := .codeWith y cc nL ret hh :: WS) B.pre
  have ho : s.vm.findClass own = some m.cls := by rw [← hown]; exact findClass_of_methodNamed B.named
  subst hsz
  have hA : ∀ q : Nat, s.heap.size ≤ q → va_A (wd sh ca ad σ) s.heap.size q := fun q h => Or.inr h
  rw [lg_entry_eq]
  exact k p e s m _ below meth c _ ⟨B.exec, B.bytes, hml, ho, fun w hw => hts w (List.mem_cons_of_mem _ hw), hK, hA, hNW⟩ B.returns B.notSynchronized (vx_table (x := y) B (hts _ List.mem_cons_self)) hXE hNC s.heap [] _ hP hD0.self va_S.rf (lh_entry hc hn)
/-- the words of a call of a helper -/
def KH (own : String) (index : Nat) (y : MethodName) (bytes : ByteArray) (maxL : Nat) (ret : Option FieldType) (hh : List (Nat × Nat × Nat × Nat)) (n : Nat) : Prop :=
  (∀ w ∈ ([.methodLink own index y, .static y, .initialized y.cls, .codeWith y bytes maxL ret hh] : List Cond), w ∈ WS) ∧ y.cls ≠ "java/lang/invoke/MethodHandle" ∧ y.cls ≠ "java/lang/invoke/VarHandle" ∧ (parseMethodDescriptor y.desc).map (fun d => d.parameters.length) = some n
section WWH
variable {p : Program} {l : Launch} {e : Env} {R : Room} {s : State} {m : MethodId} {args : Array Value} {below : List Frame} {meth : Method} {c : Code} {cells slots nc : Nat} {Q : State → Prop} {A : Nat → Prop} {D : va_G} {ca : Nat → ClassId} {ad : Nat → Nat} {sh : List sO} {own : String} {cc : ByteArray} {nL pc : Nat} {lo : List (Option Value)} {st : List Value} {σ τ : St} {ov : Option Value}
theorem h_iret (C : CX p s m args c D ca A own cc nL) {v : Int32} (hr : meth.sig.returnType = some .int) (hlocks : meth.locks = false) (d : decode cc pc = .ok (.ireturn, 1)) (hcs : cells ≤ nc ∧ slots ≤ 6 * nc) (hv : ov = some (.int v)) (hσ : τ = σ) : WW p l e R s m args below meth c cells slots (EH D ca ad sh A below args s ov τ nc) A D ca ad sh pc lo [.int v] σ := by
  subst hv; subst hσ
  intro H locs ls hP hD hS hl
  refine W.widen hcs.1 hcs.2 ?_
  exact W.iret (Qc := QV D ca ad sh A (some (.int v)) τ) C.1 C.2.1 hr (fun t ht hW => ⟨⟨rfl, by rw [ht]; exact hP, va_K.moved hW.alike C.2.2.2.2.2.1, hD⟩, hS.F ht⟩) hS.2.2 d hlocks
theorem s_i2l (C : CX p s m args c D ca A own cc nL) {x : Int32} (d : decode cc pc = .ok (.i2l, 1)) (k : WW p l e R s m args below meth c cells slots Q A D ca ad sh (pc + 1) lo (.long x.toInt64 :: st) σ) : WW p l e R s m args below meth c cells slots Q A D ca ad sh pc lo (.int x :: st) σ := fun H locs ls hP hD hS hl => lv_i2l C.1 C.2.1 d rfl (k H locs ls hP hD hS hl)
theorem s_lconst (C : CX p s m args c D ca A own cc nL) {n : Fin 2} {v : Int64} (d : decode cc pc = .ok (.lconst n, 1)) (hv : Int64.ofNat (n : Nat) = v) (k : WW p l e R s m args below meth c cells slots Q A D ca ad sh (pc + 1) lo (.long v :: st) σ) : WW p l e R s m args below meth c cells slots Q A D ca ad sh pc lo st σ := fun H locs ls hP hD hS hl => lv_lconst C.1 C.2.1 d hv (k H locs ls hP hD hS hl)
theorem s_lcmp (C : CX p s m args c D ca A own cc nL) {x y : Int64} (d : decode cc pc = .ok (.lcmp, 1)) (k : WW p l e R s m args below meth c cells slots Q A D ca ad sh (pc + 1) lo (.int (lg_cmp x y) :: st) σ) : WW p l e R s m args below meth c cells slots Q A D ca ad sh pc lo (.long y :: .long x :: st) σ := fun H locs ls hP hD hS hl => W.lcmp C.1 C.2.1 d (k H locs ls hP hD hS hl)
theorem s_lald (C : CX p s m args c D ca A own cc nL) {t n q : Nat} {x : Int32} (hq : sh[q]? = some (.inr (t, n, some none))) (ht : (tys ca)[t]? = some (ca t, .long)) (hx : inb x n = true) (d : decode cc pc = .ok (.laload, 1)) (k : WW p l e R s m args below meth c cells slots Q A D ca ad sh (pc + 1) lo (.long (σ q (ix x)).toInt64 :: st) σ) : WW p l e R s m args below meth c cells slots Q A D ca ad sh pc lo (.int x :: .ref (ad q) :: st) σ := fun H locs ls hP hD hS hl => va_lald C.1 C.2.1 C.2.2.2.2.2.1 hP q t (wd_at hq) ht (inb_in hx) d (k H locs ls hP hD hS hl)
theorem s_last (C : CX p s m args c D ca A own cc nL) {t n q : Nat} {x v : Int32} (hq : sh[q]? = some (.inr (t, n, some none))) (ht : (tys ca)[t]? = some (ca t, .long)) (hx : inb x n = true) (d : decode cc pc = .ok (.lastore, 1)) (k : WW p l e R s m args below meth c cells slots Q A D ca ad sh (pc + 1) lo st (su σ q (ix x) v)) : WW p l e R s m args below meth c cells slots Q A D ca ad sh pc lo (.long v.toInt64 :: .int x :: .ref (ad q) :: st) σ := by
  intro H locs ls hP hD hS hl
  refine va_last C.1 C.2.1 C.2.2.2.2.2.1 hP hD hS q t (wd_at hq) ht (inb_in hx) d (fun H1 locs1 hP1 hD1 hS1 => ?_)
  have he : (wd sh ca ad σ).set q (ad q, .inl (ca t, n, .inr (.inl (vp_updL (fun j => (σ q j).toInt64) x.toNatClampNeg v.toInt64)))) = wd sh ca ad (su σ q (ix x) v) := by
    refine wd_set hq ?_ (fun a ha => su_row ha)
    rw [su_at]
    show (Sum.inl (ca t, n, Sum.inr (Sum.inl _)) : va_E) = Sum.inl (ca t, n, Sum.inr (Sum.inl _))
    congr 5
    funext j
    simp only [vp_updL, upd, ix]
    by_cases h : j = x.toNatClampNeg <;> simp [h]
  rw [he] at hP1 hD1
  exact k H1 locs1 ls hP1 hD1 hS1 hl
/-- caught by the row x of this method's table; the rows ahead of it don't take it -/
theorem h_catch (C : CX p s m args c D ca A own cc nL) (hXE : XE A s s.heap) {E name : String} {rest : List Value} (pre : List ExceptionTableEntry) (x : ExceptionTableEntry) (suf : List ExceptionTableEntry) (hsplit : c.exceptionTable.toList = pre ++ x :: suf)
    (hpass : ∀ z ∈ pre, z.catchType ≠ 0 ∧ ∃ nm : String, Cond.classLink own z.catchType nm ∈ WS ∧ va_Nc E nm s) (hx : covers x pc = true) (h0 : x.catchType ≠ 0) (hlink : Cond.classLink own x.catchType name ∈ WS) (hcast : Cond.castable E name ∈ NX)
    (k : ∀ q9 : Nat, WW p l e R s m args below meth c cells slots Q A D ca ad sh x.handlerPc lo [.ref q9] τ) : ∀ (H : Heap) (locs : List Loc) (ls : Array Slot) (q9 : Nat) (ce : Cell), va_P D vwCl (wd sh ca ad τ) H → va_D A (wd sh ca ad τ) → va_S A s.heap H locs → lh ls lo → H[q9]? = some ce → ce.vm = .none → s.vm.findClass E = some ce.cls → vx_W p l e R s m args below meth c H locs cells slots Q (F0 m pc ls rest) q9 := by
  intro H locs ls q9 ce hP hD hS hl hce hcv hcl
  exact vx_catch C.2.2.2.1 pre x suf hsplit (fun z hz => Or.inr ⟨(hpass z hz).1, (hpass z hz).2.choose, C.2.2.2.2.1 _ (hpass z hz).2.choose_spec.1, (hpass z hz).2.choose_spec.2⟩) hx h0 (C.2.2.2.2.1 _ hlink) (va_Nw.use rfl (hXE.1 _ hcast)) hce hcv hcl (k q9 H locs ls hP hD hS hl)
variable {y : MethodName} {bytes : ByteArray} {maxL n index kc : Nat} {ret : Option FieldType} {hh : List (Nat × Nat × Nat × Nat)} {rm : Room} {As rest st0 : List Value}
theorem s_callH (C : CX p s m args c D ca A own cc nL) (hXE : XE A s s.heap) (hNC : NCs s) (hlo : lo.length = nL) (hM : cH l y (.codeWith y bytes maxL ret hh) rm D ca ad sh As σ ov τ kc) (hw : KH own index y bytes maxL ret hh n)
    (hrm : rm.cells = kc ∧ rm.slots = 6 * kc) (hR : rm.frames + 1 ≤ R.frames ∧ 8 + (maxL + 11) + rm.locals ≤ R.locals)
    (hn : As.length = n) (hst : st0 = As.reverse ++ rest) (hW : (rest.map fun v => v.category).sum ≤ 8) (d : decode cc pc = .ok (.invokestatic index, 3)) (hcs : cells + kc ≤ R.cells ∧ slots + 6 * kc ≤ R.slots)
    (k : WW p l e R s m args below meth c (cells + kc) (slots + 6 * kc) Q A D ca ad sh (pc + 3) lo (ov.toList ++ rest) τ) : WW p l e R s m args below meth c cells slots Q A D ca ad sh pc lo st0 σ := by
  intro H locs ls hP hD hS hl
  subst hst
  have hsub : ∀ q, va_A (wd sh ca ad σ) H.size q → A q := by
    intro q hq
    rcases hq with ⟨i, x, hi⟩ | hq
    · exact hD.2 i _ hi
    · exact C.2.2.2.2.2.2.1 q (Nat.le_trans hS.1 hq)
  have hG : GoodIn WS (va_wsS own index y (.codeWith y bytes maxL ret hh :: WS)) := by
    intro w hw'
    have hin : w ∈ WS := by
      rcases List.mem_append.mp hw' with h | h
      · exact hw.1 w (by simp only [List.mem_cons, List.not_mem_nil, or_false] at h ⊢; rcases h with h | h | h <;> simp [h])
      · rcases List.mem_cons.mp h with h | h
        · exact hw.1 w (by simp [h])
        · exact h
    exact ⟨hin, good_of_word (WS_good w hin)⟩
  have hrun := vx_runSW (p := p) (e := e) (below := below) (meth := meth) (H := H) (locs := locs) (cells := cells) (slots := slots) (g := F0 m pc ls (As.reverse ++ rest)) (As := As) (rest := rest) (n := n) ⟨C.1, C.2.1, C.2.2.1, C.2.2.2.1, C.2.2.2.2.1⟩ (hM H.size) (vx_cwSW n C.2.2.2.2.1 hG rfl hrm.1 hrm.2 hw.2 hR)
    ⟨fun a U g mk q => by obtain ⟨q0, q1, qP, qK, qD, qN, qX, qC⟩ := q; exact ⟨q0, q1, qP, va_K.moved (u := U) (U := U.calling g mk a) (Vm.Alike.refl U.vm) qK, qD, NWs.same (u := U) (U := U.calling g mk a) rfl qN, qX.calling, NCs.moved (u := U) (U := U.calling g mk a) (Vm.Alike.refl U.vm) qC⟩, fun U hU hW => ⟨rfl, by rw [hU], by rw [hU]; exact hP, va_K.moved hW.alike C.2.2.2.2.2.1, hD.weaken (fun _ _ _ _ => trivial), NWs.warm hW C.2.2.2.2.2.2.2, hXE.go hW hS hU hsub, hNC.moved hW.alike⟩⟩
    rfl hn (by show ls.size = _; rw [hl.1, hlo]) rfl (lv_room hW) d hcs
  intro T hT X
  obtain ⟨v, st₀, t, T', L, h0, X', hL, e1, e2, ⟨⟨hv, hb1, hb2, hb3⟩, hF⟩, go⟩ := hrun T hT X
  cases hv
  obtain ⟨k1, k2, k3⟩ := vx_keep h0 e1 hS (fun q _ h => hsub q h) hsub hL hF
  obtain ⟨t2, a1, b1⟩ := k T'.heap (locs ++ L) ls (by rw [e1]; exact hb1) (hb3.weaken (fun _ _ _ h => hsub _ h)) k3 hl T' rfl X'
  exact ⟨t2, go t2 a1, b1⟩
theorem s_sld (C : CX p s m args c D ca A own cc nL) {b L : Nat} {xs : Nat → Int32} (hX : va_X b L xs s s.heap) (hbl : b < s.heap.size) (hbA : ¬ A b) {i : Int32} (hi : inb i L = true) (d : decode cc pc = .ok (.iaload, 1)) (k : WW p l e R s m args below meth c cells slots Q A D ca ad sh (pc + 1) lo (.int (xs (ix i)) :: st) σ) : WW p l e R s m args below meth c cells slots Q A D ca ad sh pc lo (.int i :: .ref b :: st) σ := fun H locs ls hP hD hS hl => va_sld C.1 C.2.1 hX hbl hbA hS (inb_in hi) d (k H locs ls hP hD hS hl)
theorem s_slen (C : CX p s m args c D ca A own cc nL) {b L : Nat} {xs : Nat → Int32} (hX : va_X b L xs s s.heap) (hbl : b < s.heap.size) (hbA : ¬ A b) (d : decode cc pc = .ok (.arraylength, 1)) (k : WW p l e R s m args below meth c cells slots Q A D ca ad sh (pc + 1) lo (.int (nI L) :: st) σ) : WW p l e R s m args below meth c cells slots Q A D ca ad sh pc lo (.ref b :: st) σ := fun H locs ls hP hD hS hl => va_slen C.1 C.2.1 hX hbl hbA hS d (k H locs ls hP hD hS hl)
theorem s_wide {k n : Nat} (h1 : cells ≤ k) (h2 : slots ≤ n) (kk : WW p l e R s m args below meth c k n Q A D ca ad sh pc lo st σ) : WW p l e R s m args below meth c cells slots Q A D ca ad sh pc lo st σ := fun H locs ls hP hD hS hl => W.widen h1 h2 (kk H locs ls hP hD hS hl)
end WWH
