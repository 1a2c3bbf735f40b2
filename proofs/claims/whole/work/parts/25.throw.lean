/-! methods that may throw: what they need of the start, their contracts, the rows of a throw and of calls of such methods -/
def isNX : Cond → Bool
  | .castable .. => true
  | .declares _ => true
  | _ => false
def NX : List Cond := lw_tbl.filter isNX
def NXs (U : State) : Prop := ∀ w ∈ NX, va_Nw w U
theorem NX_kind {w : Cond} (h : w ∈ NX) : isNX w = true := (List.mem_filter.mp h).2
theorem NXs.same {u U : State} (h : u.vm = U.vm) (hN : NXs u) : NXs U := fun w hw => va_Nw.same (by have := NX_kind hw; cases w <;> first | rfl | cases this) h (hN w hw)
theorem NXs.warm {s U : State} (hW : s.WarmedH U.vm) (hN : NXs s) : NXs U := fun w hw => by
  have h1 := hN w hw
  have h2 := NX_kind hw
  cases w with
  | castable a b => exact va_Nw.warmC hW h1
  | declares y => exact va_Nw.warmD hW h1
  | _ => cases h2
def STR : List (Nat × String) := [(42, "a side outside 1 .. 8"), (47, "a weight outside 0 .. 100"), (55, "no room for another piece"), (220, "no such piece"), (66, "marks outside 0 .. 3"), (76, "a limit outside -1 .. 1000"), (81, "a rank outside 0 .. 9"), (94, "a share outside 0 .. 100"), (99, "steps outside 0 .. 3000"), (138, "what outside 0 .. 6"), (150, "not two pieces of the plan"), (162, "the piece is not in the plan"), (181, "no such cell"), (191, "no piece is in the plan")]
def STs (U : State) : Prop := ∀ q ∈ STR, ∃ sa : Nat, vk_R RX3 q.1 q.2 sa U
theorem STs.same {u U : State} (h : U.vm = u.vm) (hS : STs u) : STs U := fun q hq => (hS q hq).elim fun sa h1 => ⟨sa, vk_R.same h h1⟩
theorem STs.warm {s U : State} (hW : s.WarmedH U.vm) (hS : STs s) : STs U := fun q hq => (hS q hq).elim fun sa h1 => ⟨sa, vk_R.warm hW h1⟩
def XS (A : Nat → Prop) (U : State) (H : Heap) : Prop := vx_Zq Bundle.tN "UNASSIGNED_STACK" Bundle.steD A U H ∧ vx_Zq Bundle.tN "SUPPRESSED_SENTINEL" Bundle.listD A U H
def XE (A : Nat → Prop) (U : State) (H : Heap) : Prop := NXs U ∧ STs U ∧ XS A U H
theorem XE.go {A B : Nat → Prop} {s U : State} {H : Heap} {locs : List Loc} (h : XE A s s.heap) (hW : s.WarmedH U.vm) (hS : va_S A s.heap H locs) (hU : U.heap = H) (hBA : ∀ q, B q → A q) : XE B U U.heap := by
  rw [hU]
  exact ⟨h.1.warm hW, h.2.1.warm hW, ((vx_Zq.moved hW.alike h.2.2.1).kept hS.2.1).narrow hBA, ((vx_Zq.moved hW.alike h.2.2.2).kept hS.2.1).narrow hBA⟩
theorem XE.calling {A : Nat → Prop} {U : State} {g : JFrame} {mk : MethodId} {a : Array Value} (h : XE A U U.heap) : XE A (U.calling g mk a) (U.calling g mk a).heap :=
  ⟨NXs.same (u := U) (U := U.calling g mk a) rfl h.1, STs.same (u := U) (U := U.calling g mk a) rfl h.2.1, vx_Zq.moved (u := U) (U := U.calling g mk a) (Vm.Alike.refl U.vm) h.2.2.1, vx_Zq.moved (u := U) (U := U.calling g mk a) (Vm.Alike.refl U.vm) h.2.2.2⟩
abbrev RES : Type := (Option Value × St) ⊕ (String × St)
def rmx (k c : Nat) : Room := { frames := k, cells := c, slots := 6 * c, locals := 40 * k }
def PrT (D : va_G) (ca : Nat → ClassId) (ad : Nat → Nat) (sh : List sO) (av : List Value) (σ : St) (sz : Nat) : Array Value → State → Prop := va_Pc av (fun U => U.heap.size = sz ∧ va_P D vwCl (wd sh ca ad σ) U.heap ∧ va_K D vwCl (tys ca) U ∧ va_D (fun _ => True) (wd sh ca ad σ) ∧ NWs U ∧ XE (va_A (wd sh ca ad σ) sz) U U.heap)
def QT (D : va_G) (ca : Nat → ClassId) (ad : Nat → Nat) (sh : List sO) (A : Nat → Prop) (res : RES) : Array Value → State → Outcome → State → Prop := fun _ st oc t => (∃ (ov : Option Value) (τ : St), res = .inl (ov, τ) ∧ oc = .returned ov ∧ va_P D vwCl (wd sh ca ad τ) t.heap ∧ va_K D vwCl (tys ca) t ∧ va_D A (wd sh ca ad τ)) ∧ va_F A st t
def XT (D : va_G) (ca : Nat → ClassId) (ad : Nat → Nat) (sh : List sO) (A : Nat → Prop) (res : RES) : String → State → State → Prop := fun E st t => (∃ τ : St, res = .inr (E, τ) ∧ va_P D vwCl (wd sh ca ad τ) t.heap ∧ va_K D vwCl (tys ca) t ∧ va_D A (wd sh ca ad τ)) ∧ va_F A st t
def cT (l : Launch) (y : MethodName) (cw : Cond) (rm : Room) (D : va_G) (ca : Nat → ClassId) (ad : Nat → Nat) (sh : List sO) (av : List Value) (σ : St) (res : RES) (nc : Nat) : Prop :=
  ∀ sz : Nat, vx_Met l y (cw :: WS) rm (PrT D ca ad sh av σ sz) (QT D ca ad sh (va_A (wd sh ca ad σ) sz) res) (XT D ca ad sh (va_A (wd sh ca ad σ) sz) res) nc (6 * nc) (va_A (wd sh ca ad σ) sz)
def ET (D : va_G) (ca : Nat → ClassId) (ad : Nat → Nat) (sh : List sO) (A : Nat → Prop) (below : List Frame) (args : Array Value) (s : State) (res : RES) (nc : Nat) : State → Prop := vx_MQ below (QT D ca ad sh A res) (XT D ca ad sh A res) args s nc (6 * nc) A
theorem cT.intro2 {l : Launch} {y : MethodName} {cc : ByteArray} {nL nc : Nat} {ret : Option FieldType} {rm : Room} {D : va_G} {ca : Nat → ClassId} {ad : Nat → Nat} {sh : List sO} {av : List Value} {σ : St} {res : RES} {own : String} {lo : List (Option Value)}
    (hy : plainName y.cls = true) (hown : y.cls = own) (hc : ∀ v ∈ av, v.category = 1) (hn : av.length ≤ nL) (hlo : lo0 av nL = lo)
    (k : ∀ (p : Program) (e : Env) (s : State) (m : MethodId) (args : Array Value) (below : List Frame) (meth : Method) (c : Code) (A : Nat → Prop), CX p s m args c D ca A own cc nL → meth.sig.returnType = ret → meth.locks = false → (∀ x ∈ c.exceptionTable.toList, False) → XE A s s.heap →
      WW p l e rm s m args below meth c 0 0 (ET D ca ad sh A below args s res nc) A D ca ad sh 0 lo [] σ) : cT l y (.code y cc nL ret) rm D ca ad sh av σ res nc := by
  subst hlo
  intro sz
  refine vx_ofW (cc := cc) (maxL := nL) (ret := ret) hy rfl ?_
  intro p e s m args below meth c s₁ B hml hout hv
  obtain ⟨rfl, hsz, hP, hK, hD0, hNW, hXE⟩ := hv
  have hts := atoms_spec (ws := .code y cc nL ret :: WS) B.pre
  have ho : s.vm.findClass own = some m.cls := by rw [← hown]; exact findClass_of_methodNamed B.named
  subst hsz
  have hA : ∀ q : Nat, s.heap.size ≤ q → va_A (wd sh ca ad σ) s.heap.size q := fun q h => Or.inr h
  rw [lg_entry_eq]
  exact k p e s m _ below meth c _ ⟨B.exec, B.bytes, hml, ho, fun w hw => hts w (List.mem_cons_of_mem _ hw), hK, hA, hNW⟩ B.returns B.notSynchronized hout hXE s.heap [] _ hP hD0.self va_S.rf (lh_entry hc hn)
/-- the words of 'throw new E("text")' in own -/
def TH (ik is ic : Nat) (E text : String) (names : List String) : Prop :=
  Cond.classLink RX3 ik E ∈ WS ∧ Cond.initialized E ∈ WS ∧ (is, text) ∈ STR ∧ (∀ w ∈ vx_atS RX3 ic E names, w ∈ WS ∨ w ∈ NX) ∧ (∀ w ∈ Cond.classLink RX3 ik E :: Cond.initialized E :: vx_atS RX3 ic E names, vx_ot w = true) ∧ Bundle.fit E = true ∧ ∀ n ∈ names, Bundle.fit n = true
section WWT
variable {p : Program} {l : Launch} {e : Env} {R : Room} {s : State} {m : MethodId} {args : Array Value} {below : List Frame} {meth : Method} {c : Code} {cells slots nc : Nat} {Q : State → Prop} {A : Nat → Prop} {D : va_G} {ca : Nat → ClassId} {ad : Nat → Nat} {sh : List sO} {own : String} {cc : ByteArray} {nL pc : Nat} {lo : List (Option Value)} {st : List Value} {σ τ : St} {ov : Option Value} {res : RES}
theorem t_iret (C : CX p s m args c D ca A own cc nL) {v : Int32} (hr : meth.sig.returnType = some .int) (hlocks : meth.locks = false) (d : decode cc pc = .ok (.ireturn, 1)) (hcs : cells ≤ nc ∧ slots ≤ 6 * nc) (hv : res = .inl (some (.int v), σ)) : WW p l e R s m args below meth c cells slots (ET D ca ad sh A below args s res nc) A D ca ad sh pc lo [.int v] σ := by
  intro H locs ls hP hD hS hl
  refine W.widen hcs.1 hcs.2 (vx_ret ?_)
  exact W.iret (Qc := QT D ca ad sh A res) C.1 C.2.1 hr (fun t ht hW => ⟨⟨_, σ, hv, rfl, by rw [ht]; exact hP, va_K.moved hW.alike C.2.2.2.2.2.1, hD⟩, hS.F ht⟩) hS.2.2 d hlocks
theorem t_zret (C : CX p s m args c D ca A own cc nL) {v : Int32} (hr : meth.sig.returnType = some .boolean) (hlocks : meth.locks = false) (d : decode cc pc = .ok (.ireturn, 1)) (h01 : v = 0 ∨ v = 1) (hcs : cells ≤ nc ∧ slots ≤ 6 * nc) (hv : res = .inl (some (.int v), σ)) : WW p l e R s m args below meth c cells slots (ET D ca ad sh A below args s res nc) A D ca ad sh pc lo [.int v] σ := by
  intro H locs ls hP hD hS hl
  refine W.widen hcs.1 hcs.2 (vx_ret ?_)
  exact W.zret (Qc := QT D ca ad sh A res) (ty := .boolean) C.1 C.2.1 hr (by show Value.int (v &&& 1) = _; rw [i_and1 h01]) (fun t ht hW => ⟨⟨_, σ, hv, rfl, by rw [ht]; exact hP, va_K.moved hW.alike C.2.2.2.2.2.1, hD⟩, hS.F ht⟩) hS.2.2 d hlocks
theorem t_vret (C : CX p s m args c D ca A own cc nL) (hr : meth.sig.returnType = none) (hlocks : meth.locks = false) (d : decode cc pc = .ok (.return_, 1)) (hcs : cells ≤ nc ∧ slots ≤ 6 * nc) (hv : res = .inl (none, σ)) : WW p l e R s m args below meth c cells slots (ET D ca ad sh A below args s res nc) A D ca ad sh pc lo [] σ := by
  intro H locs ls hP hD hS hl
  refine W.widen hcs.1 hcs.2 (vx_ret ?_)
  exact W.vret (Qc := QT D ca ad sh A res) C.1 C.2.1 hr (fun t ht hW => ⟨⟨_, σ, hv, rfl, by rw [ht]; exact hP, va_K.moved hW.alike C.2.2.2.2.2.1, hD⟩, hS.F ht⟩) hS.2.2 d hlocks
theorem t_aret (C : CX p s m args c D ca A own cc nL) {a : Nat} {Cn : String} (hr : meth.sig.returnType = some (.object Cn)) (hlocks : meth.locks = false) (d : decode cc pc = .ok (.areturn, 1)) (hcs : cells ≤ nc ∧ slots ≤ 6 * nc) (hv : res = .inl (some (.ref a), σ)) : WW p l e R s m args below meth c cells slots (ET D ca ad sh A below args s res nc) A D ca ad sh pc lo [.ref a] σ := by
  intro H locs ls hP hD hS hl
  refine W.widen hcs.1 hcs.2 (vx_ret ?_)
  exact W.aret (Qc := QT D ca ad sh A res) C.1 C.2.1 hr (Or.inl ⟨_, rfl⟩) (Or.inr ⟨_, rfl⟩) (fun t ht hW => ⟨⟨_, σ, hv, rfl, by rw [ht]; exact hP, va_K.moved hW.alike C.2.2.2.2.2.1, hD⟩, hS.F ht⟩) hS.2.2 d hlocks
theorem t_throw (C : CX p s m args c D ca A RX3 cc nL) (hlo : lo.length = nL) (hl : l.stackTraces = false) (hlocks : meth.locks = false) (hout : ∀ x ∈ c.exceptionTable.toList, False) (hXE : XE A s s.heap) {ik is ic : Nat} {E text : String} {names : List String} (hT : TH ik is ic E text names)
    (d0 : decode cc pc = .ok (.new ik, 3)) (d3 : decode cc (pc + 3) = .ok (.dup, 1)) (d4 : decode cc (pc + 4) = .ok (.ldc is, 2)) (d6 : decode cc (pc + 6) = .ok (.invokespecial ic, 3)) (d9 : decode cc (pc + 9) = .ok (.athrow, 1))
    (hR : names.length + 3 < R.frames ∧ (st.map fun v => v.category).sum + (13 * (names.length + 1) + 43) ≤ R.locals ∧ cells + 1 ≤ R.cells ∧ slots + 6 ≤ R.slots ∧ cells + 1 ≤ nc ∧ slots + 6 ≤ 6 * nc) (hv : res = .inr (E, σ)) : WW p l e R s m args below meth c cells slots (ET D ca ad sh A below args s res nc) A D ca ad sh pc lo st σ := by
  intro H locs ls hP hD hS hls
  obtain ⟨t1, t2, t3, t4, t5, t6, t7⟩ := hT
  obtain ⟨sa, hsa⟩ := hXE.2.1 _ t3
  refine vx_throwS (names := names) (text := text) (sa := sa) (A := A) C.1 C.2.1 hl C.2.2.2.1 t6 t7 (C.2.2.2.2.1 _ t1) (C.2.2.2.2.1 _ t2) hsa (fun w hw => ?_) t5 hXE.2.2.1 hXE.2.2.2 hS (by rw [hls.1, hlo, C.2.2.1]) d0 d3 d4 d6 d9 (fun x hx => (hout x hx).elim) hR.1 hR.2.1 hR.2.2.1 hR.2.2.2.1 hlocks (fun t ha hz hk => ?_) hS.2.2 hR.2.2.2.2.1 hR.2.2.2.2.2
  · rcases t4 w hw with h | h
    · exact C.2.2.2.2.1 w h
    · exact va_Nw.use (by have := NX_kind h; cases w <;> first | rfl | cases this) (hXE.1 w h)
  · refine ⟨⟨σ, hv, hP.kept (fun k q hq => hk _ (hP k q hq).lt), va_K.moved ha C.2.2.2.2.2.1, hD⟩, Nat.le_trans hS.1 hz, fun q h1 h2 => ?_⟩
    rw [hk q (Nat.lt_of_lt_of_le h1 hS.1)]
    exact hS.2.1 q h1 h2
variable {y : MethodName} {bytes : ByteArray} {maxL n index q ci kc : Nat} {ret : Option FieldType} {rm : Room} {Cn : String} {fs : List sF} {As rest st0 : List Value} {res1 : RES}
/-- a call of a method that may throw: either way -/
theorem t_call (C : CX p s m args c D ca A own cc nL) (hXE : XE A s s.heap) (hlo : lo.length = nL) (hM : cT l y (.code y bytes maxL ret) rm D ca ad sh (.ref (ad q) :: As) σ res1 kc) (hw : KV own index y Cn bytes maxL ret n)
    (hrm : rm.cells = kc ∧ rm.slots = 6 * kc) (hR : rm.frames + 1 ≤ R.frames ∧ 8 + (maxL + 11) + rm.locals ≤ R.locals) (hq : sh[q]? = some (.inl (ci, fs))) (hci : ∃ x : vw_C, vwCl[ci]? = some x ∧ x.1 = Cn)
    (hn : As.length = n) (hst : st0 = As.reverse ++ .ref (ad q) :: rest) (hW : (rest.map fun v => v.category).sum ≤ 8) (d : decode cc pc = .ok (.invokevirtual index, 3)) (hcs : cells + kc ≤ R.cells ∧ slots + 6 * kc ≤ R.slots)
    (k : ∀ (ov : Option Value) (τ : St), res1 = .inl (ov, τ) → WW p l e R s m args below meth c (cells + kc) (slots + 6 * kc) Q A D ca ad sh (pc + 3) lo (ov.toList ++ rest) τ)
    (kx : ∀ (E : String) (τ : St), res1 = .inr (E, τ) → ∀ (H : Heap) (locs : List Loc) (ls : Array Slot) (q9 : Nat) (ce : Cell), va_P D vwCl (wd sh ca ad τ) H → va_D A (wd sh ca ad τ) → va_S A s.heap H locs → lh ls lo → H[q9]? = some ce → ce.vm = .none → s.vm.findClass E = some ce.cls → vx_W p l e R s m args below meth c H locs (cells + kc) (slots + 6 * kc) Q (F0 m pc ls rest) q9) : WW p l e R s m args below meth c cells slots Q A D ca ad sh pc lo st0 σ := by
  intro H locs ls hP hD hS hl
  obtain ⟨x, hx1, hx2⟩ := hci
  subst hst
  have hsub : ∀ q, va_A (wd sh ca ad σ) H.size q → A q := by
    intro q hq
    rcases hq with ⟨i, x, hi⟩ | hq
    · exact hD.2 i _ hi
    · exact C.2.2.2.2.2.2.1 q (Nat.le_trans hS.1 hq)
  have hG : GoodIn WS (wsV own index Cn y (.code y bytes maxL ret :: WS)) := by
    intro w hw'
    have hin : w ∈ WS := by
      rcases List.mem_append.mp hw' with h | h
      · exact hw.1 w (by simp only [List.mem_cons, List.not_mem_nil, or_false] at h ⊢; rcases h with h | h | h | h <;> simp [h])
      · rcases List.mem_cons.mp h with h | h
        · exact hw.1 w (by simp [h])
        · exact h
    exact ⟨hin, good_of_word (WS_good w hin)⟩
  have hrun := vx_runV (p := p) (e := e) (below := below) (meth := meth) (H := H) (locs := locs) (cells := cells) (slots := slots) (g := F0 m pc ls (As.reverse ++ .ref (ad q) :: rest)) (b := ad q) (As := As) (rest := rest) (n := n) ⟨C.1, C.2.1, C.2.2.1, C.2.2.2.1, C.2.2.2.2.1⟩ (hM H.size) (cwV n C.2.2.2.2.1 hG rfl hrm.1 hrm.2 hw.2 hR)
    ⟨fun a U g mk q => by obtain ⟨q0, q1, qP, qK, qD, qN, qX⟩ := q; exact ⟨q0, q1, qP, va_K.moved (u := U) (U := U.calling g mk a) (Vm.Alike.refl U.vm) qK, qD, NWs.same (u := U) (U := U.calling g mk a) rfl qN, qX.calling⟩, by have := va_recv C.2.2.2.2.2.1 hP hx1 (wd_at hq); rw [hx2] at this; exact this, fun U hU hW => ⟨rfl, by rw [hU], by rw [hU]; exact hP, va_K.moved hW.alike C.2.2.2.2.2.1, hD.weaken (fun _ _ _ _ => trivial), NWs.warm hW C.2.2.2.2.2.2.2, hXE.go hW hS hU hsub⟩⟩
    rfl hn (by show ls.size = _; rw [hl.1, hlo]) rfl (lv_room hW) d hcs
  intro T hT X
  rcases hrun T hT X with ⟨v, st₀, t, T', L, h0, X', hL, e1, e2, ⟨⟨ov, τ, hres, hv, hb1, hb2, hb3⟩, hF⟩, go⟩ | ⟨q9, st₀, t, T', L, E, ce, h0, X', hL, e1, e2, ⟨⟨τ, hres, hb1, hb2, hb3⟩, hF⟩, hce, hcv, hcl, go⟩
  · have hv2 := Outcome.returned.inj hv
    subst hv2
    obtain ⟨k1, k2, k3⟩ := vx_keep h0 e1 hS (fun q _ h => hsub q h) hsub hL hF
    obtain ⟨t2, a1, b1⟩ := k _ τ hres T'.heap (locs ++ L) ls (by rw [e1]; exact hb1) (hb3.weaken (fun _ _ _ h => hsub _ h)) k3 hl T' rfl X'
    exact ⟨t2, go t2 a1, b1⟩
  · obtain ⟨k1, k2, k3⟩ := vx_keep h0 e1 hS (fun q _ h => hsub q h) hsub hL hF
    obtain ⟨t2, a1, b1⟩ := kx E τ hres T'.heap (locs ++ L) ls q9 ce (by rw [e1]; exact hb1) (hb3.weaken (fun _ _ _ h => hsub _ h)) k3 hl (by rw [e1]; exact hce) hcv hcl T' rfl X'
    exact ⟨t2, go.trans a1, b1⟩
/-- not caught here: it goes on to the caller -/
theorem t_out (C : CX p s m args c D ca A own cc nL) (hlocks : meth.locks = false) (hout : ∀ x ∈ c.exceptionTable.toList, False) (hcs : cells ≤ nc ∧ slots ≤ 6 * nc) {E : String} (hv : res = .inr (E, τ)) : ∀ (H : Heap) (locs : List Loc) (ls : Array Slot) (q9 : Nat) (ce : Cell), va_P D vwCl (wd sh ca ad τ) H → va_D A (wd sh ca ad τ) → va_S A s.heap H locs → lh ls lo → H[q9]? = some ce → ce.vm = .none → s.vm.findClass E = some ce.cls → vx_W p l e R s m args below meth c H locs cells slots (ET D ca ad sh A below args s res nc) (F0 m pc ls rest) q9 := by
  intro H locs ls q9 ce hP hD hS hl hce hcv hcl
  exact vx_out (E := E) (fun x hx => (hout x hx).elim) hlocks hce hcv hcl (fun t ht ha => ⟨⟨τ, hv, by rw [ht]; exact hP, va_K.moved ha C.2.2.2.2.2.1, hD⟩, hS.F ht⟩) hS.2.2 hcs.1 hcs.2
end WWT
