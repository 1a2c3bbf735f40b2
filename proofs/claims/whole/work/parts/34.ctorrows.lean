/-! constructors: worlds as plain lists of cells, that grow -/
def WR (p : Program) (l : Launch) (e : Env) (R : Room) (s : State) (m : MethodId) (args : Array Value) (below : List Frame) (meth : Method) (c : Code) (cells slots : Nat) (Q : State → Prop) (A : Nat → Prop) (D : va_G) (pc : Nat) (lo : List (Option Value)) (st : List Value) (ws : va_W) : Prop :=
  ∀ (H : Heap) (locs : List Loc) (ls : Array Slot), va_P D vwCl ws H → va_D A ws → va_S A s.heap H locs → lh ls lo → W p l e R s m args below meth c H locs cells slots Q (F0 m pc ls st)
def KX (U : State) : Prop := va_Nw (.methodLinkNest RX1 27 yX2_init "PackingSearch") U ∧ va_AO "PackingSearch$Piece" U ∧ va_AO "PackingSearch$Spot" U
theorem KX.same {u U : State} (h : u.vm = U.vm) (hK : KX u) : KX U := ⟨va_Nw.same rfl h hK.1, va_AO.moved (by rw [h]; exact Vm.Alike.refl _) hK.2.1, va_AO.moved (by rw [h]; exact Vm.Alike.refl _) hK.2.2⟩
theorem KX.warm {s U : State} (hW : s.WarmedH U.vm) (hK : KX s) : KX U := ⟨va_Nw.warmM hW hK.1, va_AO.moved hW.alike hK.2.1, va_AO.moved hW.alike hK.2.2⟩
def PrK (D : va_G) (ca : Nat → ClassId) (av : List Value) (ws : va_W) (sz : Nat) : Array Value → State → Prop := va_Pc av (fun U => U.heap.size = sz ∧ va_P D vwCl ws U.heap ∧ va_K D vwCl (tys ca) U ∧ va_D (fun _ => True) ws ∧ NWs U ∧ KX U)
def QK (D : va_G) (ca : Nat → ClassId) (A : Nat → Prop) (f : (Nat → Nat) → va_W) : Array Value → State → Outcome → State → Prop := fun _ st oc t => (oc = .returned none ∧ ∃ qs : Nat → Nat, va_P D vwCl (f qs) t.heap ∧ va_K D vwCl (tys ca) t ∧ va_D A (f qs)) ∧ va_F A st t
def cK (l : Launch) (y : MethodName) (cw : Cond) (rm : Room) (D : va_G) (ca : Nat → ClassId) (av : List Value) (ws : va_W) (f : (Nat → Nat) → va_W) (mc ms : Nat) : Prop :=
  ∀ sz : Nat, Met l y (cw :: WS) rm (PrK D ca av ws sz) (QK D ca (va_A ws sz) f) mc ms (va_A ws sz)
def EK (D : va_G) (ca : Nat → ClassId) (A : Nat → Prop) (below : List Frame) (args : Array Value) (s : State) (f : (Nat → Nat) → va_W) (mc ms : Nat) : State → Prop := MQ below (QK D ca A f) args s mc ms A
theorem cK.intro {l : Launch} {y : MethodName} {cc : ByteArray} {nL mc ms : Nat} {rm : Room} {D : va_G} {ca : Nat → ClassId} {av : List Value} {ws : va_W} {f : (Nat → Nat) → va_W} {own : String} {lo : List (Option Value)}
    (hy : plainName y.cls = true) (hown : y.cls = own) (hin : y.name = "<init>") (hc : ∀ v ∈ av, v.category = 1) (hn : av.length ≤ nL) (hlo : lo0 av nL = lo)
    (k : ∀ (p : Program) (e : Env) (s : State) (m : MethodId) (args : Array Value) (below : List Frame) (meth : Method) (c : Code) (A : Nat → Prop), CX p s m args c D ca A own cc nL → meth.sig.returnType = none → meth.locks = false → meth.name = "<init>" → KX s →
      WR p l e rm s m args below meth c 0 0 (EK D ca A below args s f mc ms) A D 0 lo [] ws) : cK l y (.code y cc nL none) rm D ca av ws f mc ms := by
  subst hlo
  intro sz
  refine Met.ofW (cc := cc) (maxL := nL) (ret := none) hy rfl ?_
  intro p e s m args below meth c s₁ B hml hv
  obtain ⟨rfl, hsz, hP, hK, hD0, hNW, hKX⟩ := hv
  have hts := atoms_spec (ws := .code y cc nL none :: WS) B.pre
  have ho : s.vm.findClass own = some m.cls := by rw [← hown]; exact findClass_of_methodNamed B.named
  have hnm : meth.name = "<init>" := by rw [← hin]; exact (name_of_methodNamed B.named B.method).1
  subst hsz
  rw [lg_entry_eq]
  exact k p e s m _ below meth c _ ⟨B.exec, B.bytes, hml, ho, fun w hw => hts w (List.mem_cons_of_mem _ hw), hK, fun q h => Or.inr h, hNW⟩ B.returns B.notSynchronized hnm hKX s.heap [] _ hP hD0.self va_S.rf (lh_entry hc hn)
theorem rng_left (wr wc : va_W) : (List.range wr.length).map (fun i => (wr ++ wc)[i]?) = wr.map some := by
  apply List.ext_getElem?
  intro i
  by_cases h : i < wr.length
  · simp [h, List.getElem?_append_left]
  · simp [h]
theorem rng_right (wr wc : va_W) : ((List.range wc.length).map (fun i => wr.length + i)).map (fun i => (wr ++ wc)[i]?) = wc.map some := by
  apply List.ext_getElem?
  intro i
  by_cases h : i < wc.length
  · simp [h]
  · simp [h]
theorem nd_range : ∀ n, va_nd (List.range n) = true := by
  intro n
  have key : ∀ (l : List Nat), l.Nodup → va_nd l = true := by
    intro l
    induction l with
    | nil => intro _; rfl
    | cons a l ih =>
      intro h
      simp only [va_nd, Bool.and_eq_true, decide_eq_true_eq]
      exact ⟨(List.nodup_cons.mp h).1, ih (List.nodup_cons.mp h).2⟩
  exact key _ List.nodup_range
theorem join2 {A0 : Nat → Prop} {D : va_G} {wr wc w1 : va_W} {H H1 : Heap} (hP : va_P D vwCl (wr ++ wc) H) (hD : va_D A0 (wr ++ wc)) (hk : ∀ q : Nat, q < H.size → ¬ va_A wc H.size q → H1[q]? = H[q]?) (hF : ∀ q, va_A wc H.size q → A0 q) (hP1 : va_P D vwCl w1 H1) (hD1 : va_D (va_A wc H.size) w1) : va_P D vwCl (wr ++ w1) H1 ∧ va_D A0 (wr ++ w1) :=
  va_join hP hD ((List.range wc.length).map (fun i => wr.length + i)) (List.range wr.length) (rng_right wr wc) (rng_left wr wc) (nd_range _) (fun i hi hj => by
    obtain ⟨j, -, e⟩ := List.mem_map.mp hj
    have := List.mem_range.mp hi
    omega) hk hF hP1 hD1
theorem part2 {A0 : Nat → Prop} {D : va_G} {wr wc : va_W} {H : Heap} (hP : va_P D vwCl (wr ++ wc) H) (hD : va_D A0 (wr ++ wc)) : va_P D vwCl wc H ∧ va_D A0 wc := by
  constructor
  · intro k q hq
    exact hP (wr.length + k) q (by rw [List.getElem?_append_right (by omega)]; simpa using hq)
  · refine ⟨fun i j x y hi hj hxy => ?_, fun k q hq => hD.2 (wr.length + k) q (by rw [List.getElem?_append_right (by omega)]; simpa using hq)⟩
    have := hD.1 (wr.length + i) (wr.length + j) x y (by rw [List.getElem?_append_right (by omega)]; simpa using hi) (by rw [List.getElem?_append_right (by omega)]; simpa using hj) hxy
    omega
theorem arr_one {U : State} {ca : Nat → ClassId} {D : va_G} (hK : va_K D vwCl (tys ca) U) {cA : ClassId} {tt : List (ClassId × FieldType)} {ty : FieldType} {t : Nat} (hK2 : va_K D vwCl (tt ++ [(cA, ty)]) U) (ht : (tys ca)[t]? = some (ca t, ty)) : cA = ca t := by
  have h1 := (hK.2 t _ ht).2
  have h2 := (hK2.2 tt.length (cA, ty) (by simp)).2
  cases ty with
  | object C =>
    obtain ⟨_, _, _, _, _, e1⟩ := h1
    obtain ⟨_, _, _, _, _, e2⟩ := h2
    exact Option.some.inj (e2.symm.trans e1)
  | _ => exact Option.some.inj (Eq.trans (Eq.symm h2) h1)
section WRR
variable {p : Program} {l : Launch} {e : Env} {R : Room} {s : State} {m : MethodId} {args : Array Value} {below : List Frame} {meth : Method} {c : Code} {cells slots : Nat} {Q : State → Prop} {A : Nat → Prop} {D : va_G} {ca : Nat → ClassId} {own : String} {cc : ByteArray} {nL pc : Nat} {lo : List (Option Value)} {st : List Value} {ws : va_W}

theorem r_iconst (C : CX p s m args c D ca A own cc nL) {n : Int} {v : Int32} (d : decode cc pc = .ok (.iconst n, 1)) (hv : Int32.ofInt n = v) (k : WR p l e R s m args below meth c cells slots Q A D (pc + 1) lo (.int v :: st) ws) : WR p l e R s m args below meth c cells slots Q A D pc lo st ws := fun H locs ls hP hD hS hl => lv_iconst C.1 C.2.1 d hv (k H locs ls hP hD hS hl)
theorem r_bipush (C : CX p s m args c D ca A own cc nL) {n : Int} {v : Int32} (d : decode cc pc = .ok (.bipush n, 2)) (hv : (Int8.ofInt n).toInt32 = v) (k : WR p l e R s m args below meth c cells slots Q A D (pc + 2) lo (.int v :: st) ws) : WR p l e R s m args below meth c cells slots Q A D pc lo st ws := fun H locs ls hP hD hS hl => lv_bipush C.1 C.2.1 d hv (k H locs ls hP hD hS hl)
theorem r_sipush (C : CX p s m args c D ca A own cc nL) {n : Int} {v : Int32} (d : decode cc pc = .ok (.sipush n, 3)) (hv : (Int16.ofInt n).toInt32 = v) (k : WR p l e R s m args below meth c cells slots Q A D (pc + 3) lo (.int v :: st) ws) : WR p l e R s m args below meth c cells slots Q A D pc lo st ws := fun H locs ls hP hD hS hl => lv_sipush C.1 C.2.1 d hv (k H locs ls hP hD hS hl)
theorem r_iloadn (C : CX p s m args c D ca A own cc nL) {q : Fin 4} {x : Int32} (d : decode cc pc = .ok (.iload_n q, 1)) (hx : lo[(q : Nat)]? = some (some (.int x))) (k : WR p l e R s m args below meth c cells slots Q A D (pc + 1) lo (.int x :: st) ws) : WR p l e R s m args below meth c cells slots Q A D pc lo st ws := fun H locs ls hP hD hS hl => lv_iload_n C.1 C.2.1 d rfl (hl.2.2.1 _ _ hx) (k H locs ls hP hD hS hl)
theorem r_iload (C : CX p s m args c D ca A own cc nL) {i : Nat} {x : Int32} (d : decode cc pc = .ok (.iload i, 2)) (hx : lo[i]? = some (some (.int x))) (k : WR p l e R s m args below meth c cells slots Q A D (pc + 2) lo (.int x :: st) ws) : WR p l e R s m args below meth c cells slots Q A D pc lo st ws := fun H locs ls hP hD hS hl => lv_iload C.1 C.2.1 d (hl.2.2.1 _ _ hx) (k H locs ls hP hD hS hl)
theorem r_istoren (C : CX p s m args c D ca A own cc nL) {q : Fin 4} {x : Int32} {lo' : List (Option Value)} (d : decode cc pc = .ok (.istore_n q, 1)) (hi : (q : Nat) < lo.length) (hs : lo.set q (some (.int x)) = lo') (k : WR p l e R s m args below meth c cells slots Q A D (pc + 1) lo' st ws) : WR p l e R s m args below meth c cells slots Q A D pc lo (.int x :: st) ws := fun H locs ls hP hD hS hl => lv_istore_n C.1 C.2.1 d rfl (lh_has hl) hi rfl (fun ls' h' => k H locs ls' hP hD hS (hs ▸ lh_set hl hi rfl h'))
theorem r_istore (C : CX p s m args c D ca A own cc nL) {i : Nat} {x : Int32} {lo' : List (Option Value)} (d : decode cc pc = .ok (.istore i, 2)) (hi : i < lo.length) (hs : lo.set i (some (.int x)) = lo') (k : WR p l e R s m args below meth c cells slots Q A D (pc + 2) lo' st ws) : WR p l e R s m args below meth c cells slots Q A D pc lo (.int x :: st) ws := fun H locs ls hP hD hS hl => lv_istore C.1 C.2.1 d (lh_has hl) hi rfl (fun ls' h' => k H locs ls' hP hD hS (hs ▸ lh_set hl hi rfl h'))
theorem r_aloadn (C : CX p s m args c D ca A own cc nL) {q : Fin 4} {x : Nat} (d : decode cc pc = .ok (.aload_n q, 1)) (hx : lo[(q : Nat)]? = some (some (.ref x))) (k : WR p l e R s m args below meth c cells slots Q A D (pc + 1) lo (.ref x :: st) ws) : WR p l e R s m args below meth c cells slots Q A D pc lo st ws := fun H locs ls hP hD hS hl => lv_aload_n C.1 C.2.1 d rfl (hl.2.2.1 _ _ hx) (k H locs ls hP hD hS hl)
theorem r_aload (C : CX p s m args c D ca A own cc nL) {i : Nat} {x : Nat} (d : decode cc pc = .ok (.aload i, 2)) (hx : lo[i]? = some (some (.ref x))) (k : WR p l e R s m args below meth c cells slots Q A D (pc + 2) lo (.ref x :: st) ws) : WR p l e R s m args below meth c cells slots Q A D pc lo st ws := fun H locs ls hP hD hS hl => lv_aload C.1 C.2.1 d (hl.2.2.1 _ _ hx) (k H locs ls hP hD hS hl)
theorem r_astoren (C : CX p s m args c D ca A own cc nL) {q : Fin 4} {x : Nat} {lo' : List (Option Value)} (d : decode cc pc = .ok (.astore_n q, 1)) (hi : (q : Nat) < lo.length) (hs : lo.set q (some (.ref x)) = lo') (k : WR p l e R s m args below meth c cells slots Q A D (pc + 1) lo' st ws) : WR p l e R s m args below meth c cells slots Q A D pc lo (.ref x :: st) ws := fun H locs ls hP hD hS hl => lv_astore_n C.1 C.2.1 d rfl (lh_has hl) hi rfl (fun ls' h' => k H locs ls' hP hD hS (hs ▸ lh_set hl hi rfl h'))
theorem r_astore (C : CX p s m args c D ca A own cc nL) {i : Nat} {x : Nat} {lo' : List (Option Value)} (d : decode cc pc = .ok (.astore i, 2)) (hi : i < lo.length) (hs : lo.set i (some (.ref x)) = lo') (k : WR p l e R s m args below meth c cells slots Q A D (pc + 2) lo' st ws) : WR p l e R s m args below meth c cells slots Q A D pc lo (.ref x :: st) ws := fun H locs ls hP hD hS hl => lv_astore C.1 C.2.1 d (lh_has hl) hi rfl (fun ls' h' => k H locs ls' hP hD hS (hs ▸ lh_set hl hi rfl h'))
theorem r_iinc (C : CX p s m args c D ca A own cc nL) {i : Nat} {n : Int} {x v : Int32} {lo' : List (Option Value)} (d : decode cc pc = .ok (.iinc i n, 3)) (hx : lo[i]? = some (some (.int x))) (hv : x + Int32.ofInt n = v) (hs : lo.set i (some (.int v)) = lo') (k : WR p l e R s m args below meth c cells slots Q A D (pc + 3) lo' st ws) : WR p l e R s m args below meth c cells slots Q A D pc lo st ws := fun H locs ls hP hD hS hl => by
  have hi : i < lo.length := (List.getElem?_eq_some_iff.mp hx).1
  obtain ⟨j, hj⟩ := List.getElem?_of_mem (lvl_mem (q := (i, .int x)).mpr hx)
  exact lv_iinc C.1 C.2.1 d (lh_has hl) hj hv hi rfl (fun ls' h' => k H locs ls' hP hD hS (hs ▸ lh_set hl hi rfl h'))
theorem r_dup (C : CX p s m args c D ca A own cc nL) {v : Value} (d : decode cc pc = .ok (.dup, 1)) (hv : v.category = 1) (k : WR p l e R s m args below meth c cells slots Q A D (pc + 1) lo (v :: v :: st) ws) : WR p l e R s m args below meth c cells slots Q A D pc lo (v :: st) ws := fun H locs ls hP hD hS hl => lv_dup C.1 C.2.1 d hv (k H locs ls hP hD hS hl)
theorem r_goto (C : CX p s m args c D ca A own cc nL) {off : Int} {tgt : Nat} (d : decode cc pc = .ok (.goto off, 3)) (ht : (pc : Int) + off = (tgt : Int)) (k : WR p l e R s m args below meth c cells slots Q A D tgt lo st ws) : WR p l e R s m args below meth c cells slots Q A D pc lo st ws := fun H locs ls hP hD hS hl => lv_goto C.1 C.2.1 d ht (k H locs ls hP hD hS hl)
theorem r_geT (C : CX p s m args c D ca A own cc nL) {x y : Int32} {off : Int} {tgt : Nat} (d : decode cc pc = .ok (.if_icmp .ge off, 3)) (ht : (pc : Int) + off = (tgt : Int)) (h : y ≤ x) (k : WR p l e R s m args below meth c cells slots Q A D tgt lo st ws) : WR p l e R s m args below meth c cells slots Q A D pc lo (.int y :: .int x :: st) ws := fun H locs ls hP hD hS hl => lv_icmp_ge C.1 C.2.1 d ht (fun _ => k H locs ls hP hD hS hl) (fun q => absurd h q)
theorem r_geF (C : CX p s m args c D ca A own cc nL) {x y : Int32} {off : Int} {tgt : Nat} (d : decode cc pc = .ok (.if_icmp .ge off, 3)) (ht : (pc : Int) + off = (tgt : Int)) (h : ¬ y ≤ x) (k : WR p l e R s m args below meth c cells slots Q A D (pc + 3) lo st ws) : WR p l e R s m args below meth c cells slots Q A D pc lo (.int y :: .int x :: st) ws := fun H locs ls hP hD hS hl => lv_icmp_ge C.1 C.2.1 d ht (fun q => absurd q h) (fun _ => k H locs ls hP hD hS hl)
theorem r_alen (C : CX p s m args c D ca A own cc nL) {t q a : Nat} {x : vp_A} {ty : FieldType} {v : Int32} (hq : ws[q]? = some (a, .inl (ca t, x))) (ht : (tys ca)[t]? = some (ca t, ty)) (hv : Int32.ofNat x.1 = v) (d : decode cc pc = .ok (.arraylength, 1)) (k : WR p l e R s m args below meth c cells slots Q A D (pc + 1) lo (.int v :: st) ws) : WR p l e R s m args below meth c cells slots Q A D pc lo (.ref a :: st) ws := fun H locs ls hP hD hS hl => va_alen C.1 C.2.1 C.2.2.2.2.2.1 hP q t hq ht hv d (k H locs ls hP hD hS hl)
theorem r_get (C : CX p s m args c D ca A own cc nL) {index ci j q a : Nat} {fs : List Value} {v : Value} (hF : FL own index ci j) (hq : ws[q]? = some (a, .inr (ci, fs))) (hx : fs[j]? = some v) (d : decode cc pc = .ok (.getfield index, 3)) (k : WR p l e R s m args below meth c cells slots Q A D (pc + 3) lo (v :: st) ws) : WR p l e R s m args below meth c cells slots Q A D pc lo (.ref a :: st) ws := by
  intro H locs ls hP hD hS hl
  obtain ⟨Cn, T, N, hc, hj, hin, hlk⟩ := hF
  exact va_get (D := D) (ci := ci) (v := v) (C := Cn) (T := T) (N := N) C.1 C.2.1 C.2.2.2.2.1 hin C.2.2.2.1 C.2.2.2.2.2.1 hP q hq hc j hj (C.2.2.2.2.1 _ hlk) (fun _ h => h) hx d (k H locs ls hP hD hS hl)
/-- a final field, in its class's own constructor -/
def FF (own : String) (index ci j : Nat) (ty : FieldType) : Prop := ∃ (C : String) (T : u_T) (N : Nat) (ty0 : Nat → FieldType), vwCl[ci]? = some (C, T, N) ∧ j < N ∧ (∀ w ∈ u_ws C T N, w ∈ WS) ∧ Cond.fieldLink own index (T j).1 (T j).2.1 (T j).2.2.1 ∈ WS ∧ (∀ k, k < N → parseFieldDescriptor (T k).2.2.1 = some (ty0 k)) ∧ (∀ a, a < N → ∀ b, b < N → a ≠ b → (T a).2.1 ≠ (T b).2.1) ∧ (T j).2.2.2 = true ∧ (T j).1 = own ∧ parseFieldDescriptor (T j).2.2.1 = some ty
theorem r_put (C : CX p s m args c D ca A own cc nL) {index ci j q a : Nat} {fs : List Value} {ty : FieldType} {v : Value} {ws' : va_W} (hF : FP own index ci j ty) (hq : ws[q]? = some (a, .inr (ci, fs))) (hl0 : j < fs.length) (hn : narrow ty v = v) (hfit : fits ty v = true) (hw : ws.set q (a, .inr (ci, fs.set j v)) = ws') (d : decode cc pc = .ok (.putfield index, 3)) (k : WR p l e R s m args below meth c cells slots Q A D (pc + 3) lo st ws') : WR p l e R s m args below meth c cells slots Q A D pc lo (v :: .ref a :: st) ws := by
  intro H locs ls hP hD hS hl
  obtain ⟨Cn, T, N, ty0, hc, hj, hin, hlk, hty, hnm, hfin, hd⟩ := hF
  subst hw
  exact va_put (D := D) (ci := ci) (v := v) (ty := ty) (C := Cn) (T := T) (N := N) C.1 C.2.1 C.2.2.2.2.1 hin ty0 hty hnm C.2.2.2.1 C.2.2.2.2.2.1 hP hD hS q hq hc j hj (C.2.2.2.2.1 _ hlk) (fun _ h => h) hfin hd hn hfit hl0 d (fun H1 locs1 hP1 hD1 hS1 => k H1 locs1 ls hP1 hD1 hS1 hl)
theorem r_putF (C : CX p s m args c D ca A own cc nL) (hin2 : meth.name = "<init>") {index ci j q a : Nat} {fs : List Value} {ty : FieldType} {v : Value} {ws' : va_W} (hF : FF own index ci j ty) (hq : ws[q]? = some (a, .inr (ci, fs))) (hl0 : j < fs.length) (hn : narrow ty v = v) (hfit : fits ty v = true) (hw : ws.set q (a, .inr (ci, fs.set j v)) = ws') (d : decode cc pc = .ok (.putfield index, 3)) (k : WR p l e R s m args below meth c cells slots Q A D (pc + 3) lo st ws') : WR p l e R s m args below meth c cells slots Q A D pc lo (v :: .ref a :: st) ws := by
  intro H locs ls hP hD hS hl
  obtain ⟨Cn, T, N, ty0, hc, hj, hin, hlk, hty, hnm, hfin, hdecl, hd⟩ := hF
  subst hw
  exact va_putF (D := D) (ci := ci) (v := v) (ty := ty) (C := Cn) (T := T) (N := N) C.1 C.2.1 C.2.2.2.2.1 hin ty0 hty hnm C.2.2.2.1 C.2.2.2.2.2.1 hP hD hS q hq hc j hj (C.2.2.2.2.1 _ hlk) (fun _ h => h) hfin hin2 hdecl hd hn hfit hl0 d (fun H1 locs1 hP1 hD1 hS1 => k H1 locs1 ls hP1 hD1 hS1 hl)
theorem r_objI (C : CX p s m args c D ca A own cc nL) (hlo : lo.length = nL) {idx a : Nat} (hw : Cond.methodLink own idx Lib.objectInit ∈ WS ∧ Cond.instanceMethod Lib.objectInit ∈ WS ∧ Cond.code Lib.objectInit ⟨#[0xb1]⟩ 1 none ∈ WS) (d : decode cc pc = .ok (.invokespecial idx, 3)) (hR : 1 ≤ R.frames ∧ (st.map fun v => v.category).sum + 12 ≤ R.locals) (k : WR p l e R s m args below meth c cells slots Q A D (pc + 3) lo st ws) : WR p l e R s m args below meth c cells slots Q A D pc lo (.ref a :: st) ws := fun H locs ls hP hD hS hl => W.objInit C.1 C.2.1 C.2.2.2.1 (C.2.2.2.2.1 _ hw.1) (C.2.2.2.2.1 _ hw.2.1) (C.2.2.2.2.1 _ hw.2.2) rfl (by show ls.size = _; rw [hl.1, hlo, C.2.2.1]) rfl d hR.1 (by show 2 * 0 + _ + 12 ≤ _; have := hR.2; omega) (k H locs ls hP hD hS hl)
theorem r_new (C : CX p s m args c D ca A own cc nL) {index ci N : Nat} {Cn : String} {T : u_T} {fs : List Value} (ty : Nat → FieldType) (hc : vwCl[ci]? = some (Cn, T, N)) (hin : ∀ w ∈ u_ws Cn T N, w ∈ WS) (hty : ∀ k, k < N → parseFieldDescriptor (T k).2.2.1 = some (ty k)) (hw : Cond.classLink own index Cn ∈ WS ∧ Cond.instantiable Cn N ∈ WS ∧ Cond.initialized Cn ∈ WS) (hfs : ∀ j, j < N → defaultValue (ty j) = vp_V fs j) (hcs : cells + 1 ≤ R.cells ∧ slots + N ≤ R.slots) (d : decode cc pc = .ok (.new index, 3)) (k : ∀ q : Nat, WR p l e R s m args below meth c (cells + 1) (slots + N) Q A D (pc + 3) lo (.ref q :: st) (ws ++ [(q, .inr (ci, fs))])) : WR p l e R s m args below meth c cells slots Q A D pc lo st ws := fun H locs ls hP hD hS hl => va_new (ci := ci) (fs := fs) (C := Cn) (T := T) (N := N) C.1 C.2.1 C.2.2.2.2.1 hin ty hty C.2.2.2.1 (C.2.2.2.2.1 _ hw.1) (C.2.2.2.2.1 _ hw.2.1) (C.2.2.2.2.1 _ hw.2.2) C.2.2.2.2.2.1 hP hD hS C.2.2.2.2.2.2.1 hc hfs hcs.1 hcs.2 d (fun q H1 hP1 hD1 hS1 => k q H1 locs ls hP1 hD1 hS1 hl)
theorem r_newI (C : CX p s m args c D ca A own cc nL) {n : Int32} {N : Nat} (hw : Cond.arrayClass .int ∈ WS) (hn : ¬ n < 0) (hN : n.toNatClampNeg = N) (hb : N * 4 ≤ 536870912) (hcs : cells + 1 ≤ R.cells ∧ slots + N ≤ R.slots) (d : decode cc pc = .ok (.newarray .int, 2)) (k : ∀ q : Nat, WR p l e R s m args below meth c (cells + 1) (slots + N) Q A D (pc + 2) lo (.ref q :: st) (ws ++ [(q, .inl (ca 0, N, .inl (fun _ => 0)))])) : WR p l e R s m args below meth c cells slots Q A D pc lo (.int n :: st) ws := fun H locs ls hP hD hS hl => va_newa (atype := .int) (ty := .int) (a0 := (N, .inl (fun _ => 0))) C.1 C.2.1 (C.2.2.2.2.1 _ hw) rfl C.2.2.2.2.2.1 hP hD hS C.2.2.2.2.2.2.1 (fun _ => rfl) hn hN hb hcs.1 hcs.2 d (fun q cA H1 hK1 hP1 hD1 hS1 => by
  have e0 := arr_one C.2.2.2.2.2.1 hK1 (t := 0) rfl
  subst e0
  exact k q H1 locs ls hP1 hD1 hS1 hl)
theorem r_newJ (C : CX p s m args c D ca A own cc nL) {n : Int32} {N : Nat} (hw : Cond.arrayClass .long ∈ WS) (hn : ¬ n < 0) (hN : n.toNatClampNeg = N) (hb : N * 8 ≤ 536870912) (hcs : cells + 1 ≤ R.cells ∧ slots + N ≤ R.slots) (d : decode cc pc = .ok (.newarray .long, 2)) (k : ∀ q : Nat, WR p l e R s m args below meth c (cells + 1) (slots + N) Q A D (pc + 2) lo (.ref q :: st) (ws ++ [(q, .inl (ca 3, N, .inr (.inl (fun _ => 0))))])) : WR p l e R s m args below meth c cells slots Q A D pc lo (.int n :: st) ws := fun H locs ls hP hD hS hl => va_newa (atype := .long) (ty := .long) (a0 := (N, .inr (.inl (fun _ => 0)))) C.1 C.2.1 (C.2.2.2.2.1 _ hw) rfl C.2.2.2.2.2.1 hP hD hS C.2.2.2.2.2.2.1 (fun _ => rfl) hn hN hb hcs.1 hcs.2 d (fun q cA H1 hK1 hP1 hD1 hS1 => by
  have e0 := arr_one C.2.2.2.2.2.1 hK1 (t := 3) rfl
  subst e0
  exact k q H1 locs ls hP1 hD1 hS1 hl)
theorem r_newQ (C : CX p s m args c D ca A own cc nL) {index t : Nat} {Cn : String} {n : Int32} {N : Nat} (ht : (tys ca)[t]? = some (ca t, .object Cn)) (hw : Cond.classLink own index Cn ∈ WS) (ho : va_AO Cn s) (hn : ¬ n < 0) (hN : n.toNatClampNeg = N) (hb : N * 4 ≤ 536870912) (hcs : cells + 1 ≤ R.cells ∧ slots + N ≤ R.slots) (d : decode cc pc = .ok (.anewarray index, 3)) (k : ∀ q : Nat, WR p l e R s m args below meth c (cells + 1) (slots + N) Q A D (pc + 3) lo (.ref q :: st) (ws ++ [(q, .inl (ca t, N, .inr (.inr (.inr (.inr (fun _ => none))))))])) : WR p l e R s m args below meth c cells slots Q A D pc lo (.int n :: st) ws := fun H locs ls hP hD hS hl => va_newq C.1 C.2.1 C.2.2.2.1 (C.2.2.2.2.1 _ hw) ho C.2.2.2.2.2.1 hP hD hS C.2.2.2.2.2.2.1 hn hN hb hcs.1 hcs.2 d (fun q cA H1 hK1 hP1 hD1 hS1 => by
  have e0 := arr_one C.2.2.2.2.2.1 hK1 ht
  subst e0
  exact k q H1 locs ls hP1 hD1 hS1 hl)
theorem r_aast (C : CX p s m args c D ca A own cc nL) {t q qk ci n v a : Nat} {r : vw_C} {vs : List Value} {f : Nat → Option Nat} {i : Int32} {ws' : va_W} (hq : ws[q]? = some (a, .inl (ca t, n, .inr (.inr (.inr (.inr f)))))) (ht : (tys ca)[t]? = some (ca t, .object r.1)) (hv : ws[qk]? = some (v, .inr (ci, vs))) (hc : vwCl[ci]? = some r) (hi : inb i n = true) (hw : ws.set q (a, .inl (ca t, n, .inr (.inr (.inr (.inr (va_up f (ix i) (some v))))))) = ws') (d : decode cc pc = .ok (.aastore, 1)) (k : WR p l e R s m args below meth c cells slots Q A D (pc + 1) lo st ws') : WR p l e R s m args below meth c cells slots Q A D pc lo (.ref v :: .int i :: .ref a :: st) ws := by
  subst hw
  exact fun H locs ls hP hD hS hl => va_astq C.1 C.2.1 C.2.2.2.2.2.1 hP hD hS q t qk ci hq ht hv hc (inb_in hi) d (fun H1 locs1 hP1 hD1 hS1 => k H1 locs1 ls hP1 hD1 hS1 hl)
theorem r_iast (C : CX p s m args c D ca A own cc nL) {q n a : Nat} {f : Nat → Int32} {i x : Int32} {ws' : va_W} (hq : ws[q]? = some (a, .inl (ca 0, n, .inl f))) (hi : inb i n = true) (hw : ws.set q (a, .inl (ca 0, n, .inl (upd f (ix i) x))) = ws') (d : decode cc pc = .ok (.iastore, 1)) (k : WR p l e R s m args below meth c cells slots Q A D (pc + 1) lo st ws') : WR p l e R s m args below meth c cells slots Q A D pc lo (.int x :: .int i :: .ref a :: st) ws := by
  subst hw
  exact fun H locs ls hP hD hS hl => va_iast C.1 C.2.1 C.2.2.2.2.2.1 hP hD hS q 0 hq rfl (inb_in hi) d (fun H1 locs1 hP1 hD1 hS1 => k H1 locs1 ls hP1 hD1 hS1 hl)
theorem r_sub {ws' : va_W} (is : List Nat) (hn : va_nd is = true) (hs : is.map (fun i => ws[i]?) = ws'.map some) (k : WR p l e R s m args below meth c cells slots Q A D pc lo st ws') : WR p l e R s m args below meth c cells slots Q A D pc lo st ws := fun H locs ls hP hD hS hl => k H locs ls (fun j q hq => by
  have h1 : (is.map (fun i => ws[i]?))[j]? = some (some q) := by rw [hs, List.getElem?_map, hq]; rfl
  rw [List.getElem?_map] at h1
  cases hi : is[j]? with
  | none => rw [hi] at h1; cases h1
  | some i => rw [hi] at h1; exact hP i q (Option.some.inj h1)) (hD.sub is hn hs) hS hl
theorem refs_eq (cA : ClassId) (n : Nat) (f g : Nat → Option Nat) (h : ∀ j, j < n → f j = g j) : vp_cell cA (n, .inr (.inr (.inr (.inr f)))) = vp_cell cA (n, .inr (.inr (.inr (.inr g)))) := by
  rw [vp_cell_q, vp_cell_q]
  unfold arrV
  congr 1
  apply Array.ext
  · simp
  · intro i h1 h2
    simp at h1 ⊢
    rw [h i h1]
theorem r_refs {q n a : Nat} {cA : ClassId} {f g : Nat → Option Nat} {ws' : va_W} (hq : ws[q]? = some (a, .inl (cA, n, .inr (.inr (.inr (.inr f)))))) (h : ∀ j, j < n → f j = g j) (hw : ws.set q (a, .inl (cA, n, .inr (.inr (.inr (.inr g))))) = ws') (k : WR p l e R s m args below meth c cells slots Q A D pc lo st ws') : WR p l e R s m args below meth c cells slots Q A D pc lo st ws := by
  subst hw
  intro H locs ls hP hD hS hl
  refine k H locs ls (hP.set hD hq ?_ (fun _ _ => rfl)) (hD.set hq) hS hl
  have h1 := hP q _ hq
  show H[a]? = some (vp_cell cA _)
  rw [← refs_eq cA n f g h]
  exact h1
theorem r_vret (C : CX p s m args c D ca A own cc nL) {f : (Nat → Nat) → va_W} {mc ms : Nat} (hr : meth.sig.returnType = none) (hlk : meth.locks = false) (d : decode cc pc = .ok (.return_, 1)) (hcs : cells ≤ mc ∧ slots ≤ ms) (qs : Nat → Nat) (hf : f qs = ws) : WR p l e R s m args below meth c cells slots (EK D ca A below args s f mc ms) A D pc lo [] ws := by
  subst hf
  intro H locs ls hP hD hS hl
  refine W.widen hcs.1 hcs.2 ?_
  exact W.vret (Qc := QK D ca A f) C.1 C.2.1 hr (fun t ht hW => ⟨⟨rfl, qs, by rw [ht]; exact hP, va_K.moved hW.alike C.2.2.2.2.2.1, hD⟩, hS.F ht⟩) hS.2.2 d hlk
variable {y : MethodName} {bytes : ByteArray} {maxL n index mc ms h0 : Nat} {rm : Room} {e0 : va_E} {wr : va_W} {f : (Nat → Nat) → va_W} {As rest st0 : List Value}
theorem r_afterI (C : CX p s m args c D ca A own cc nL) (hr : ∀ H locs ls, va_P D vwCl (wr ++ [(h0, e0)]) H → va_D A (wr ++ [(h0, e0)]) → va_S A s.heap H locs → lh ls lo → va_Run p l e R s m args below meth c H locs cells slots mc ms (F0 m pc ls st0) rest (QK D ca (va_A [(h0, e0)] H.size) f #[]) (va_A [(h0, e0)] H.size))
    (k : ∀ qs : Nat → Nat, WR p l e R s m args below meth c (cells + mc) (slots + ms) Q A D (pc + 3) lo rest (wr ++ f qs)) : WR p l e R s m args below meth c cells slots Q A D pc lo st0 (wr ++ [(h0, e0)]) := by
  intro H locs ls hP hD hS hl T hT X
  obtain ⟨v, st₀, t, T', L, h9, X', hL, e1, e2, ⟨⟨hv, qs, hb1, hb2, hb3⟩, hF⟩, go⟩ := hr H locs ls hP hD hS hl T hT X
  cases hv
  have hsub : ∀ q, va_A [(h0, e0)] H.size q → A q := by
    intro q hq
    rcases hq with ⟨i, x, hi⟩ | hq
    · exact (part2 hP hD).2.2 i _ hi
    · exact C.2.2.2.2.2.2.1 q (Nat.le_trans hS.1 hq)
  obtain ⟨k1, k2, k3⟩ := vx_keep h9 e1 hS (fun q _ h => hsub q h) hsub hL hF
  obtain ⟨hPj, hDj⟩ := join2 (H1 := T'.heap) hP hD k2 hsub (by rw [e1]; exact hb1) hb3
  obtain ⟨t2, a1, b1⟩ := k qs T'.heap (locs ++ L) ls hPj hDj k3 hl T' rfl X'
  exact ⟨t2, go t2 a1, b1⟩
/-- the words of a call of a constructor -/
def KI (own : String) (index : Nat) (y : MethodName) (bytes : ByteArray) (maxL n : Nat) : Prop := Cond.methodLink own index y ∈ WS ∧ Cond.instanceMethod y ∈ WS ∧ Cond.initialized y.cls ∈ WS ∧ Cond.code y bytes maxL none ∈ WS ∧ y.name = "<init>" ∧ y.cls ≠ "java/lang/invoke/MethodHandle" ∧ y.cls ≠ "java/lang/invoke/VarHandle" ∧ (parseMethodDescriptor y.desc).map (fun d => d.parameters.length) = some n
theorem r_callI (C : CX p s m args c D ca A own cc nL) (hKX : KX s) (hlo : lo.length = nL) (hM : cK l y (.code y bytes maxL none) rm D ca (.ref h0 :: As) [(h0, e0)] f mc ms) (hw : KI own index y bytes maxL n) (hrm : rm.cells = mc ∧ rm.slots = ms) (hR : rm.frames + 1 ≤ R.frames ∧ 8 + (maxL + 11) + rm.locals ≤ R.locals)
    (hn : As.length = n) (hst : st0 = As.reverse ++ .ref h0 :: rest) (hW : (rest.map fun v => v.category).sum ≤ 8) (d : decode cc pc = .ok (.invokespecial index, 3)) (hcs : cells + mc ≤ R.cells ∧ slots + ms ≤ R.slots)
    (k : ∀ qs : Nat → Nat, WR p l e R s m args below meth c (cells + mc) (slots + ms) Q A D (pc + 3) lo rest (wr ++ f qs)) : WR p l e R s m args below meth c cells slots Q A D pc lo st0 (wr ++ [(h0, e0)]) := by
  refine r_afterI C (fun H locs ls hP hD hS hl => ?_) k
  subst hst
  obtain ⟨hP2, hD2⟩ := part2 hP hD
  exact va_runI (b := h0) (As := As) (rest := rest) (n := n) ⟨C.1, C.2.1, C.2.2.1, C.2.2.2.1, C.2.2.2.2.1⟩ (hM H.size) (cwI n C.2.2.2.2.1 (WS_in hw.2.2.2.1) rfl hrm.1 hrm.2 (C.2.2.2.2.1 _ hw.2.2.1) (C.2.2.2.2.1 _ hw.1) (C.2.2.2.2.1 _ hw.2.1) hw.2.2.2.2.1 hw.2.2.2.2.2 hR)
    ⟨fun a U g mk q => by obtain ⟨q0, q1, qP, qK, qD, qN, qX⟩ := q; exact ⟨q0, q1, qP, va_K.moved (u := U) (U := U.calling g mk a) (Vm.Alike.refl U.vm) qK, qD, NWs.same (u := U) (U := U.calling g mk a) rfl qN, KX.same (u := U) (U := U.calling g mk a) rfl qX⟩, fun U hU hW => ⟨rfl, by rw [hU], by rw [hU]; exact hP2, va_K.moved hW.alike C.2.2.2.2.2.1, hD2.weaken (fun _ _ _ _ => trivial), NWs.warm hW C.2.2.2.2.2.2.2, KX.warm hW hKX⟩⟩
    rfl hn (by show ls.size = _; rw [hl.1, hlo]) rfl (lv_room hW) d hcs
def KJ (own : String) (index : Nat) (y : MethodName) (host : String) (bytes : ByteArray) (maxL n : Nat) : Prop := Cond.instanceMethod y ∈ WS ∧ Cond.initialized y.cls ∈ WS ∧ Cond.code y bytes maxL none ∈ WS ∧ y.name = "<init>" ∧ y.cls ≠ "java/lang/invoke/MethodHandle" ∧ y.cls ≠ "java/lang/invoke/VarHandle" ∧ (parseMethodDescriptor y.desc).map (fun d => d.parameters.length) = some n
theorem r_callIN {host : String} (C : CX p s m args c D ca A own cc nL) (hKX : KX s) (hnw : va_Nw (.methodLinkNest own index y host) s) (hlo : lo.length = nL) (hM : cK l y (.code y bytes maxL none) rm D ca (.ref h0 :: As) [(h0, e0)] f mc ms) (hw : KJ own index y host bytes maxL n) (hrm : rm.cells = mc ∧ rm.slots = ms) (hR : rm.frames + 1 ≤ R.frames ∧ 8 + (maxL + 11) + rm.locals ≤ R.locals)
    (hn : As.length = n) (hst : st0 = As.reverse ++ .ref h0 :: rest) (hW : (rest.map fun v => v.category).sum ≤ 8) (d : decode cc pc = .ok (.invokespecial index, 3)) (hcs : cells + mc ≤ R.cells ∧ slots + ms ≤ R.slots)
    (k : ∀ qs : Nat → Nat, WR p l e R s m args below meth c (cells + mc) (slots + ms) Q A D (pc + 3) lo rest (wr ++ f qs)) : WR p l e R s m args below meth c cells slots Q A D pc lo st0 (wr ++ [(h0, e0)]) := by
  refine r_afterI C (fun H locs ls hP hD hS hl => ?_) k
  subst hst
  obtain ⟨hP2, hD2⟩ := part2 hP hD
  exact va_runIN (b := h0) (As := As) (rest := rest) (n := n) ⟨C.1, C.2.1, C.2.2.1, C.2.2.2.1, C.2.2.2.2.1⟩ (hM H.size) ⟨va_cnB n C.2.2.2.2.1 (WS_in hw.2.2.1) rfl hrm.1 hrm.2 hnw (C.2.2.2.2.1 _ hw.2.1) hw.2.2.2.2 hR, hw.2.2.2.1, C.2.2.2.2.1 _ hw.1⟩
    ⟨fun a U g mk q => by obtain ⟨q0, q1, qP, qK, qD, qN, qX⟩ := q; exact ⟨q0, q1, qP, va_K.moved (u := U) (U := U.calling g mk a) (Vm.Alike.refl U.vm) qK, qD, NWs.same (u := U) (U := U.calling g mk a) rfl qN, KX.same (u := U) (U := U.calling g mk a) rfl qX⟩, fun U hU hW => ⟨rfl, by rw [hU], by rw [hU]; exact hP2, va_K.moved hW.alike C.2.2.2.2.2.1, hD2.weaken (fun _ _ _ _ => trivial), NWs.warm hW C.2.2.2.2.2.2.2, KX.warm hW hKX⟩⟩
    rfl hn (by show ls.size = _; rw [hl.1, hlo]) rfl (lv_room hW) d hcs
/-- a static method of numbers: its contract over the empty world -/
theorem r_callO {σ τ : St} {ad : Nat → Nat} {ov : Option Value} {ret : Option FieldType} (C : CX p s m args c D ca A own cc nL) (hlo : lo.length = nL) (hM : cM l y (.code y bytes maxL ret) rm D ca ad [] As σ ov τ) (hw : KO own index y bytes maxL ret n)
    (hrm : rm.cells = 0 ∧ rm.slots = 0) (hR : rm.frames + 1 ≤ R.frames ∧ 8 + (maxL + 11) + rm.locals ≤ R.locals)
    (hn : As.length = n) (hst : st0 = As.reverse ++ rest) (hW : (rest.map fun v => v.category).sum ≤ 8) (d : decode cc pc = .ok (.invokestatic index, 3)) (hcs : cells ≤ R.cells ∧ slots ≤ R.slots)
    (k : WR p l e R s m args below meth c cells slots Q A D (pc + 3) lo (ov.toList ++ rest) ws) : WR p l e R s m args below meth c cells slots Q A D pc lo st0 ws := by
  intro H locs ls hP hD hS hl T hT X
  subst hst
  have hG : GoodIn WS (.code y bytes maxL ret :: WS) := WS_in (hw.1 _ (by simp))
  have hok : ∀ w ∈ ([.methodLink own index y, .static y, .initialized y.cls, .code y bytes maxL ret] : List Cond), w.before args s = true := fun w h => C.2.2.2.2.1 w (hw.1 w h)
  have hrun := va_runS (p := p) (e := e) (below := below) (meth := meth) (H := H) (locs := locs) (cells := cells) (slots := slots) (g := F0 m pc ls (As.reverse ++ rest)) (As := As) (rest := rest) (n := n) ⟨C.1, C.2.1, C.2.2.1, C.2.2.2.1, C.2.2.2.2.1⟩ (hM H.size) ⟨callB_of n C.2.2.2.2.1 hG rfl hrm.1 hrm.2 (hok _ (by simp)) (hok _ (by simp)) hw.2 hR, hok _ (by simp)⟩
    ⟨fun a U g mk q => by obtain ⟨q0, q1, qP, qK, qD, qN⟩ := q; exact ⟨q0, q1, qP, va_K.moved (u := U) (U := U.calling g mk a) (Vm.Alike.refl U.vm) qK, qD, NWs.same (u := U) (U := U.calling g mk a) rfl qN⟩, fun U hU hW => ⟨rfl, by rw [hU], fun k q h => by simp [wd] at h, va_K.moved hW.alike C.2.2.2.2.2.1, ⟨fun i j x y h => by simp [wd] at h, fun k q h => by simp [wd] at h⟩, NWs.warm hW C.2.2.2.2.2.2.2⟩⟩
    rfl hn (by show ls.size = _; rw [hl.1, hlo]) rfl (lv_room hW) d ⟨by simpa using hcs.1, by simpa using hcs.2⟩
  obtain ⟨v, st₀, t, T', L, h9, X', hL, e1, e2, ⟨⟨hv, hb1, hb2, hb3⟩, hF⟩, go⟩ := hrun T hT X
  cases hv
  have hsub : ∀ q, va_A (wd [] ca ad σ) H.size q → A q := by
    intro q hq
    rcases hq with ⟨i, x, hi⟩ | hq
    · simp [wd] at hi
    · exact C.2.2.2.2.2.2.1 q (Nat.le_trans hS.1 hq)
  obtain ⟨k1, k2, k3⟩ := vx_keep h9 e1 hS (fun q _ h => hsub q h) hsub hL hF
  obtain ⟨t2, a1, b1⟩ := k T'.heap (locs ++ L) ls (hP.kept (fun j q hq => k2 _ (hP j q hq).lt (fun z => by
    rcases z with ⟨i, x, hi⟩ | z
    · simp [wd] at hi
    · have := (hP j q hq).lt
      omega))) hD k3 hl T' rfl X'
  exact ⟨t2, go t2 a1, b1⟩
end WRR
