/-! further rows: nest calls, Math, switches, comparisons of references, constants; the pure functions' combinators -/
theorem ifp {α : Type} {c : Prop} {_ : Decidable c} {a b : α} {r : α} (h : c) (e : (if c then a else b) = r) : a = r := by rwa [if_pos h] at e
theorem ifn {α : Type} {c : Prop} {_ : Decidable c} {a b : α} {r : α} (h : ¬ c) (e : (if c then a else b) = r) : b = r := by rwa [if_neg h] at e
theorem gd {α : Type} {c : Prop} {_ : Decidable c} {a : Option α} {r : α} (e : (if c then a else none) = some r) : c ∧ a = some r := by
  by_cases h : c
  · exact ⟨h, by rwa [if_pos h] at e⟩
  · rw [if_neg h] at e; cases e
def bn {α β : Type} (o : Option (α × St)) (f : α → St → Option β) : Option β := match o with
  | none => none
  | some x => f x.1 x.2
def bv {β : Type} (o : Option St) (f : St → Option β) : Option β := match o with
  | none => none
  | some x => f x
theorem bnd {α β : Type} {o : Option (α × St)} {f : α → St → Option β} {r : β} (h : bn o f = some r) : ∃ (a : α) (τ : St), o = some (a, τ) ∧ f a τ = some r := by
  cases o with
  | none => cases h
  | some x => exact ⟨x.1, x.2, rfl, h⟩
theorem bvd {β : Type} {o : Option St} {f : St → Option β} {r : β} (h : bv o f = some r) : ∃ τ : St, o = some τ ∧ f τ = some r := by
  cases o with
  | none => cases h
  | some x => exact ⟨x, rfl, h⟩
theorem rt {α : Type} {a c : α} {b d : St} (h : some (a, b) = some (c, d)) : c = a ∧ d = b := by cases h; exact ⟨rfl, rfl⟩
theorem rtv {b d : St} (h : some b = some d) : d = b := by cases h; rfl
def rmk (k : Nat) : Room := { frames := k, cells := 0, slots := 0, locals := 40 * k }
def mmax (x y : Int32) : Int32 := if x < y then y else x
def mmin (x y : Int32) : Int32 := if y < x then y else x
def iush (x y : Int32) : Int32 := (x.toUInt32 >>> (y.toUInt32 &&& Int32.toUInt32 31)).toInt32
def KN (own : String) (index : Nat) (y : MethodName) (host : String) (bytes : ByteArray) (maxL : Nat) (ret : Option FieldType) (n : Nat) : Prop :=
  (∀ w ∈ ([.static y, .initialized y.cls, .code y bytes maxL ret] : List Cond), w ∈ WS) ∧ Cond.methodLinkNest own index y host ∈ NW ∧ y.cls ≠ "java/lang/invoke/MethodHandle" ∧ y.cls ≠ "java/lang/invoke/VarHandle" ∧ (parseMethodDescriptor y.desc).map (fun d => d.parameters.length) = some n
/-- a static method of any class of ours (or of the JDK), by an ordinary link -/
def KO (own : String) (index : Nat) (y : MethodName) (bytes : ByteArray) (maxL : Nat) (ret : Option FieldType) (n : Nat) : Prop :=
  (∀ w ∈ ([.methodLink own index y, .static y, .initialized y.cls, .code y bytes maxL ret] : List Cond), w ∈ WS) ∧ y.cls ≠ "java/lang/invoke/MethodHandle" ∧ y.cls ≠ "java/lang/invoke/VarHandle" ∧ (parseMethodDescriptor y.desc).map (fun d => d.parameters.length) = some n
theorem goodWS {ws : List Cond} (h : ∀ w ∈ ws, w ∈ WS) : GoodIn WS ws := fun w hw => ⟨h w hw, good_of_word (WS_good w (h w hw))⟩
section WWM
variable {p : Program} {l : Launch} {e : Env} {R : Room} {s : State} {m : MethodId} {args : Array Value} {below : List Frame} {meth : Method} {c : Code} {cells slots : Nat} {Q : State → Prop} {A : Nat → Prop} {D : va_G} {ca : Nat → ClassId} {ad : Nat → Nat} {sh : List sO} {own : String} {cc : ByteArray} {nL pc : Nat} {lo : List (Option Value)} {st : List Value} {σ τ : St} {ov : Option Value}
variable {y : MethodName} {bytes : ByteArray} {maxL n index : Nat} {ret : Option FieldType} {rm : Room} {As rest st0 : List Value}
theorem s_callN {host : String} (C : CX p s m args c D ca A own cc nL) (hlo : lo.length = nL) (hM : cM l y (.code y bytes maxL ret) rm D ca ad sh As σ ov τ) (hw : KN own index y host bytes maxL ret n)
    (hrm : rm.cells = 0 ∧ rm.slots = 0) (hR : rm.frames + 1 ≤ R.frames ∧ 8 + (maxL + 11) + rm.locals ≤ R.locals)
    (hn : As.length = n) (hst : st0 = As.reverse ++ rest) (hW : (rest.map fun v => v.category).sum ≤ 8) (d : decode cc pc = .ok (.invokestatic index, 3)) (hcs : cells ≤ R.cells ∧ slots ≤ R.slots)
    (k : WW p l e R s m args below meth c cells slots Q A D ca ad sh (pc + 3) lo (ov.toList ++ rest) τ) : WW p l e R s m args below meth c cells slots Q A D ca ad sh pc lo st0 σ := by
  refine s_back C (ov := ov) (rest := rest) (fun H locs ls hP hD hl => ?_) k
  subst hst
  have hG : GoodIn WS (.code y bytes maxL ret :: WS) := WS_in (hw.1 _ (by simp))
  have hok : ∀ w ∈ ([.static y, .initialized y.cls, .code y bytes maxL ret] : List Cond), w.before args s = true := fun w h => C.2.2.2.2.1 w (hw.1 w h)
  exact va_runSN (As := As) (rest := rest) (n := n) ⟨C.1, C.2.1, C.2.2.1, C.2.2.2.1, C.2.2.2.2.1⟩ (hM H.size) ⟨va_cnB n C.2.2.2.2.1 hG rfl hrm.1 hrm.2 (C.2.2.2.2.2.2.2 _ hw.2.1) (hok _ (by simp)) hw.2.2 hR, hok _ (by simp), trivial⟩
    ⟨fun a U g mk q => by obtain ⟨q0, q1, qP, qK, qD, qN⟩ := q; exact ⟨q0, q1, qP, va_K.moved (u := U) (U := U.calling g mk a) (Vm.Alike.refl U.vm) qK, qD, NWs.same (u := U) (U := U.calling g mk a) rfl qN⟩, fun U hU hW => ⟨rfl, by rw [hU], by rw [hU]; exact hP, va_K.moved hW.alike C.2.2.2.2.2.1, hD.weaken (fun _ _ _ _ => trivial), NWs.warm hW C.2.2.2.2.2.2.2⟩⟩
    rfl hn (by show ls.size = _; rw [hl.1, hlo]) rfl (lv_room hW) d ⟨by simpa using hcs.1, by simpa using hcs.2⟩
theorem s_callO (C : CX p s m args c D ca A own cc nL) (hlo : lo.length = nL) (hM : cM l y (.code y bytes maxL ret) rm D ca ad sh As σ ov τ) (hw : KO own index y bytes maxL ret n)
    (hrm : rm.cells = 0 ∧ rm.slots = 0) (hR : rm.frames + 1 ≤ R.frames ∧ 8 + (maxL + 11) + rm.locals ≤ R.locals)
    (hn : As.length = n) (hst : st0 = As.reverse ++ rest) (hW : (rest.map fun v => v.category).sum ≤ 8) (d : decode cc pc = .ok (.invokestatic index, 3)) (hcs : cells ≤ R.cells ∧ slots ≤ R.slots)
    (k : WW p l e R s m args below meth c cells slots Q A D ca ad sh (pc + 3) lo (ov.toList ++ rest) τ) : WW p l e R s m args below meth c cells slots Q A D ca ad sh pc lo st0 σ := by
  refine s_back C (ov := ov) (rest := rest) (fun H locs ls hP hD hl => ?_) k
  subst hst
  have hG : GoodIn WS (.code y bytes maxL ret :: WS) := WS_in (hw.1 _ (by simp))
  have hok : ∀ w ∈ ([.methodLink own index y, .static y, .initialized y.cls, .code y bytes maxL ret] : List Cond), w.before args s = true := fun w h => C.2.2.2.2.1 w (hw.1 w h)
  exact va_runS (As := As) (rest := rest) (n := n) ⟨C.1, C.2.1, C.2.2.1, C.2.2.2.1, C.2.2.2.2.1⟩ (hM H.size) ⟨callB_of n C.2.2.2.2.1 hG rfl hrm.1 hrm.2 (hok _ (by simp)) (hok _ (by simp)) hw.2 hR, hok _ (by simp)⟩
    ⟨fun a U g mk q => by obtain ⟨q0, q1, qP, qK, qD, qN⟩ := q; exact ⟨q0, q1, qP, va_K.moved (u := U) (U := U.calling g mk a) (Vm.Alike.refl U.vm) qK, qD, NWs.same (u := U) (U := U.calling g mk a) rfl qN⟩, fun U hU hW => ⟨rfl, by rw [hU], by rw [hU]; exact hP, va_K.moved hW.alike C.2.2.2.2.2.1, hD.weaken (fun _ _ _ _ => trivial), NWs.warm hW C.2.2.2.2.2.2.2⟩⟩
    rfl hn (by show ls.size = _; rw [hl.1, hlo]) rfl (lv_room hW) d ⟨by simpa using hcs.1, by simpa using hcs.2⟩
theorem s_mmax (C : CX p s m args c D ca A own cc nL) (hlo : lo.length = nL) {x z : Int32} (hlk : Cond.methodLink own index Lib.Math.max.name ∈ WS) (hR : 1 ≤ R.frames ∧ (st.map fun v => v.category).sum + 13 ≤ R.locals) (hcs : cells ≤ R.cells ∧ slots ≤ R.slots) (hm : Cond.static Lib.Math.max.name ∈ WS ∧ Cond.initialized "java/lang/Math" ∈ WS ∧ Cond.code Lib.Math.max.name Lib.Math.max.code 2 (some .int) ∈ WS) (d : decode cc pc = .ok (.invokestatic index, 3))
    (k : WW p l e R s m args below meth c cells slots Q A D ca ad sh (pc + 3) lo (.int (mmax x z) :: st) σ) : WW p l e R s m args below meth c cells slots Q A D ca ad sh pc lo (.int z :: .int x :: st) σ := fun H locs ls hP hD hS hl =>
  va_mmax C.1 C.2.1 (by rw [C.2.2.1, hl.1, hlo]) C.2.2.2.1 (C.2.2.2.2.1 _ hlk) (C.2.2.2.2.1 _ hm.1) (C.2.2.2.2.1 _ hm.2.1) (C.2.2.2.2.1 _ hm.2.2) hR.1 hR.2 hcs.1 hcs.2 d (k H locs ls hP hD hS hl)
theorem s_mmin (C : CX p s m args c D ca A own cc nL) (hlo : lo.length = nL) {x z : Int32} (hlk : Cond.methodLink own index Lib.Math.min.name ∈ WS) (hR : 1 ≤ R.frames ∧ (st.map fun v => v.category).sum + 13 ≤ R.locals) (hcs : cells ≤ R.cells ∧ slots ≤ R.slots) (hm : Cond.static Lib.Math.min.name ∈ WS ∧ Cond.initialized "java/lang/Math" ∈ WS ∧ Cond.code Lib.Math.min.name Lib.Math.min.code 2 (some .int) ∈ WS) (d : decode cc pc = .ok (.invokestatic index, 3))
    (k : WW p l e R s m args below meth c cells slots Q A D ca ad sh (pc + 3) lo (.int (mmin x z) :: st) σ) : WW p l e R s m args below meth c cells slots Q A D ca ad sh pc lo (.int z :: .int x :: st) σ := fun H locs ls hP hD hS hl =>
  va_mmin C.1 C.2.1 (by rw [C.2.2.1, hl.1, hlo]) C.2.2.2.1 (C.2.2.2.2.1 _ hlk) (C.2.2.2.2.1 _ hm.1) (C.2.2.2.2.1 _ hm.2.1) (C.2.2.2.2.1 _ hm.2.2) hR.1 hR.2 hcs.1 hcs.2 d (k H locs ls hP hD hS hl)
theorem s_ush (C : CX p s m args c D ca A own cc nL) {x z : Int32} (d : decode cc pc = .ok (.iushr, 1)) (k : WW p l e R s m args below meth c cells slots Q A D ca ad sh (pc + 1) lo (.int (iush x z) :: st) σ) : WW p l e R s m args below meth c cells slots Q A D ca ad sh pc lo (.int z :: .int x :: st) σ := s_iushr C d k
theorem s_ldcw (C : CX p s m args c D ca A own cc nL) {v : Int32} (hc : Cond.constant own index v ∈ WS) (d : decode cc pc = .ok (.ldc_w index, 3)) (k : WW p l e R s m args below meth c cells slots Q A D ca ad sh (pc + 3) lo (.int v :: st) σ) : WW p l e R s m args below meth c cells slots Q A D ca ad sh pc lo st σ := fun H locs ls hP hD hS hl => lv_ldcw C.1 C.2.1 C.2.2.2.1 (C.2.2.2.2.1 _ hc) d (k H locs ls hP hD hS hl)
theorem s_tsw (C : CX p s m args c D ca A own cc nL) {dflt low hi off : Int} {offs : Array Int} {len tgt : Nat} {x v : Int32} (hx : x = v) (d : decode cc pc = .ok (.tableswitch dflt low hi offs, len)) (h : ¬ v.toInt < low ∧ ¬ hi < v.toInt ∧ offs[(v.toInt - low).toNat]? = some off ∧ (pc : Int) + off = (tgt : Int)) (k : WW p l e R s m args below meth c cells slots Q A D ca ad sh tgt lo st σ) : WW p l e R s m args below meth c cells slots Q A D ca ad sh pc lo (.int x :: st) σ := by
  subst hx
  exact fun H locs ls hP hD hS hl => lv_tableIn C.1 C.2.1 d h.1 h.2.1 h.2.2.1 h.2.2.2 (k H locs ls hP hD hS hl)
theorem s_tswD (C : CX p s m args c D ca A own cc nL) {dflt low hi : Int} {offs : Array Int} {len tgt : Nat} {x : Int32} (h : x.toInt < low ∨ hi < x.toInt) (d : decode cc pc = .ok (.tableswitch dflt low hi offs, len)) (ht : (pc : Int) + dflt = (tgt : Int)) (k : WW p l e R s m args below meth c cells slots Q A D ca ad sh tgt lo st σ) : WW p l e R s m args below meth c cells slots Q A D ca ad sh pc lo (.int x :: st) σ := fun H locs ls hP hD hS hl => lv_tableOut C.1 C.2.1 d h ht (k H locs ls hP hD hS hl)
theorem s_lsw (C : CX p s m args c D ca A own cc nL) {dflt off : Int} {ps : Array (Int × Int)} {len tgt : Nat} {x : Int32} (ho : Op.lookupswitch.offset ps.toList dflt x.toInt = off) (d : decode cc pc = .ok (.lookupswitch dflt ps, len)) (hp : (ps.toList.zip (ps.toList.drop 1)).all (fun (a, next) => a.1 < next.1) = true) (ht : (pc : Int) + off = (tgt : Int)) (k : WW p l e R s m args below meth c cells slots Q A D ca ad sh tgt lo st σ) : WW p l e R s m args below meth c cells slots Q A D ca ad sh pc lo (.int x :: st) σ := fun H locs ls hP hD hS hl => lv_lookup C.1 C.2.1 d hp ho ht (k H locs ls hP hD hS hl)
/-- two places: one address or not -/
theorem s_acmp_eq (C : CX p s m args c D ca A own cc nL) {a b : Nat} {oa ob : sO} (ha : sh[a]? = some oa) (hb : sh[b]? = some ob) {off : Int} {tgt : Nat} (d : decode cc pc = .ok (.if_acmp .eq off, 3)) (ht : (pc : Int) + off = (tgt : Int)) (kt : a = b → WW p l e R s m args below meth c cells slots Q A D ca ad sh tgt lo st σ) (kf : ¬ a = b → WW p l e R s m args below meth c cells slots Q A D ca ad sh (pc + 3) lo st σ) : WW p l e R s m args below meth c cells slots Q A D ca ad sh pc lo (.ref (ad b) :: .ref (ad a) :: st) σ := fun H locs ls hP hD hS hl =>
  lv_acmp_eq (rx := some (ad a)) (ry := some (ad b)) C.1 C.2.1 d ht (fun h => kt (hD.1 a b _ _ (wd_at ha) (wd_at hb) (Option.some.inj h)) H locs ls hP hD hS hl) (fun h => kf (fun q => h (by rw [q])) H locs ls hP hD hS hl)
theorem s_acmp_ne (C : CX p s m args c D ca A own cc nL) {a b : Nat} {oa ob : sO} (ha : sh[a]? = some oa) (hb : sh[b]? = some ob) {off : Int} {tgt : Nat} (d : decode cc pc = .ok (.if_acmp .ne off, 3)) (ht : (pc : Int) + off = (tgt : Int)) (kt : ¬ a = b → WW p l e R s m args below meth c cells slots Q A D ca ad sh tgt lo st σ) (kf : a = b → WW p l e R s m args below meth c cells slots Q A D ca ad sh (pc + 3) lo st σ) : WW p l e R s m args below meth c cells slots Q A D ca ad sh pc lo (.ref (ad b) :: .ref (ad a) :: st) σ := fun H locs ls hP hD hS hl =>
  lv_acmp_ne (rx := some (ad a)) (ry := some (ad b)) C.1 C.2.1 d ht (fun h => kt (fun q => h (by rw [q])) H locs ls hP hD hS hl) (fun h => kf (hD.1 a b _ _ (wd_at ha) (wd_at hb) (Option.some.inj h)) H locs ls hP hD hS hl)
end WWM
