/-! worlds of a shape: places k with an address ad k; the state is a number for each place and field -/
abbrev St : Type := Nat → Nat → Int32
/-- a field: a reference to a place, or a number (true: a boolean) -/
abbrev sF : Type := Nat ⊕ Bool
/-- a place: an object (its class's number, its fields), or an array (number of its class, length, none: ints; some none: longs that are ints; some (some b): references to the places b, b + 1, ..) -/
abbrev sO : Type := (Nat × List sF) ⊕ (Nat × Nat × Option (Option Nat))
def su (σ : St) (k j : Nat) (v : Int32) : St := fun a b => if a = k ∧ b = j then v else σ a b
theorem su_same (σ : St) (k j : Nat) (v : Int32) : su σ k j v k j = v := by simp [su]
theorem su_ne (σ : St) {k j a b : Nat} (v : Int32) (h : ¬ (a = k ∧ b = j)) : su σ k j v a b = σ a b := by simp only [su, if_neg h]
def sv (ad : Nat → Nat) (f : Nat → Int32) (j : Nat) : sF → Value
  | .inl p => .ref (ad p)
  | .inr false => .int (f j)
  | .inr true => .int (f j &&& 1)
def sc (ca : Nat → ClassId) (ad : Nat → Nat) (f : Nat → Int32) : sO → va_E
  | .inl o => .inr (o.1, o.2.mapIdx (fun j x => sv ad f j x))
  | .inr (t, n, none) => .inl (ca t, n, .inl f)
  | .inr (t, n, some none) => .inl (ca t, n, .inr (.inl (fun j => (f j).toInt64)))
  | .inr (t, n, some (some b)) => .inl (ca t, n, .inr (.inr (.inr (.inr (fun j => some (ad (b + j)))))))
def wd (sh : List sO) (ca : Nat → ClassId) (ad : Nat → Nat) (σ : St) : va_W := sh.mapIdx (fun k o => (ad k, sc ca ad (σ k) o))
theorem wd_at {sh : List sO} {ca : Nat → ClassId} {ad : Nat → Nat} {σ : St} {k : Nat} {o : sO} (h : sh[k]? = some o) : (wd sh ca ad σ)[k]? = some (ad k, sc ca ad (σ k) o) := by
  simp [wd, h]
theorem wd_set {sh : List sO} {ca : Nat → ClassId} {ad : Nat → Nat} {σ τ : St} {k : Nat} {o : sO} {e : va_E} (h : sh[k]? = some o) (he : e = sc ca ad (τ k) o) (ho : ∀ a, a ≠ k → τ a = σ a) : (wd sh ca ad σ).set k (ad k, e) = wd sh ca ad τ := by
  apply List.ext_getElem?
  intro i
  have hk : k < sh.length := (List.getElem?_eq_some_iff.mp h).1
  by_cases hi : i = k
  · subst hi
    rw [wd_at h, List.getElem?_set_self (by simpa [wd] using hk), he]
  · rw [List.getElem?_set_ne (Ne.symm hi)]
    simp [wd, ho i hi]
theorem su_row {σ : St} {k j : Nat} {v : Int32} {a : Nat} (h : a ≠ k) : su σ k j v a = σ a := by
  funext b
  simp [su, h]
theorem su_at {σ : St} {k j : Nat} {v : Int32} : su σ k j v k = upd (σ k) j v := by
  funext b
  simp [su, upd]
theorem sv_set {ad : Nat → Nat} {f : Nat → Int32} {fs : List sF} {j : Nat} {v : Int32} {x : sF} (h : fs[j]? = some x) (hv : sv ad (upd f j v) j x = .int v) : (fs.mapIdx (fun i y => sv ad f i y)).set j (.int v) = fs.mapIdx (fun i y => sv ad (upd f j v) i y) := by
  apply List.ext_getElem?
  intro i
  have hk : j < fs.length := (List.getElem?_eq_some_iff.mp h).1
  by_cases hi : i = j
  · subst hi
    rw [List.getElem?_set_self (by simpa using hk)]
    simp [h, hv]
  · rw [List.getElem?_set_ne (Ne.symm hi)]
    simp only [List.getElem?_mapIdx]
    cases fs[i]? with
    | none => rfl
    | some y =>
      rcases y with y | y
      · rfl
      · cases y <;> simp [sv, upd, hi]
/-! locals -/
def lh (ls : Array Slot) (lo : List (Option Value)) : Prop := ls.size = lo.length ∧ lv_wf ls ∧ (∀ (i : Nat) (v : Value), lo[i]? = some (some v) → ls[i]? = some (.val v)) ∧ ∀ (i : Nat) (v : Value), lo[i]? = some (some v) → v.category = 1
def lvl (lo : List (Option Value)) : List (Nat × Value) := (List.range lo.length).filterMap (fun i => match lo[i]? with | some (some v) => some (i, v) | _ => none)
theorem lvl_mem {lo : List (Option Value)} {q : Nat × Value} : q ∈ lvl lo ↔ lo[q.1]? = some (some q.2) := by
  obtain ⟨i, v⟩ := q
  simp only [lvl, List.mem_filterMap, List.mem_range]
  constructor
  · rintro ⟨a, ha, h⟩
    split at h
    · rename_i w hw
      cases h
      exact hw
    · cases h
  · intro h
    exact ⟨i, (List.getElem?_eq_some_iff.mp h).1, by simp [h]⟩
theorem lh_has {ls : Array Slot} {lo : List (Option Value)} (h : lh ls lo) : lv_has ls lo.length (lvl lo) := ⟨h.1, h.2.1, fun q hq => h.2.2.1 q.1 q.2 (lvl_mem.mp hq)⟩
theorem lh_set {ls ls' : Array Slot} {lo : List (Option Value)} {i : Nat} {v : Value} (h : lh ls lo) (hi : i < lo.length) (hc : v.category = 1) (h' : lv_has ls' lo.length ((i, v) :: (lvl lo).filter (fun q => !(q.1 == i) && !(q.1 + 1 == i && q.2.category == 2)))) : lh ls' (lo.set i (some v)) := by
  refine ⟨by rw [h'.1, List.length_set], h'.2.1, fun j w hj => ?_, fun j w hj => ?_⟩
  · by_cases e : j = i
    · subst e
      rw [List.getElem?_set_self hi] at hj
      cases hj
      exact h'.2.2 (j, v) List.mem_cons_self
    · rw [List.getElem?_set_ne (Ne.symm e)] at hj
      refine h'.2.2 (j, w) (List.mem_cons_of_mem _ (List.mem_filter.mpr ⟨lvl_mem.mpr hj, ?_⟩))
      have := h.2.2.2 j w hj
      simp [e, this]
  · by_cases e : j = i
    · subst e
      rw [List.getElem?_set_self hi] at hj
      cases hj
      exact hc
    · rw [List.getElem?_set_ne (Ne.symm e)] at hj
      exact h.2.2.2 j w hj
theorem lh_sub {ls : Array Slot} {lo lo' : List (Option Value)} (h : lh ls lo) (hl : lo'.length = lo.length) (hs : ∀ (i : Nat) (v : Value), lo'[i]? = some (some v) → lo[i]? = some (some v)) : lh ls lo' := ⟨by rw [hl]; exact h.1, h.2.1, fun i v hi => h.2.2.1 i v (hs i v hi), fun i v hi => h.2.2.2 i v (hs i v hi)⟩
/-- fewer locals: each is the same or forgotten -/
def lfew : List (Option Value) → List (Option Value) → Prop
  | [], [] => True
  | a :: r, b :: q => (b = none ∨ b = a) ∧ lfew r q
  | _, _ => False
theorem lfew_len : ∀ {lo lo' : List (Option Value)}, lfew lo lo' → lo'.length = lo.length
  | [], [], _ => rfl
  | _ :: r, _ :: q, h => by simp [lfew_len h.2]
  | [], _ :: _, h => h.elim
  | _ :: _, [], h => h.elim
theorem lfew_at : ∀ {lo lo' : List (Option Value)}, lfew lo lo' → ∀ (i : Nat) (v : Value), lo'[i]? = some (some v) → lo[i]? = some (some v)
  | [], [], _, i, v, h => by simp at h
  | a :: r, b :: q, hf, 0, v, h => by
    simp only [List.getElem?_cons_zero, Option.some.injEq] at h ⊢
    rcases hf.1 with e | e
    · rw [e] at h; cases h
    · rw [← e]; exact h
  | a :: r, b :: q, hf, i + 1, v, h => by
    simp only [List.getElem?_cons_succ] at h ⊢
    exact lfew_at hf.2 i v h
  | [], _ :: _, hf, _, _, _ => hf.elim
  | _ :: _, [], hf, _, _, _ => hf.elim

/-! the judgement: in every heap that holds the world of σ, with these locals, this stack -/
def WW (p : Program) (l : Launch) (e : Env) (R : Room) (s : State) (m : MethodId) (args : Array Value) (below : List Frame) (meth : Method) (c : Code) (cells slots : Nat) (Q : State → Prop) (A : Nat → Prop) (D : va_G) (ca : Nat → ClassId) (ad : Nat → Nat) (sh : List sO) (pc : Nat) (lo : List (Option Value)) (st : List Value) (σ : St) : Prop :=
  ∀ (H : Heap) (locs : List Loc) (ls : Array Slot), va_P D vwCl (wd sh ca ad σ) H → va_D A (wd sh ca ad σ) → va_S A s.heap H locs → lh ls lo → W p l e R s m args below meth c H locs cells slots Q (F0 m pc ls st)
/-- a method's own: the machine, its code, its class, the words, the classes -/
def CX (p : Program) (s : State) (m : MethodId) (args : Array Value) (c : Code) (D : va_G) (ca : Nat → ClassId) (A : Nat → Prop) (own : String) (cc : ByteArray) (nL : Nat) : Prop :=
  p.tables.exec = Jvm.exec ∧ c.code = cc ∧ c.maxLocals = nL ∧ s.vm.findClass own = some m.cls ∧ (∀ w ∈ WS, w.before args s = true) ∧ va_K D vwCl (tys ca) s ∧ (∀ q, s.heap.size ≤ q → A q) ∧ NWs s
section WWR
variable {p : Program} {l : Launch} {e : Env} {R : Room} {s : State} {m : MethodId} {args : Array Value} {below : List Frame} {meth : Method} {c : Code} {cells slots : Nat} {Q : State → Prop} {A : Nat → Prop} {D : va_G} {ca : Nat → ClassId} {ad : Nat → Nat} {sh : List sO} {own : String} {cc : ByteArray} {nL pc : Nat} {lo : List (Option Value)} {st : List Value} {σ : St}

theorem s_iconst (C : CX p s m args c D ca A own cc nL) {n : Int} {v : Int32} (d : decode cc pc = .ok (.iconst n, 1)) (hv : Int32.ofInt n = v) (k : WW p l e R s m args below meth c cells slots Q A D ca ad sh (pc + 1) lo (.int v :: st) σ) : WW p l e R s m args below meth c cells slots Q A D ca ad sh pc lo st σ := fun H locs ls hP hD hS hl => lv_iconst C.1 C.2.1 d hv (k H locs ls hP hD hS hl)
theorem s_bipush (C : CX p s m args c D ca A own cc nL) {n : Int} {v : Int32} (d : decode cc pc = .ok (.bipush n, 2)) (hv : (Int8.ofInt n).toInt32 = v) (k : WW p l e R s m args below meth c cells slots Q A D ca ad sh (pc + 2) lo (.int v :: st) σ) : WW p l e R s m args below meth c cells slots Q A D ca ad sh pc lo st σ := fun H locs ls hP hD hS hl => lv_bipush C.1 C.2.1 d hv (k H locs ls hP hD hS hl)
theorem s_sipush (C : CX p s m args c D ca A own cc nL) {n : Int} {v : Int32} (d : decode cc pc = .ok (.sipush n, 3)) (hv : (Int16.ofInt n).toInt32 = v) (k : WW p l e R s m args below meth c cells slots Q A D ca ad sh (pc + 3) lo (.int v :: st) σ) : WW p l e R s m args below meth c cells slots Q A D ca ad sh pc lo st σ := fun H locs ls hP hD hS hl => lv_sipush C.1 C.2.1 d hv (k H locs ls hP hD hS hl)
theorem s_iloadn (C : CX p s m args c D ca A own cc nL) {q : Fin 4} {x : Int32} (d : decode cc pc = .ok (.iload_n q, 1)) (hx : lo[(q : Nat)]? = some (some (.int x))) (k : WW p l e R s m args below meth c cells slots Q A D ca ad sh (pc + 1) lo (.int x :: st) σ) : WW p l e R s m args below meth c cells slots Q A D ca ad sh pc lo st σ := fun H locs ls hP hD hS hl => lv_iload_n C.1 C.2.1 d rfl (hl.2.2.1 _ _ hx) (k H locs ls hP hD hS hl)
theorem s_iload (C : CX p s m args c D ca A own cc nL) {i : Nat} {x : Int32} (d : decode cc pc = .ok (.iload i, 2)) (hx : lo[i]? = some (some (.int x))) (k : WW p l e R s m args below meth c cells slots Q A D ca ad sh (pc + 2) lo (.int x :: st) σ) : WW p l e R s m args below meth c cells slots Q A D ca ad sh pc lo st σ := fun H locs ls hP hD hS hl => lv_iload C.1 C.2.1 d (hl.2.2.1 _ _ hx) (k H locs ls hP hD hS hl)
theorem s_istoren (C : CX p s m args c D ca A own cc nL) {q : Fin 4} {x : Int32} {lo' : List (Option Value)} (d : decode cc pc = .ok (.istore_n q, 1)) (hi : (q : Nat) < lo.length) (hs : lo.set q (some (.int x)) = lo') (k : WW p l e R s m args below meth c cells slots Q A D ca ad sh (pc + 1) lo' st σ) : WW p l e R s m args below meth c cells slots Q A D ca ad sh pc lo (.int x :: st) σ := fun H locs ls hP hD hS hl => lv_istore_n C.1 C.2.1 d rfl (lh_has hl) hi rfl (fun ls' h' => k H locs ls' hP hD hS (hs ▸ lh_set hl hi rfl h'))
theorem s_istore (C : CX p s m args c D ca A own cc nL) {i : Nat} {x : Int32} {lo' : List (Option Value)} (d : decode cc pc = .ok (.istore i, 2)) (hi : i < lo.length) (hs : lo.set i (some (.int x)) = lo') (k : WW p l e R s m args below meth c cells slots Q A D ca ad sh (pc + 2) lo' st σ) : WW p l e R s m args below meth c cells slots Q A D ca ad sh pc lo (.int x :: st) σ := fun H locs ls hP hD hS hl => lv_istore C.1 C.2.1 d (lh_has hl) hi rfl (fun ls' h' => k H locs ls' hP hD hS (hs ▸ lh_set hl hi rfl h'))
theorem s_aloadn (C : CX p s m args c D ca A own cc nL) {q : Fin 4} {x : Nat} (d : decode cc pc = .ok (.aload_n q, 1)) (hx : lo[(q : Nat)]? = some (some (.ref x))) (k : WW p l e R s m args below meth c cells slots Q A D ca ad sh (pc + 1) lo (.ref x :: st) σ) : WW p l e R s m args below meth c cells slots Q A D ca ad sh pc lo st σ := fun H locs ls hP hD hS hl => lv_aload_n C.1 C.2.1 d rfl (hl.2.2.1 _ _ hx) (k H locs ls hP hD hS hl)
theorem s_aload (C : CX p s m args c D ca A own cc nL) {i : Nat} {x : Nat} (d : decode cc pc = .ok (.aload i, 2)) (hx : lo[i]? = some (some (.ref x))) (k : WW p l e R s m args below meth c cells slots Q A D ca ad sh (pc + 2) lo (.ref x :: st) σ) : WW p l e R s m args below meth c cells slots Q A D ca ad sh pc lo st σ := fun H locs ls hP hD hS hl => lv_aload C.1 C.2.1 d (hl.2.2.1 _ _ hx) (k H locs ls hP hD hS hl)
theorem s_astoren (C : CX p s m args c D ca A own cc nL) {q : Fin 4} {x : Nat} {lo' : List (Option Value)} (d : decode cc pc = .ok (.astore_n q, 1)) (hi : (q : Nat) < lo.length) (hs : lo.set q (some (.ref x)) = lo') (k : WW p l e R s m args below meth c cells slots Q A D ca ad sh (pc + 1) lo' st σ) : WW p l e R s m args below meth c cells slots Q A D ca ad sh pc lo (.ref x :: st) σ := fun H locs ls hP hD hS hl => lv_astore_n C.1 C.2.1 d rfl (lh_has hl) hi rfl (fun ls' h' => k H locs ls' hP hD hS (hs ▸ lh_set hl hi rfl h'))
theorem s_astore (C : CX p s m args c D ca A own cc nL) {i : Nat} {x : Nat} {lo' : List (Option Value)} (d : decode cc pc = .ok (.astore i, 2)) (hi : i < lo.length) (hs : lo.set i (some (.ref x)) = lo') (k : WW p l e R s m args below meth c cells slots Q A D ca ad sh (pc + 2) lo' st σ) : WW p l e R s m args below meth c cells slots Q A D ca ad sh pc lo (.ref x :: st) σ := fun H locs ls hP hD hS hl => lv_astore C.1 C.2.1 d (lh_has hl) hi rfl (fun ls' h' => k H locs ls' hP hD hS (hs ▸ lh_set hl hi rfl h'))
theorem s_iinc (C : CX p s m args c D ca A own cc nL) {i : Nat} {n : Int} {x v : Int32} {lo' : List (Option Value)} (d : decode cc pc = .ok (.iinc i n, 3)) (hx : lo[i]? = some (some (.int x))) (hv : x + Int32.ofInt n = v) (hs : lo.set i (some (.int v)) = lo') (k : WW p l e R s m args below meth c cells slots Q A D ca ad sh (pc + 3) lo' st σ) : WW p l e R s m args below meth c cells slots Q A D ca ad sh pc lo st σ := fun H locs ls hP hD hS hl => by
  have hi : i < lo.length := (List.getElem?_eq_some_iff.mp hx).1
  obtain ⟨j, hj⟩ := List.getElem?_of_mem (lvl_mem (q := (i, .int x)).mpr hx)
  exact lv_iinc C.1 C.2.1 d (lh_has hl) hj hv hi rfl (fun ls' h' => k H locs ls' hP hD hS (hs ▸ lh_set hl hi rfl h'))
theorem s_iadd (C : CX p s m args c D ca A own cc nL) {x y : Int32} (d : decode cc pc = .ok (.iadd, 1)) (k : WW p l e R s m args below meth c cells slots Q A D ca ad sh (pc + 1) lo (.int (x + y) :: st) σ) : WW p l e R s m args below meth c cells slots Q A D ca ad sh pc lo (.int y :: .int x :: st) σ := fun H locs ls hP hD hS hl => lv_iadd C.1 C.2.1 d (k H locs ls hP hD hS hl)
theorem s_isub (C : CX p s m args c D ca A own cc nL) {x y : Int32} (d : decode cc pc = .ok (.isub, 1)) (k : WW p l e R s m args below meth c cells slots Q A D ca ad sh (pc + 1) lo (.int (x - y) :: st) σ) : WW p l e R s m args below meth c cells slots Q A D ca ad sh pc lo (.int y :: .int x :: st) σ := fun H locs ls hP hD hS hl => lv_isub C.1 C.2.1 d (k H locs ls hP hD hS hl)
theorem s_imul (C : CX p s m args c D ca A own cc nL) {x y : Int32} (d : decode cc pc = .ok (.imul, 1)) (k : WW p l e R s m args below meth c cells slots Q A D ca ad sh (pc + 1) lo (.int (x * y) :: st) σ) : WW p l e R s m args below meth c cells slots Q A D ca ad sh pc lo (.int y :: .int x :: st) σ := fun H locs ls hP hD hS hl => lv_imul C.1 C.2.1 d (k H locs ls hP hD hS hl)
theorem s_iand (C : CX p s m args c D ca A own cc nL) {x y : Int32} (d : decode cc pc = .ok (.iand, 1)) (k : WW p l e R s m args below meth c cells slots Q A D ca ad sh (pc + 1) lo (.int (x &&& y) :: st) σ) : WW p l e R s m args below meth c cells slots Q A D ca ad sh pc lo (.int y :: .int x :: st) σ := fun H locs ls hP hD hS hl => lv_iand C.1 C.2.1 d (k H locs ls hP hD hS hl)
theorem s_ior (C : CX p s m args c D ca A own cc nL) {x y : Int32} (d : decode cc pc = .ok (.ior, 1)) (k : WW p l e R s m args below meth c cells slots Q A D ca ad sh (pc + 1) lo (.int (x ||| y) :: st) σ) : WW p l e R s m args below meth c cells slots Q A D ca ad sh pc lo (.int y :: .int x :: st) σ := fun H locs ls hP hD hS hl => lv_ior C.1 C.2.1 d (k H locs ls hP hD hS hl)
theorem s_ixor (C : CX p s m args c D ca A own cc nL) {x y : Int32} (d : decode cc pc = .ok (.ixor, 1)) (k : WW p l e R s m args below meth c cells slots Q A D ca ad sh (pc + 1) lo (.int (x ^^^ y) :: st) σ) : WW p l e R s m args below meth c cells slots Q A D ca ad sh pc lo (.int y :: .int x :: st) σ := fun H locs ls hP hD hS hl => lv_ixor C.1 C.2.1 d (k H locs ls hP hD hS hl)
theorem s_ishl (C : CX p s m args c D ca A own cc nL) {x y : Int32} (d : decode cc pc = .ok (.ishl, 1)) (k : WW p l e R s m args below meth c cells slots Q A D ca ad sh (pc + 1) lo (.int (x <<< (y &&& 31)) :: st) σ) : WW p l e R s m args below meth c cells slots Q A D ca ad sh pc lo (.int y :: .int x :: st) σ := fun H locs ls hP hD hS hl => lv_ishl C.1 C.2.1 d (k H locs ls hP hD hS hl)
theorem s_ishr (C : CX p s m args c D ca A own cc nL) {x y : Int32} (d : decode cc pc = .ok (.ishr, 1)) (k : WW p l e R s m args below meth c cells slots Q A D ca ad sh (pc + 1) lo (.int (x >>> (y &&& 31)) :: st) σ) : WW p l e R s m args below meth c cells slots Q A D ca ad sh pc lo (.int y :: .int x :: st) σ := fun H locs ls hP hD hS hl => lv_ishr C.1 C.2.1 d (k H locs ls hP hD hS hl)
theorem s_idiv (C : CX p s m args c D ca A own cc nL) {x y : Int32} (d : decode cc pc = .ok (.idiv, 1)) (hne : ¬ y = 0) (k : WW p l e R s m args below meth c cells slots Q A D ca ad sh (pc + 1) lo (.int (x / y) :: st) σ) : WW p l e R s m args below meth c cells slots Q A D ca ad sh pc lo (.int y :: .int x :: st) σ := fun H locs ls hP hD hS hl => lv_idiv C.1 C.2.1 d hne (k H locs ls hP hD hS hl)
theorem s_irem (C : CX p s m args c D ca A own cc nL) {x y : Int32} (d : decode cc pc = .ok (.irem, 1)) (hne : ¬ y = 0) (k : WW p l e R s m args below meth c cells slots Q A D ca ad sh (pc + 1) lo (.int (x - x / y * y) :: st) σ) : WW p l e R s m args below meth c cells slots Q A D ca ad sh pc lo (.int y :: .int x :: st) σ := fun H locs ls hP hD hS hl => lv_irem C.1 C.2.1 d hne (k H locs ls hP hD hS hl)
theorem s_ineg (C : CX p s m args c D ca A own cc nL) {x : Int32} (d : decode cc pc = .ok (.ineg, 1)) (k : WW p l e R s m args below meth c cells slots Q A D ca ad sh (pc + 1) lo (.int (-x) :: st) σ) : WW p l e R s m args below meth c cells slots Q A D ca ad sh pc lo (.int x :: st) σ := fun H locs ls hP hD hS hl => lv_ineg C.1 C.2.1 d (k H locs ls hP hD hS hl)
theorem s_iushr (C : CX p s m args c D ca A own cc nL) {x y : Int32} (d : decode cc pc = .ok (.iushr, 1)) (k : WW p l e R s m args below meth c cells slots Q A D ca ad sh (pc + 1) lo (.int ((x.toUInt32 >>> (y.toUInt32 &&& Int32.toUInt32 31)).toInt32) :: st) σ) : WW p l e R s m args below meth c cells slots Q A D ca ad sh pc lo (.int y :: .int x :: st) σ := fun H locs ls hP hD hS hl => lv_iushr C.1 C.2.1 d rfl (k H locs ls hP hD hS hl)
theorem s_dup (C : CX p s m args c D ca A own cc nL) {v : Value} (d : decode cc pc = .ok (.dup, 1)) (hv : v.category = 1) (k : WW p l e R s m args below meth c cells slots Q A D ca ad sh (pc + 1) lo (v :: v :: st) σ) : WW p l e R s m args below meth c cells slots Q A D ca ad sh pc lo (v :: st) σ := fun H locs ls hP hD hS hl => lv_dup C.1 C.2.1 d hv (k H locs ls hP hD hS hl)
theorem s_pop (C : CX p s m args c D ca A own cc nL) {v : Value} (d : decode cc pc = .ok (.pop, 1)) (hv : v.category = 1) (k : WW p l e R s m args below meth c cells slots Q A D ca ad sh (pc + 1) lo st σ) : WW p l e R s m args below meth c cells slots Q A D ca ad sh pc lo (v :: st) σ := fun H locs ls hP hD hS hl => lv_pop C.1 C.2.1 d hv (k H locs ls hP hD hS hl)
theorem s_dupx1 (C : CX p s m args c D ca A own cc nL) {v w : Value} (d : decode cc pc = .ok (.dup_x1, 1)) (hv : v.category = 1) (hw : w.category = 1) (k : WW p l e R s m args below meth c cells slots Q A D ca ad sh (pc + 1) lo (v :: w :: v :: st) σ) : WW p l e R s m args below meth c cells slots Q A D ca ad sh pc lo (v :: w :: st) σ := fun H locs ls hP hD hS hl => lv_dup_x1 C.1 C.2.1 d hv hw (k H locs ls hP hD hS hl)
theorem s_dup2 (C : CX p s m args c D ca A own cc nL) {v w : Value} (d : decode cc pc = .ok (.dup2, 1)) (hv : v.category = 1) (hw : w.category = 1) (k : WW p l e R s m args below meth c cells slots Q A D ca ad sh (pc + 1) lo (v :: w :: v :: w :: st) σ) : WW p l e R s m args below meth c cells slots Q A D ca ad sh pc lo (v :: w :: st) σ := fun H locs ls hP hD hS hl => lv_dup2_11 C.1 C.2.1 d hv hw (k H locs ls hP hD hS hl)
theorem s_goto (C : CX p s m args c D ca A own cc nL) {off : Int} {tgt : Nat} (d : decode cc pc = .ok (.goto off, 3)) (ht : (pc : Int) + off = (tgt : Int)) (k : WW p l e R s m args below meth c cells slots Q A D ca ad sh tgt lo st σ) : WW p l e R s m args below meth c cells slots Q A D ca ad sh pc lo st σ := fun H locs ls hP hD hS hl => lv_goto C.1 C.2.1 d ht (k H locs ls hP hD hS hl)
theorem s_if_eq (C : CX p s m args c D ca A own cc nL) {x : Int32} {off : Int} {tgt : Nat} (d : decode cc pc = .ok (.ifCond .eq off, 3)) (ht : (pc : Int) + off = (tgt : Int)) (kt : x = 0 → WW p l e R s m args below meth c cells slots Q A D ca ad sh tgt lo st σ) (kf : ¬ x = 0 → WW p l e R s m args below meth c cells slots Q A D ca ad sh (pc + 3) lo st σ) : WW p l e R s m args below meth c cells slots Q A D ca ad sh pc lo (.int x :: st) σ := fun H locs ls hP hD hS hl => lv_if_eq C.1 C.2.1 d ht (fun h => kt h H locs ls hP hD hS hl) (fun h => kf h H locs ls hP hD hS hl)
theorem s_icmp_eq (C : CX p s m args c D ca A own cc nL) {x y : Int32} {off : Int} {tgt : Nat} (d : decode cc pc = .ok (.if_icmp .eq off, 3)) (ht : (pc : Int) + off = (tgt : Int)) (kt : x = y → WW p l e R s m args below meth c cells slots Q A D ca ad sh tgt lo st σ) (kf : ¬ x = y → WW p l e R s m args below meth c cells slots Q A D ca ad sh (pc + 3) lo st σ) : WW p l e R s m args below meth c cells slots Q A D ca ad sh pc lo (.int y :: .int x :: st) σ := fun H locs ls hP hD hS hl => lv_icmp_eq C.1 C.2.1 d ht (fun h => kt h H locs ls hP hD hS hl) (fun h => kf h H locs ls hP hD hS hl)
theorem s_if_lt (C : CX p s m args c D ca A own cc nL) {x : Int32} {off : Int} {tgt : Nat} (d : decode cc pc = .ok (.ifCond .lt off, 3)) (ht : (pc : Int) + off = (tgt : Int)) (kt : x < 0 → WW p l e R s m args below meth c cells slots Q A D ca ad sh tgt lo st σ) (kf : ¬ x < 0 → WW p l e R s m args below meth c cells slots Q A D ca ad sh (pc + 3) lo st σ) : WW p l e R s m args below meth c cells slots Q A D ca ad sh pc lo (.int x :: st) σ := fun H locs ls hP hD hS hl => lv_if_lt C.1 C.2.1 d ht (fun h => kt h H locs ls hP hD hS hl) (fun h => kf h H locs ls hP hD hS hl)
theorem s_icmp_lt (C : CX p s m args c D ca A own cc nL) {x y : Int32} {off : Int} {tgt : Nat} (d : decode cc pc = .ok (.if_icmp .lt off, 3)) (ht : (pc : Int) + off = (tgt : Int)) (kt : x < y → WW p l e R s m args below meth c cells slots Q A D ca ad sh tgt lo st σ) (kf : ¬ x < y → WW p l e R s m args below meth c cells slots Q A D ca ad sh (pc + 3) lo st σ) : WW p l e R s m args below meth c cells slots Q A D ca ad sh pc lo (.int y :: .int x :: st) σ := fun H locs ls hP hD hS hl => lv_icmp_lt C.1 C.2.1 d ht (fun h => kt h H locs ls hP hD hS hl) (fun h => kf h H locs ls hP hD hS hl)
theorem s_if_ge (C : CX p s m args c D ca A own cc nL) {x : Int32} {off : Int} {tgt : Nat} (d : decode cc pc = .ok (.ifCond .ge off, 3)) (ht : (pc : Int) + off = (tgt : Int)) (kt : 0 ≤ x → WW p l e R s m args below meth c cells slots Q A D ca ad sh tgt lo st σ) (kf : ¬ 0 ≤ x → WW p l e R s m args below meth c cells slots Q A D ca ad sh (pc + 3) lo st σ) : WW p l e R s m args below meth c cells slots Q A D ca ad sh pc lo (.int x :: st) σ := fun H locs ls hP hD hS hl => lv_if_ge C.1 C.2.1 d ht (fun h => kt h H locs ls hP hD hS hl) (fun h => kf h H locs ls hP hD hS hl)
theorem s_icmp_ge (C : CX p s m args c D ca A own cc nL) {x y : Int32} {off : Int} {tgt : Nat} (d : decode cc pc = .ok (.if_icmp .ge off, 3)) (ht : (pc : Int) + off = (tgt : Int)) (kt : y ≤ x → WW p l e R s m args below meth c cells slots Q A D ca ad sh tgt lo st σ) (kf : ¬ y ≤ x → WW p l e R s m args below meth c cells slots Q A D ca ad sh (pc + 3) lo st σ) : WW p l e R s m args below meth c cells slots Q A D ca ad sh pc lo (.int y :: .int x :: st) σ := fun H locs ls hP hD hS hl => lv_icmp_ge C.1 C.2.1 d ht (fun h => kt h H locs ls hP hD hS hl) (fun h => kf h H locs ls hP hD hS hl)
theorem s_if_gt (C : CX p s m args c D ca A own cc nL) {x : Int32} {off : Int} {tgt : Nat} (d : decode cc pc = .ok (.ifCond .gt off, 3)) (ht : (pc : Int) + off = (tgt : Int)) (kt : 0 < x → WW p l e R s m args below meth c cells slots Q A D ca ad sh tgt lo st σ) (kf : ¬ 0 < x → WW p l e R s m args below meth c cells slots Q A D ca ad sh (pc + 3) lo st σ) : WW p l e R s m args below meth c cells slots Q A D ca ad sh pc lo (.int x :: st) σ := fun H locs ls hP hD hS hl => lv_if_gt C.1 C.2.1 d ht (fun h => kt h H locs ls hP hD hS hl) (fun h => kf h H locs ls hP hD hS hl)
theorem s_icmp_gt (C : CX p s m args c D ca A own cc nL) {x y : Int32} {off : Int} {tgt : Nat} (d : decode cc pc = .ok (.if_icmp .gt off, 3)) (ht : (pc : Int) + off = (tgt : Int)) (kt : y < x → WW p l e R s m args below meth c cells slots Q A D ca ad sh tgt lo st σ) (kf : ¬ y < x → WW p l e R s m args below meth c cells slots Q A D ca ad sh (pc + 3) lo st σ) : WW p l e R s m args below meth c cells slots Q A D ca ad sh pc lo (.int y :: .int x :: st) σ := fun H locs ls hP hD hS hl => lv_icmp_gt C.1 C.2.1 d ht (fun h => kt h H locs ls hP hD hS hl) (fun h => kf h H locs ls hP hD hS hl)
theorem s_if_le (C : CX p s m args c D ca A own cc nL) {x : Int32} {off : Int} {tgt : Nat} (d : decode cc pc = .ok (.ifCond .le off, 3)) (ht : (pc : Int) + off = (tgt : Int)) (kt : x ≤ 0 → WW p l e R s m args below meth c cells slots Q A D ca ad sh tgt lo st σ) (kf : ¬ x ≤ 0 → WW p l e R s m args below meth c cells slots Q A D ca ad sh (pc + 3) lo st σ) : WW p l e R s m args below meth c cells slots Q A D ca ad sh pc lo (.int x :: st) σ := fun H locs ls hP hD hS hl => lv_if_le C.1 C.2.1 d ht (fun h => kt h H locs ls hP hD hS hl) (fun h => kf h H locs ls hP hD hS hl)
theorem s_icmp_le (C : CX p s m args c D ca A own cc nL) {x y : Int32} {off : Int} {tgt : Nat} (d : decode cc pc = .ok (.if_icmp .le off, 3)) (ht : (pc : Int) + off = (tgt : Int)) (kt : x ≤ y → WW p l e R s m args below meth c cells slots Q A D ca ad sh tgt lo st σ) (kf : ¬ x ≤ y → WW p l e R s m args below meth c cells slots Q A D ca ad sh (pc + 3) lo st σ) : WW p l e R s m args below meth c cells slots Q A D ca ad sh pc lo (.int y :: .int x :: st) σ := fun H locs ls hP hD hS hl => lv_icmp_le C.1 C.2.1 d ht (fun h => kt h H locs ls hP hD hS hl) (fun h => kf h H locs ls hP hD hS hl)
theorem s_if_ne (C : CX p s m args c D ca A own cc nL) {x : Int32} {off : Int} {tgt : Nat} (d : decode cc pc = .ok (.ifCond .ne off, 3)) (ht : (pc : Int) + off = (tgt : Int)) (kt : ¬ x = 0 → WW p l e R s m args below meth c cells slots Q A D ca ad sh tgt lo st σ) (kf : x = 0 → WW p l e R s m args below meth c cells slots Q A D ca ad sh (pc + 3) lo st σ) : WW p l e R s m args below meth c cells slots Q A D ca ad sh pc lo (.int x :: st) σ := fun H locs ls hP hD hS hl => lv_if_ne C.1 C.2.1 d ht (fun h => kt h H locs ls hP hD hS hl) (fun h => kf h H locs ls hP hD hS hl)
theorem s_icmp_ne (C : CX p s m args c D ca A own cc nL) {x y : Int32} {off : Int} {tgt : Nat} (d : decode cc pc = .ok (.if_icmp .ne off, 3)) (ht : (pc : Int) + off = (tgt : Int)) (kt : ¬ x = y → WW p l e R s m args below meth c cells slots Q A D ca ad sh tgt lo st σ) (kf : x = y → WW p l e R s m args below meth c cells slots Q A D ca ad sh (pc + 3) lo st σ) : WW p l e R s m args below meth c cells slots Q A D ca ad sh pc lo (.int y :: .int x :: st) σ := fun H locs ls hP hD hS hl => lv_icmp_ne C.1 C.2.1 d ht (fun h => kt h H locs ls hP hD hS hl) (fun h => kf h H locs ls hP hD hS hl)
theorem s_few {lo' : List (Option Value)} (h : lfew lo lo') (k : WW p l e R s m args below meth c cells slots Q A D ca ad sh pc lo' st σ) : WW p l e R s m args below meth c cells slots Q A D ca ad sh pc lo st σ := fun H locs ls hP hD hS hl => k H locs ls hP hD hS (lh_sub hl (lfew_len h) (lfew_at h))
end WWR
