/-! for the printed functions and walks -/
theorem lf0 : lfew [] [] := trivial
theorem lfS {a : Option Value} {r q : List (Option Value)} (h : lfew r q) : lfew (a :: r) (a :: q) := ⟨Or.inr rfl, h⟩
theorem lfN {a : Option Value} {r q : List (Option Value)} (h : lfew r q) : lfew (a :: r) (none :: q) := ⟨Or.inl rfl, h⟩
theorem cc0 : ∀ v ∈ ([] : List Value), v.category = 1 := fun _ h => nomatch h
theorem ccI {x : Int32} {l : List Value} (h : ∀ v ∈ l, v.category = 1) : ∀ v ∈ Value.int x :: l, v.category = 1 := fun v hv => (List.mem_cons.mp hv).elim (fun e => by rw [e]; rfl) (h v)
theorem ccR {x : Nat} {l : List Value} (h : ∀ v ∈ l, v.category = 1) : ∀ v ∈ Value.ref x :: l, v.category = 1 := fun v hv => (List.mem_cons.mp hv).elim (fun e => by rw [e]; rfl) (h v)
theorem s_st {p : Program} {l : Launch} {e : Env} {R : Room} {s : State} {m : MethodId} {args : Array Value} {below : List Frame} {meth : Method} {c : Code} {cells slots : Nat} {Q : State → Prop} {A : Nat → Prop} {D : va_G} {ca : Nat → ClassId} {ad : Nat → Nat} {sh : List sO} {pc : Nat} {lo : List (Option Value)} {st st' : List Value} {σ : St} (h : st = st') (k : WW p l e R s m args below meth c cells slots Q A D ca ad sh pc lo st' σ) : WW p l e R s m args below meth c cells slots Q A D ca ad sh pc lo st σ := h ▸ k
theorem cM.intro2 {l : Launch} {y : MethodName} {cc : ByteArray} {nL : Nat} {ret : Option FieldType} {rm : Room} {D : va_G} {ca : Nat → ClassId} {ad : Nat → Nat} {sh : List sO} {av : List Value} {σ : St} {ov : Option Value} {τ : St} {own : String} {lo : List (Option Value)}
    (hy : plainName y.cls = true) (hown : y.cls = own) (hc : ∀ v ∈ av, v.category = 1) (hn : av.length ≤ nL) (hlo : lo0 av nL = lo)
    (k : ∀ (p : Program) (e : Env) (s : State) (m : MethodId) (args : Array Value) (below : List Frame) (meth : Method) (c : Code) (A : Nat → Prop), CX p s m args c D ca A own cc nL → meth.sig.returnType = ret → meth.locks = false →
      WW p l e rm s m args below meth c 0 0 (EQ D ca ad sh A below args s ov τ) A D ca ad sh 0 lo [] σ) : cM l y (.code y cc nL ret) rm D ca ad sh av σ ov τ := cM.intro hy hown hc hn (by rw [hlo]; exact k)
theorem SH_0 : SH[0]? = some oPS := rfl
theorem SH_1 : SH[1]? = some (.inr (1, 6, some (some 5))) := rfl
theorem SH_4 : SH[4]? = some (.inr (0, 6, none)) := rfl
theorem SH_25 : SH[25]? = some oM := rfl
theorem SH_26 : SH[26]? = some (.inr (0, 18, none)) := rfl
theorem SH_27 : SH[27]? = some (.inr (0, 6, none)) := rfl
theorem SH_28 : SH[28]? = some (.inr (0, 6, none)) := rfl
theorem SH_29 : SH[29]? = some (.inr (0, 6, none)) := rfl
theorem SH_30 : SH[30]? = some (.inr (0, 6, none)) := rfl
theorem SH_31 : SH[31]? = some (.inr (0, 6, none)) := rfl
theorem SH_32 : SH[32]? = some (.inr (0, 6, none)) := rfl
theorem SH_33 : SH[33]? = some (.inr (0, 6, none)) := rfl
theorem SH_34 : SH[34]? = some (.inr (0, 6, none)) := rfl
theorem SH_35 : SH[35]? = some (.inr (0, 6, none)) := rfl
theorem SH_36 : SH[36]? = some (.inr (0, 6, none)) := rfl
theorem SH_37 : SH[37]? = some (.inr (0, 6, none)) := rfl
theorem SH_38 : SH[38]? = some (.inr (0, 6, none)) := rfl
theorem SH_39 : SH[39]? = some (.inr (0, 6, none)) := rfl
theorem SH_40 : SH[40]? = some (.inr (0, 6, none)) := rfl
theorem SH_41 : SH[41]? = some (.inr (0, 6, none)) := rfl
theorem SH_42 : SH[42]? = some (.inr (0, 6, none)) := rfl
theorem SH_43 : SH[43]? = some (.inr (0, 6, none)) := rfl
theorem SH_44 : SH[44]? = some (.inr (0, 7, none)) := rfl
theorem SH_45 : SH[45]? = some (.inr (0, 7, none)) := rfl
theorem SH_46 : SH[46]? = some (.inr (0, 7, none)) := rfl
theorem SH_47 : SH[47]? = some (.inr (0, 7, none)) := rfl
theorem SH_48 : SH[48]? = some (.inr (0, 168, none)) := rfl
theorem SH_49 : SH[49]? = some (.inr (0, 21, none)) := rfl
theorem SH_50 : SH[50]? = some (.inr (0, 8, none)) := rfl
theorem SH_51 : SH[51]? = some (.inr (3, 1, some none)) := rfl
