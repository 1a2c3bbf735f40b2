theorem WS_good : ∀ w ∈ WS, goodWord w = true := fun w h => (List.mem_filter.mp h).2
theorem WS_in {cw : Cond} (h : cw ∈ WS) : GoodIn WS (cw :: WS) := fun w hw => by
  rcases List.mem_cons.mp hw with rfl | hw
  · exact ⟨h, good_of_word (WS_good _ h)⟩
  · exact ⟨hw, good_of_word (WS_good _ hw)⟩
/-- the words of a call -/
def KV (own : String) (index : Nat) (y : MethodName) (Cn : String) (bytes : ByteArray) (maxL : Nat) (ret : Option FieldType) (n : Nat) : Prop :=
  (∀ w ∈ ([.methodLink own index y, .instanceMethod y, .selects Cn y y, .initialized Cn, .code y bytes maxL ret] : List Cond), w ∈ WS) ∧ y.cls = Cn ∧ y.cls ≠ "java/lang/invoke/MethodHandle" ∧ y.cls ≠ "java/lang/invoke/VarHandle" ∧ (parseMethodDescriptor y.desc).map (fun d => d.parameters.length) = some n
def KS (own : String) (index : Nat) (y : MethodName) (bytes : ByteArray) (maxL : Nat) (ret : Option FieldType) (n : Nat) : Prop :=
  (∀ w ∈ ([.methodLink own index y, .static y, .initialized own, .code y bytes maxL ret] : List Cond), w ∈ WS) ∧ y.cls = own ∧ y.cls ≠ "java/lang/invoke/MethodHandle" ∧ y.cls ≠ "java/lang/invoke/VarHandle" ∧ (parseMethodDescriptor y.desc).map (fun d => d.parameters.length) = some n
section WWK
variable {p : Program} {l : Launch} {e : Env} {R : Room} {s : State} {m : MethodId} {args : Array Value} {below : List Frame} {meth : Method} {c : Code} {cells slots : Nat} {Q : State → Prop} {A : Nat → Prop} {D : va_G} {ca : Nat → ClassId} {ad : Nat → Nat} {sh : List sO} {own : String} {cc : ByteArray} {nL pc : Nat} {lo : List (Option Value)} {σ τ : St} {ov : Option Value}
variable {y : MethodName} {bytes : ByteArray} {maxL n index q ci : Nat} {ret : Option FieldType} {rm : Room} {Cn : String} {fs : List sF} {As rest st0 : List Value}
theorem s_callV (C : CX p s m args c D ca A own cc nL) (hlo : lo.length = nL) (hM : cM l y (.code y bytes maxL ret) rm D ca ad sh (.ref (ad q) :: As) σ ov τ) (hw : KV own index y Cn bytes maxL ret n)
    (hrm : rm.cells = 0 ∧ rm.slots = 0) (hR : rm.frames + 1 ≤ R.frames ∧ 8 + (maxL + 11) + rm.locals ≤ R.locals) (hq : sh[q]? = some (.inl (ci, fs))) (hci : ∃ x : vw_C, vwCl[ci]? = some x ∧ x.1 = Cn)
    (hn : As.length = n) (hst : st0 = As.reverse ++ .ref (ad q) :: rest) (hW : (rest.map fun v => v.category).sum ≤ 8) (d : decode cc pc = .ok (.invokevirtual index, 3)) (hcs : cells ≤ R.cells ∧ slots ≤ R.slots)
    (k : WW p l e R s m args below meth c cells slots Q A D ca ad sh (pc + 3) lo (ov.toList ++ rest) τ) : WW p l e R s m args below meth c cells slots Q A D ca ad sh pc lo st0 σ := by
  refine s_back C (ov := ov) (rest := rest) (fun H locs ls hP hD hl => ?_) k
  obtain ⟨x, hx1, hx2⟩ := hci
  subst hst
  have hG : GoodIn WS (wsV own index Cn y (.code y bytes maxL ret :: WS)) := by
    intro w hw'
    have hin : w ∈ WS := by
      rcases List.mem_append.mp hw' with h | h
      · exact hw.1 w (by simp only [List.mem_cons, List.not_mem_nil, or_false] at h ⊢; rcases h with h | h | h | h <;> simp [h])
      · rcases List.mem_cons.mp h with h | h
        · exact hw.1 w (by simp [h])
        · exact h
    exact ⟨hin, good_of_word (WS_good w hin)⟩
  exact va_runV (b := ad q) (As := As) (rest := rest) (n := n) ⟨C.1, C.2.1, C.2.2.1, C.2.2.2.1, C.2.2.2.2.1⟩ (hM H.size) (cwV n C.2.2.2.2.1 hG rfl hrm.1 hrm.2 hw.2 hR)
    ⟨fun a U g mk q => by obtain ⟨q0, q1, qP, qK, qD, qN⟩ := q; exact ⟨q0, q1, qP, va_K.moved (u := U) (U := U.calling g mk a) (Vm.Alike.refl U.vm) qK, qD, NWs.same (u := U) (U := U.calling g mk a) rfl qN⟩, by have := va_recv C.2.2.2.2.2.1 hP hx1 (wd_at hq); rw [hx2] at this; exact this, fun U hU hW => ⟨rfl, by rw [hU], by rw [hU]; exact hP, va_K.moved hW.alike C.2.2.2.2.2.1, hD.weaken (fun _ _ _ _ => trivial), NWs.warm hW C.2.2.2.2.2.2.2⟩⟩
    rfl hn (by show ls.size = _; rw [hl.1, hlo]) rfl (lv_room hW) d ⟨by simpa using hcs.1, by simpa using hcs.2⟩
theorem s_callS (C : CX p s m args c D ca A own cc nL) (hlo : lo.length = nL) (hM : cM l y (.code y bytes maxL ret) rm D ca ad sh As σ ov τ) (hw : KS own index y bytes maxL ret n)
    (hrm : rm.cells = 0 ∧ rm.slots = 0) (hR : rm.frames + 1 ≤ R.frames ∧ 8 + (maxL + 11) + rm.locals ≤ R.locals)
    (hn : As.length = n) (hst : st0 = As.reverse ++ rest) (hW : (rest.map fun v => v.category).sum ≤ 8) (d : decode cc pc = .ok (.invokestatic index, 3)) (hcs : cells ≤ R.cells ∧ slots ≤ R.slots)
    (k : WW p l e R s m args below meth c cells slots Q A D ca ad sh (pc + 3) lo (ov.toList ++ rest) τ) : WW p l e R s m args below meth c cells slots Q A D ca ad sh pc lo st0 σ := by
  refine s_back C (ov := ov) (rest := rest) (fun H locs ls hP hD hl => ?_) k
  subst hst
  have hG : GoodIn WS (wsS own index y (.code y bytes maxL ret :: WS)) := by
    intro w hw'
    have hin : w ∈ WS := by
      rcases List.mem_append.mp hw' with h | h
      · exact hw.1 w (by simp only [List.mem_cons, List.not_mem_nil, or_false] at h ⊢; rcases h with h | h | h <;> simp [h])
      · rcases List.mem_cons.mp h with h | h
        · exact hw.1 w (by simp [h])
        · exact h
    exact ⟨hin, good_of_word (WS_good w hin)⟩
  exact va_runS (As := As) (rest := rest) (n := n) ⟨C.1, C.2.1, C.2.2.1, C.2.2.2.1, C.2.2.2.2.1⟩ (hM H.size) (cwS n C.2.2.2.2.1 hG rfl hrm.1 hrm.2 hw.2 hR)
    ⟨fun a U g mk q => by obtain ⟨q0, q1, qP, qK, qD, qN⟩ := q; exact ⟨q0, q1, qP, va_K.moved (u := U) (U := U.calling g mk a) (Vm.Alike.refl U.vm) qK, qD, NWs.same (u := U) (U := U.calling g mk a) rfl qN⟩, fun U hU hW => ⟨rfl, by rw [hU], by rw [hU]; exact hP, va_K.moved hW.alike C.2.2.2.2.2.1, hD.weaken (fun _ _ _ _ => trivial), NWs.warm hW C.2.2.2.2.2.2.2⟩⟩
    rfl hn (by show ls.size = _; rw [hl.1, hlo]) rfl (lv_room hW) d ⟨by simpa using hcs.1, by simpa using hcs.2⟩
end WWK
