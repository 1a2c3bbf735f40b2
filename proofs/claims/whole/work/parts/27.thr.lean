/-! throws, for the printed functions -/
def bt {α β : Type} (o : Option ((α × St) ⊕ (String × St))) (f : α → St → Option (β ⊕ (String × St))) : Option (β ⊕ (String × St)) := match o with
  | none => none
  | some (.inl x) => f x.1 x.2
  | some (.inr x) => some (.inr x)
theorem btd {α β : Type} {o : Option ((α × St) ⊕ (String × St))} {f : α → St → Option (β ⊕ (String × St))} {r : β ⊕ (String × St)} (h : bt o f = some r) : (∃ (a : α) (τ : St), o = some (.inl (a, τ)) ∧ f a τ = some r) ∨ (∃ (E : String) (τ : St), o = some (.inr (E, τ)) ∧ r = .inr (E, τ)) := by
  cases o with
  | none => cases h
  | some x =>
    cases x with
    | inl x => exact Or.inl ⟨x.1, x.2, rfl, h⟩
    | inr x => exact Or.inr ⟨x.1, x.2, rfl, (Option.some.inj h).symm⟩
theorem tsplit {L : List Cond} (h1 : ∀ w ∈ L.filter goodWord, w ∈ lw_tbl) (h2 : ∀ w ∈ L.filter (fun w => !goodWord w), w ∈ NX) : ∀ w ∈ L, w ∈ WS ∨ w ∈ NX := fun w hw => by
  cases hg : goodWord w with
  | true => exact Or.inl (List.mem_filter.mpr ⟨h1 w (List.mem_filter.mpr ⟨hw, hg⟩), hg⟩)
  | false => exact Or.inr (h2 w (List.mem_filter.mpr ⟨hw, by show (!goodWord w) = true; rw [hg]; rfl⟩))
def toRI (r : (Int32 × St) ⊕ (String × St)) : RES := match r with
  | .inl x => .inl (some (.int x.1), x.2)
  | .inr x => .inr x
def toRV (r : St ⊕ (String × St)) : RES := match r with
  | .inl x => .inl (none, x)
  | .inr x => .inr x
def toRL (ad : Nat → Nat) (r : (Nat × St) ⊕ (String × St)) : RES := match r with
  | .inl x => .inl (some (.ref (ad x.1)), x.2)
  | .inr x => .inr x
theorem tg_44 : ∀ w ∈ (vx_atS RX3 44 "java/lang/IllegalArgumentException" ["java/lang/RuntimeException", "java/lang/Exception"]).filter goodWord, w ∈ lw_tbl := by decide +kernel
theorem tn_44 : ∀ w ∈ (vx_atS RX3 44 "java/lang/IllegalArgumentException" ["java/lang/RuntimeException", "java/lang/Exception"]).filter (fun w => !goodWord w), w ∈ NX := by decide +kernel
theorem ta_44 : ∀ w ∈ vx_atS RX3 44 "java/lang/IllegalArgumentException" ["java/lang/RuntimeException", "java/lang/Exception"], w ∈ WS ∨ w ∈ NX := tsplit tg_44 tn_44
theorem th_40_42_44 : TH 40 42 44 "java/lang/IllegalArgumentException" "a side outside 1 .. 8" ["java/lang/RuntimeException", "java/lang/Exception"] := ⟨(ws_mem 319 (by decide +kernel) rfl), (ws_mem 43 (by decide +kernel) rfl), by decide +kernel, ta_44, by decide +kernel, by decide +kernel, by decide +kernel⟩
theorem th_40_47_44 : TH 40 47 44 "java/lang/IllegalArgumentException" "a weight outside 0 .. 100" ["java/lang/RuntimeException", "java/lang/Exception"] := ⟨(ws_mem 319 (by decide +kernel) rfl), (ws_mem 43 (by decide +kernel) rfl), by decide +kernel, ta_44, by decide +kernel, by decide +kernel, by decide +kernel⟩
theorem th_40_66_44 : TH 40 66 44 "java/lang/IllegalArgumentException" "marks outside 0 .. 3" ["java/lang/RuntimeException", "java/lang/Exception"] := ⟨(ws_mem 319 (by decide +kernel) rfl), (ws_mem 43 (by decide +kernel) rfl), by decide +kernel, ta_44, by decide +kernel, by decide +kernel, by decide +kernel⟩
theorem th_40_76_44 : TH 40 76 44 "java/lang/IllegalArgumentException" "a limit outside -1 .. 1000" ["java/lang/RuntimeException", "java/lang/Exception"] := ⟨(ws_mem 319 (by decide +kernel) rfl), (ws_mem 43 (by decide +kernel) rfl), by decide +kernel, ta_44, by decide +kernel, by decide +kernel, by decide +kernel⟩
theorem th_40_81_44 : TH 40 81 44 "java/lang/IllegalArgumentException" "a rank outside 0 .. 9" ["java/lang/RuntimeException", "java/lang/Exception"] := ⟨(ws_mem 319 (by decide +kernel) rfl), (ws_mem 43 (by decide +kernel) rfl), by decide +kernel, ta_44, by decide +kernel, by decide +kernel, by decide +kernel⟩
theorem th_40_94_44 : TH 40 94 44 "java/lang/IllegalArgumentException" "a share outside 0 .. 100" ["java/lang/RuntimeException", "java/lang/Exception"] := ⟨(ws_mem 319 (by decide +kernel) rfl), (ws_mem 43 (by decide +kernel) rfl), by decide +kernel, ta_44, by decide +kernel, by decide +kernel, by decide +kernel⟩
theorem th_40_99_44 : TH 40 99 44 "java/lang/IllegalArgumentException" "steps outside 0 .. 3000" ["java/lang/RuntimeException", "java/lang/Exception"] := ⟨(ws_mem 319 (by decide +kernel) rfl), (ws_mem 43 (by decide +kernel) rfl), by decide +kernel, ta_44, by decide +kernel, by decide +kernel, by decide +kernel⟩
theorem th_40_138_44 : TH 40 138 44 "java/lang/IllegalArgumentException" "what outside 0 .. 6" ["java/lang/RuntimeException", "java/lang/Exception"] := ⟨(ws_mem 319 (by decide +kernel) rfl), (ws_mem 43 (by decide +kernel) rfl), by decide +kernel, ta_44, by decide +kernel, by decide +kernel, by decide +kernel⟩
theorem tg_57 : ∀ w ∈ (vx_atS RX3 57 "java/lang/UnsupportedOperationException" ["java/lang/RuntimeException", "java/lang/Exception"]).filter goodWord, w ∈ lw_tbl := by decide +kernel
theorem tn_57 : ∀ w ∈ (vx_atS RX3 57 "java/lang/UnsupportedOperationException" ["java/lang/RuntimeException", "java/lang/Exception"]).filter (fun w => !goodWord w), w ∈ NX := by decide +kernel
theorem ta_57 : ∀ w ∈ vx_atS RX3 57 "java/lang/UnsupportedOperationException" ["java/lang/RuntimeException", "java/lang/Exception"], w ∈ WS ∨ w ∈ NX := tsplit tg_57 tn_57
theorem th_53_55_57 : TH 53 55 57 "java/lang/UnsupportedOperationException" "no room for another piece" ["java/lang/RuntimeException", "java/lang/Exception"] := ⟨(ws_mem 391 (by decide +kernel) rfl), (ws_mem 44 (by decide +kernel) rfl), by decide +kernel, ta_57, by decide +kernel, by decide +kernel, by decide +kernel⟩
theorem tg_152 : ∀ w ∈ (vx_atS RX3 152 "java/lang/IllegalStateException" ["java/lang/RuntimeException", "java/lang/Exception"]).filter goodWord, w ∈ lw_tbl := by decide +kernel
theorem tn_152 : ∀ w ∈ (vx_atS RX3 152 "java/lang/IllegalStateException" ["java/lang/RuntimeException", "java/lang/Exception"]).filter (fun w => !goodWord w), w ∈ NX := by decide +kernel
theorem ta_152 : ∀ w ∈ vx_atS RX3 152 "java/lang/IllegalStateException" ["java/lang/RuntimeException", "java/lang/Exception"], w ∈ WS ∨ w ∈ NX := tsplit tg_152 tn_152
theorem th_148_150_152 : TH 148 150 152 "java/lang/IllegalStateException" "not two pieces of the plan" ["java/lang/RuntimeException", "java/lang/Exception"] := ⟨(ws_mem 619 (by decide +kernel) rfl), (ws_mem 47 (by decide +kernel) rfl), by decide +kernel, ta_152, by decide +kernel, by decide +kernel, by decide +kernel⟩
theorem th_148_162_152 : TH 148 162 152 "java/lang/IllegalStateException" "the piece is not in the plan" ["java/lang/RuntimeException", "java/lang/Exception"] := ⟨(ws_mem 619 (by decide +kernel) rfl), (ws_mem 47 (by decide +kernel) rfl), by decide +kernel, ta_152, by decide +kernel, by decide +kernel, by decide +kernel⟩
theorem th_148_191_152 : TH 148 191 152 "java/lang/IllegalStateException" "no piece is in the plan" ["java/lang/RuntimeException", "java/lang/Exception"] := ⟨(ws_mem 619 (by decide +kernel) rfl), (ws_mem 47 (by decide +kernel) rfl), by decide +kernel, ta_152, by decide +kernel, by decide +kernel, by decide +kernel⟩
theorem tg_164 : ∀ w ∈ (vx_atS RX3 164 "java/lang/ArithmeticException" ["java/lang/RuntimeException", "java/lang/Exception"]).filter goodWord, w ∈ lw_tbl := by decide +kernel
theorem tn_164 : ∀ w ∈ (vx_atS RX3 164 "java/lang/ArithmeticException" ["java/lang/RuntimeException", "java/lang/Exception"]).filter (fun w => !goodWord w), w ∈ NX := by decide +kernel
theorem ta_164 : ∀ w ∈ vx_atS RX3 164 "java/lang/ArithmeticException" ["java/lang/RuntimeException", "java/lang/Exception"], w ∈ WS ∨ w ∈ NX := tsplit tg_164 tn_164
theorem th_160_162_164 : TH 160 162 164 "java/lang/ArithmeticException" "the piece is not in the plan" ["java/lang/RuntimeException", "java/lang/Exception"] := ⟨(ws_mem 645 (by decide +kernel) rfl), (ws_mem 48 (by decide +kernel) rfl), by decide +kernel, ta_164, by decide +kernel, by decide +kernel, by decide +kernel⟩
theorem tg_183 : ∀ w ∈ (vx_atS RX3 183 "java/lang/ArrayIndexOutOfBoundsException" ["java/lang/IndexOutOfBoundsException", "java/lang/RuntimeException", "java/lang/Exception"]).filter goodWord, w ∈ lw_tbl := by decide +kernel
theorem tn_183 : ∀ w ∈ (vx_atS RX3 183 "java/lang/ArrayIndexOutOfBoundsException" ["java/lang/IndexOutOfBoundsException", "java/lang/RuntimeException", "java/lang/Exception"]).filter (fun w => !goodWord w), w ∈ NX := by decide +kernel
theorem ta_183 : ∀ w ∈ vx_atS RX3 183 "java/lang/ArrayIndexOutOfBoundsException" ["java/lang/IndexOutOfBoundsException", "java/lang/RuntimeException", "java/lang/Exception"], w ∈ WS ∨ w ∈ NX := tsplit tg_183 tn_183
theorem th_179_181_183 : TH 179 181 183 "java/lang/ArrayIndexOutOfBoundsException" "no such cell" ["java/lang/IndexOutOfBoundsException", "java/lang/RuntimeException", "java/lang/Exception"] := ⟨(ws_mem 683 (by decide +kernel) rfl), (ws_mem 50 (by decide +kernel) rfl), by decide +kernel, ta_183, by decide +kernel, by decide +kernel, by decide +kernel⟩
theorem tg_222 : ∀ w ∈ ((xn_atoms RX3 222 "java/util/NoSuchElementException" "java/lang/RuntimeException" ["java/lang/Exception"] 13 prog_19_method_4_code).filter vx_no).filter goodWord, w ∈ lw_tbl := by decide +kernel
theorem tn_222 : ∀ w ∈ ((xn_atoms RX3 222 "java/util/NoSuchElementException" "java/lang/RuntimeException" ["java/lang/Exception"] 13 prog_19_method_4_code).filter vx_no).filter (fun w => !goodWord w), w ∈ NX := by decide +kernel
theorem th_218_220_222 : TN 218 220 222 "java/util/NoSuchElementException" "no such piece" "java/lang/RuntimeException" ["java/lang/Exception"] 13 prog_19_method_4_code := ⟨(ws_mem 423 (by decide +kernel) rfl), (ws_mem 45 (by decide +kernel) rfl), by decide +kernel, tsplit tg_222 tn_222, by decide +kernel, by decide +kernel, by decide +kernel, by decide +kernel, by decide +kernel, by decide +kernel, by decide +kernel, by decide +kernel⟩
