/-! the words, the array classes, the nest's links -/
def WS : List Cond := lw_tbl.filter goodWord
theorem ws_mem {w : Cond} (i : Nat) (h : lw_tbl[i]? = some w) (g : goodWord w = true) : w ∈ WS := List.mem_filter.mpr ⟨List.mem_of_getElem? h, g⟩
def tys (ca : Nat → ClassId) : List (ClassId × FieldType) := [(ca 0, .int), (ca 1, .object "PackingSearch$Piece"), (ca 2, .object "PackingSearch$Spot"), (ca 3, .long)]
def NW : List Cond := [.methodLinkNest RX0 33 yX3_isIn "PackingSearch", .methodLinkNest RX1 117 yX3_isIn "PackingSearch"]
def NWs (U : State) : Prop := ∀ w ∈ NW, va_Nw w U
theorem NWs.same {u U : State} (h : u.vm = U.vm) (hN : NWs u) : NWs U := fun w hw => va_Nw.same (by simp only [NW, List.mem_cons, List.not_mem_nil, or_false] at hw; rcases hw with rfl | rfl <;> rfl) h (hN w hw)
theorem NWs.warm {s U : State} (hW : s.WarmedH U.vm) (hN : NWs s) : NWs U := fun w hw => by
  have h1 := hN w hw
  simp only [NW, List.mem_cons, List.not_mem_nil, or_false] at hw
  rcases hw with rfl | rfl <;> exact va_Nw.warmM hW h1
