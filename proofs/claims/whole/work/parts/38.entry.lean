/-! what the Statement gives at the law's entry, in the rows' words -/
theorem nw_in : ∀ w ∈ NW, w ∈ lw_tbl := by decide +kernel
theorem kx_in : Cond.methodLinkNest RX1 27 yX2_init "PackingSearch" ∈ lw_tbl := by decide +kernel
theorem ao_in1 : Cond.arrayOver (.object "PackingSearch$Piece") ∈ lw_tbl := by decide +kernel
theorem ao_in2 : Cond.arrayOver (.object "PackingSearch$Spot") ∈ lw_tbl := by decide +kernel
theorem ac_in1 : Cond.arrayClass .int ∈ lw_tbl := by decide +kernel
theorem ac_in2 : Cond.arrayClass .long ∈ lw_tbl := by decide +kernel
theorem str_in : ∀ q ∈ STR, Cond.stringRef RX3 q.1 q.2 ∈ lw_tbl := by decide +kernel
theorem ls_in1 : Cond.laysStatic Bundle.tN "UNASSIGNED_STACK" Bundle.steD ∈ lw_tbl := by decide +kernel
theorem ls_in2 : Cond.laysStatic Bundle.tN "SUPPRESSED_SENTINEL" Bundle.listD ∈ lw_tbl := by decide +kernel
theorem ti_in : Cond.initialized Bundle.tN ∈ lw_tbl := by decide +kernel
def fl1 : List Cond := flatC (Jvm.Cond.and given_1 narrow_1)
theorem ex_in : ∀ q ∈ STR, Cond.exactly (.string RX3 q.1) "java/lang/String" ∈ fl1 := by decide +kernel
theorem ir_in1 : Cond.isRef (.static Bundle.tN "UNASSIGNED_STACK" Bundle.steD) ∈ fl1 := by decide +kernel
theorem ir_in2 : Cond.isRef (.static Bundle.tN "SUPPRESSED_SENTINEL" Bundle.listD) ∈ fl1 := by decide +kernel
theorem nc_in : ∀ q ∈ NCL, Cond.not (.castable q.1 q.2) ∈ fl1 := by decide +kernel
theorem inJx : ∀ w ∈ u_ws RJx00060 TJx00060 6, w ∈ lw_tbl := by decide +kernel
theorem ws_tbl {w : Cond} (h : w ∈ WS) : w ∈ lw_tbl := (List.mem_filter.mp h).1
theorem in_instJ : Cond.instantiable RJx00060 6 ∈ lw_tbl := by decide +kernel
theorem in_instX0 : Cond.instantiable RX0 8 ∈ lw_tbl := by decide +kernel
theorem in_instX1 : Cond.instantiable RX1 4 ∈ lw_tbl := by decide +kernel
theorem in_instX2 : Cond.instantiable RX2 11 ∈ lw_tbl := by decide +kernel
theorem in_instX3 : Cond.instantiable RX3 13 ∈ lw_tbl := by decide +kernel
theorem in_instX4 : Cond.instantiable RX4 37 ∈ lw_tbl := by decide +kernel
theorem arrI {s : State} {cA : ClassId} {kA : Class} {comp : ClassId} {ty : FieldType} (h2 : s.vm.classes[cA]? = some kA) (h3 : kA.kind = .array comp ty) : ArrOfT s cA ty := fun n z => ⟨fun k h => (by cases h), kA, h2, comp, h3⟩
set_option maxHeartbeats 4000000 in
theorem whole_start {p : Program} {e : Env} {s : State} {m : MethodId} {below : List Frame} {meth : Method} {c : Code} (l : Launch) (hl : l.stackTraces = false) {b L : Nat} {xs : Nat → Int32} (hL : L ≤ 2563) (C0 : lw_At p s m meth c b L xs) (N : Nat) (hlaw : lp_law N xs L 520 3 (σ0 (cellV xs L 0) (cellV xs L 1) (cellV xs L 2)) = some 1) : W p l e room_1 s m #[Value.ref b] below meth c s.heap [] 0 0 (lw_Z below #[Value.ref b] s) (entryFrame m ([Value.ref b] : List Value).toArray 7) := by
  obtain ⟨hx, hb, hr, hml, hown, hts, hX, hbl, hlocks, hgv⟩ := id C0
  have hfl : ∀ w ∈ fl1, w.before #[Value.ref b] s = true := flat_of_before _ hgv
  obtain ⟨c0, i0, k0⟩ := u_known (C := RJx00060) (T := TJx00060) (N := 6) (n := 6) hts inJx (hts _ in_instJ)
  obtain ⟨c1, i1, k1⟩ := u_known (C := RX0) (T := TX0) (N := 8) (n := 8) hts (fun w h => ws_tbl (inWSX0 w h)) (hts _ in_instX0)
  obtain ⟨c2, i2, k2⟩ := u_known (C := RX1) (T := TX1) (N := 4) (n := 4) hts (fun w h => ws_tbl (inWSX1 w h)) (hts _ in_instX1)
  obtain ⟨c3, i3, k3⟩ := u_known (C := RX2) (T := TX2) (N := 11) (n := 11) hts (fun w h => ws_tbl (inWSX2 w h)) (hts _ in_instX2)
  obtain ⟨c4, i4, k4⟩ := u_known (C := RX3) (T := TX3) (N := 13) (n := 13) hts (fun w h => ws_tbl (inWSX3 w h)) (hts _ in_instX3)
  obtain ⟨c5, i5, k5⟩ := u_known (C := RX4) (T := TX4) (N := 37) (n := 37) hts (fun w h => ws_tbl (inWSX4 w h)) (hts _ in_instX4)
  obtain ⟨dC, dI, hKc⟩ : ∃ (dC : Nat → ClassId) (dI : Nat → Nat → Nat), ∀ (k : Nat) (q : vw_C), vwCl[k]? = some q → u_Kn s q.1 q.2.1 q.2.2 (dC k) (dI k) := by
    refine ⟨fun k => if k = 0 then c0 else if k = 1 then c1 else if k = 2 then c2 else if k = 3 then c3 else if k = 4 then c4 else c5, fun k => if k = 0 then i0 else if k = 1 then i1 else if k = 2 then i2 else if k = 3 then i3 else if k = 4 then i4 else i5, ?_⟩
    intro k q hq
    match k, hq with
    | 0, hq => cases hq; exact k0
    | 1, hq => cases hq; exact k1
    | 2, hq => cases hq; exact k2
    | 3, hq => cases hq; exact k3
    | 4, hq => cases hq; exact k4
    | 5, hq => cases hq; exact k5
    | k + 6, hq => simp [vwCl] at hq
  obtain ⟨cI, kI, pI, hI1, hI2, hI3⟩ := Cond.arrayClass_spec (hts _ ac_in1)
  obtain ⟨cJ, kJ, pJ, hJ1, hJ2, hJ3⟩ := Cond.arrayClass_spec (hts _ ac_in2)
  obtain ⟨pP, cP, kP, hP1, -, hP3, hP4, hP5⟩ := Cond.arrayOver_spec (hts _ ao_in1)
  obtain ⟨pS, cS, kS, hS1, -, hS3, hS4, hS5⟩ := Cond.arrayOver_spec (hts _ ao_in2)
  obtain ⟨ca, hK⟩ : ∃ ca : Nat → ClassId, va_K (dC, dI) vwCl (tys ca) s := by
    refine ⟨fun t => if t = 0 then cI else if t = 1 then cP else if t = 2 then cS else cJ, hKc, fun k q hq => ?_⟩
    match k, hq with
    | 0, hq => cases hq; exact ⟨arrI hI2 hI3, hI1⟩
    | 1, hq => cases hq; exact ⟨arrI hP3 hP4, kP, pP, hP3, hP4, hP1, hP5⟩
    | 2, hq => cases hq; exact ⟨arrI hS3 hS4, kS, pS, hS3, hS4, hS1, hS5⟩
    | 3, hq => cases hq; exact ⟨arrI hJ2 hJ3, hJ1⟩
    | k + 4, hq => simp [tys] at hq
  have hNW : NWs s := fun w hw => va_Nw.of (by simp only [NW, List.mem_cons, List.not_mem_nil, or_false] at hw; rcases hw with rfl | rfl <;> rfl) (hts w (nw_in w hw))
  have hKX : KX s := ⟨va_Nw.of rfl (hts _ kx_in), va_AO.of (hts _ ao_in1), va_AO.of (hts _ ao_in2)⟩
  have hNX : NXs s := fun w hw => va_Nw.of (by have := NX_kind hw; cases w <;> first | rfl | cases this) (hts w (List.mem_filter.mp hw).1)
  have hST : STs s := fun q hq => by
    obtain ⟨a, _, _, _, ha, -⟩ := Cond.exactly_spec (hfl _ (ex_in q hq))
    exact ⟨a, vk_R.of (hts _ (str_in q hq)) ha⟩
  have hno : ∀ a : Nat, a < s.heap.size → ¬ (fun q => s.heap.size ≤ q) a := fun a ha => Nat.not_le.mpr ha
  have hXE : XE (fun q => s.heap.size ≤ q) s s.heap := ⟨hNX, hST, vx_Zqof (hts _ ls_in1) (hts _ ti_in) (hfl _ ir_in1) hno, vx_Zqof (hts _ ls_in2) (hts _ ti_in) (hfl _ ir_in2) hno⟩
  have hNC : NCs s := fun q hq => va_Nc.of (hfl _ (nc_in q hq))
  have C : CX p s m #[Value.ref b] c (dC, dI) ca (fun q => s.heap.size ≤ q) RL cL_law 7 := ⟨hx, hb, hml, hown, fun w hw => hts w (ws_tbl hw), hK, fun _ h => h, hNW⟩
  have hent := lh_entry (av := [.ref b]) (nL := 7) (ccR cc0) (Nat.le_of_ble_eq_true rfl)
  rw [lg_entry_eq]
  exact start_open l hl C hr hlocks hXE hNC hKX hX hbl hL N hlaw s.heap [] _ (fun k q h => by simp at h) ⟨fun i j p q h => by simp at h, fun k q h => by simp at h⟩ va_S.rf hent
