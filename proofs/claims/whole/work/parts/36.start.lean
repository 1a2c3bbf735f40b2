/-! the start of the law: what the Statement gives, the two objects, the row of longs, and the loop -/
def cellV (xs : Nat → Int32) (L : Nat) (k : Int32) : Int32 := if nI L ≤ k then 0 else xs (ix k)
set_option maxRecDepth 100000 in
set_option maxHeartbeats 4000000 in
theorem c_L_cell (l : Launch) (b L : Nat) (xs : Nat → Int32) (k : Int32) (hk : nI L ≤ k ∨ inb k L = true) (sz : Nat) : Met l yL_cell (.code yL_cell cL_cell 2 (some .int) :: WS) (rmk 0) (va_Pc [.ref b, .int k] (fun U => U.heap.size = sz ∧ va_X b L xs U U.heap ∧ b < sz)) (fun _ st oc t => oc = .returned (some (.int (cellV xs L k))) ∧ va_F (fun q => sz ≤ q) st t) 0 0 (fun q => sz ≤ q) := by
  refine Met.ofW (cc := cL_cell) (maxL := 2) (ret := some .int) (by decide) rfl ?_
  intro p e s m args below meth c s₁ B hml hv
  obtain ⟨rfl, hsz, hX, hbl⟩ := hv
  subst hsz
  have hS : va_S (fun q => s.heap.size ≤ q) s.heap s.heap [] := va_S.rf
  have hbA : ¬ (fun q => s.heap.size ≤ q) b := Nat.not_le.mpr hbl
  have hl := lh_entry (av := [.ref b, .int k]) (nL := 2) (ccR (ccI cc0)) (Nat.le_of_ble_eq_true rfl)
  rw [lg_entry_eq]
  generalize (lg_sl [Value.ref b, Value.int k] ++ List.replicate (2 - (lg_sl [Value.ref b, Value.int k]).length) Slot.unset).toArray = ls at hl ⊢
  refine lv_iload_n B.exec B.bytes dL_cell_0 rfl (hl.2.2.1 1 _ rfl) ?_
  refine lv_aload_n B.exec B.bytes dL_cell_1 rfl (hl.2.2.1 0 _ rfl) ?_
  refine va_slen B.exec B.bytes hX hbl hbA hS dL_cell_2 ?_
  refine lv_icmp_ge (tgt := 12) B.exec B.bytes dL_cell_3 (by decide) (fun h => ?_) (fun h => ?_)
  · have hv : cellV xs L k = 0 := if_pos h
    refine lv_iconst (v := 0) B.exec B.bytes dL_cell_12 (by decide) ?_
    rw [← hv]
    exact W.iret (Qc := fun _ st oc t => oc = .returned (some (.int (cellV xs L k))) ∧ va_F (fun q => s.heap.size ≤ q) st t) B.exec B.bytes B.returns (fun t ht hW => ⟨rfl, hS.F ht⟩) hS.2.2 dL_cell_13 B.notSynchronized
  · have hin : inb k L = true := hk.elim (fun q => absurd q h) id
    have hv : cellV xs L k = xs k.toNatClampNeg := if_neg h
    refine lv_aload_n B.exec B.bytes dL_cell_6 rfl (hl.2.2.1 0 _ rfl) ?_
    refine lv_iload_n B.exec B.bytes dL_cell_7 rfl (hl.2.2.1 1 _ rfl) ?_
    refine va_sld B.exec B.bytes hX hbl hbA hS (inb_in hin) dL_cell_8 ?_
    refine lv_goto (tgt := 13) B.exec B.bytes dL_cell_9 (by decide) ?_
    rw [← hv]
    exact W.iret (Qc := fun _ st oc t => oc = .returned (some (.int (cellV xs L k))) ∧ va_F (fun q => s.heap.size ≤ q) st t) B.exec B.bytes B.returns (fun t ht hW => ⟨rfl, hS.F ht⟩) hS.2.2 dL_cell_13 B.notSynchronized
section ST
variable {p : Program} {l : Launch} {e : Env} {R : Room} {s : State} {m : MethodId} {args : Array Value} {below : List Frame} {meth : Method} {c : Code} {cells slots : Nat} {Q : State → Prop} {A : Nat → Prop} {D : va_G} {ca : Nat → ClassId} {nL pc : Nat} {lo : List (Option Value)} {rest : List Value} {ws : va_W}
theorem r_cell (C : CX p s m args c D ca A RL cL_law nL) (hlo : lo.length = nL) {b L : Nat} {xs : Nat → Int32} (hX : va_X b L xs s s.heap) (hbl : b < s.heap.size) (hbA : ¬ A b) {k : Int32} (hk : nI L ≤ k ∨ inb k L = true) (hR : 1 ≤ R.frames ∧ 21 ≤ R.locals) (hW : (rest.map fun v => v.category).sum ≤ 8) (d : decode cL_law pc = .ok (.invokestatic 68, 3)) (hcs : cells ≤ R.cells ∧ slots ≤ R.slots)
    (kk : WR p l e R s m args below meth c cells slots Q A D (pc + 3) lo (.int (cellV xs L k) :: rest) ws) : WR p l e R s m args below meth c cells slots Q A D pc lo (.int k :: .ref b :: rest) ws := by
  intro H locs ls hP hD hS hl T hT X
  have hw := ko_L_68
  have hG : GoodIn WS (.code yL_cell cL_cell 2 (some .int) :: WS) := WS_in (hw.1 _ (by simp))
  have hok : ∀ w ∈ ([.methodLink RL 68 yL_cell, .static yL_cell, .initialized yL_cell.cls, .code yL_cell cL_cell 2 (some .int)] : List Cond), w.before args s = true := fun w h => C.2.2.2.2.1 w (hw.1 w h)
  have hrun := va_runS (p := p) (e := e) (below := below) (meth := meth) (H := H) (locs := locs) (cells := cells) (slots := slots) (g := F0 m pc ls (.int k :: .ref b :: rest)) (As := [.ref b, .int k]) (rest := rest) (n := 2) ⟨C.1, C.2.1, C.2.2.1, C.2.2.2.1, C.2.2.2.2.1⟩ (c_L_cell l b L xs k hk H.size) ⟨callB_of 2 C.2.2.2.2.1 hG rfl rfl rfl (hok _ (by simp)) (hok _ (by simp)) hw.2 ⟨hR.1, hR.2⟩, hok _ (by simp)⟩
    ⟨fun a U g mk q => by obtain ⟨q0, q1, qX, qb⟩ := q; exact ⟨q0, q1, va_X.moved (u := U) (U := U.calling g mk a) (Vm.Alike.refl U.vm) qX, qb⟩, fun U hU hW => ⟨rfl, by rw [hU], by rw [hU]; exact va_X.moved hW.alike (hX.kept (hS.2.1 b hbl hbA)), Nat.lt_of_lt_of_le hbl hS.1⟩⟩
    rfl rfl (by show ls.size = _; rw [hl.1, hlo]) rfl (lv_room hW) d ⟨by simpa using hcs.1, by simpa using hcs.2⟩
  obtain ⟨v, st₀, t, T', L9, h9, X', hL, e1, e2, ⟨hv, hF⟩, go⟩ := hrun T hT X
  cases hv
  obtain ⟨k1, k2, k3⟩ := vx_keep h9 e1 hS (A1 := fun q => H.size ≤ q) (fun q hq h => absurd hq (Nat.not_lt.mpr h)) (fun q h => C.2.2.2.2.2.2.1 q (Nat.le_trans hS.1 h)) hL hF
  obtain ⟨t2, a1, b1⟩ := kk T'.heap (locs ++ L9) ls (hP.kept (fun j q hq => k2 _ (hP j q hq).lt (Nat.not_le.mpr (hP j q hq).lt))) hD k3 hl T' rfl X'
  exact ⟨t2, go t2 a1, b1⟩
theorem toWW {sh : List sO} {ad : Nat → Nat} {σ : St} {st : List Value} (h : wd sh ca ad σ = ws) (k : WW p l e R s m args below meth c cells slots Q A D ca ad sh pc lo st σ) : WR p l e R s m args below meth c cells slots Q A D pc lo st ws := by
  subst h
  exact k
end ST
theorem cons2 {α : Type} {a b : α} {l r : List α} (h1 : a = b) (h2 : l = r) : a :: l = b :: r := by rw [h1, h2]
/-- the same world, by recursion -/
def svr (ad : Nat → Nat) (f : Nat → Int32) : Nat → List sF → List Value
  | _, [] => []
  | j, x :: r => sv ad f j x :: svr ad f (j + 1) r
theorem svr_eq (ad : Nat → Nat) (f : Nat → Int32) : ∀ (fs : List sF) (k : Nat), fs.mapIdx (fun j x => sv ad f (k + j) x) = svr ad f k fs
  | [], k => by simp [svr]
  | x :: r, k => by
    rw [List.mapIdx_cons, svr]
    congr 1
    have := svr_eq ad f r (k + 1)
    rw [← this]
    congr 1
    funext i y
    rw [show k + (i + 1) = k + 1 + i by omega]
def scr (ca : Nat → ClassId) (ad : Nat → Nat) (f : Nat → Int32) : sO → va_E
  | .inl o => .inr (o.1, svr ad f 0 o.2)
  | .inr (t, n, none) => .inl (ca t, n, .inl f)
  | .inr (t, n, some none) => .inl (ca t, n, .inr (.inl (fun j => (f j).toInt64)))
  | .inr (t, n, some (some b)) => .inl (ca t, n, .inr (.inr (.inr (.inr (fun j => some (ad (b + j)))))))
theorem scr_eq (ca : Nat → ClassId) (ad : Nat → Nat) (f : Nat → Int32) (o : sO) : sc ca ad f o = scr ca ad f o := by
  rcases o with o | ⟨t, n, o⟩
  · show (Sum.inr (o.1, _) : va_E) = Sum.inr (o.1, _)
    rw [← svr_eq ad f o.2 0]
    simp
  · rcases o with _ | o
    · rfl
    · rcases o with _ | o <;> rfl
def wdr (ca : Nat → ClassId) (ad : Nat → Nat) (σ : St) : Nat → List sO → va_W
  | _, [] => []
  | k, o :: r => (ad k, scr ca ad (σ k) o) :: wdr ca ad σ (k + 1) r
theorem wdr_eq (ca : Nat → ClassId) (ad : Nat → Nat) (σ : St) : ∀ (sh : List sO) (k : Nat), sh.mapIdx (fun j o => (ad (k + j), sc ca ad (σ (k + j)) o)) = wdr ca ad σ k sh
  | [], k => by simp [wdr]
  | o :: r, k => by
    rw [List.mapIdx_cons, wdr, scr_eq]
    congr 1
    have := wdr_eq ca ad σ r (k + 1)
    rw [← this]
    congr 1
    funext i y
    rw [show k + (i + 1) = k + 1 + i by omega]
theorem wd_rec (sh : List sO) (ca : Nat → ClassId) (ad : Nat → Nat) (σ : St) : wd sh ca ad σ = wdr ca ad σ 0 sh := by
  rw [← wdr_eq ca ad σ sh 0]
  simp [wd]
/-- the state behind the two constructors -/
def σ0 (a b c : Int32) : St := fun k j =>
  if k = 2 ∨ k = 3 then (if j = 0 then sideV a else if j = 1 then sideV b else if j = 2 then sideV c else 0)
  else if 5 ≤ k ∧ k < 11 then (if j = 4 then 1 else if j = 5 then -1 else if j = 7 then -1 else 0)
  else if k = 25 then (if j = 1 then heldV a else if j = 2 then heldV b else if j = 3 then heldV c else 0)
  else if k = 32 then (upd (upd (upd (upd (upd (upd (fun _ => 0) (ix 0) (-1)) (ix 1) (-1)) (ix 2) (-1)) (ix 3) (-1)) (ix 4) (-1)) (ix 5) (-1)) j
  else 0
def adr (qx qm qo : Nat) (w1 w2 : Nat → Nat) : Nat → Nat := fun k => if k = 0 then qx else if k < 25 then w1 k else if k = 25 then qm else if k < 51 then w2 k else qo
set_option maxRecDepth 100000 in
set_option maxHeartbeats 8000000 in
theorem wd_start (ca : Nat → ClassId) (qx qm qo : Nat) (w1 w2 : Nat → Nat) (xs : Nat → Int32) (L : Nat) : wd SH ca (adr qx qm qo w1 w2) (σ0 (cellV xs L 0) (cellV xs L 1) (cellV xs L 2)) = [(qx, .inr (4, [.ref (w1 1), .ref (w1 2), .ref (w1 3), .ref (w1 4), .int 0, .int 0, .int 0, .int 0, .int 0, .int 0, .int 0, .int 0, .int 0])), ((w1 1), .inl (ca 1, 6, .inr (.inr (.inr (.inr (fun j => some ((adr qx qm qo w1 w2) (5 + j)))))))), ((w1 2), .inr (2, [.int (sideV (cellV xs L 0)), .int (sideV (cellV xs L 1)), .int (sideV (cellV xs L 2)), .ref (w1 11)])), ((w1 3), .inr (2, [.int (sideV (cellV xs L 0)), .int (sideV (cellV xs L 1)), .int (sideV (cellV xs L 2)), .ref (w1 12)])), ((w1 4), .inl (ca 0, 6, .inl (fun _ => 0))), ((w1 5), .inr (1, [.int 0, .int 0, .int 0, .int 0, .int 1, .int (-1), .int 0, .int (-1)])), ((w1 6), .inr (1, [.int 0, .int 0, .int 0, .int 0, .int 1, .int (-1), .int 0, .int (-1)])), ((w1 7), .inr (1, [.int 0, .int 0, .int 0, .int 0, .int 1, .int (-1), .int 0, .int (-1)])), ((w1 8), .inr (1, [.int 0, .int 0, .int 0, .int 0, .int 1, .int (-1), .int 0, .int (-1)])), ((w1 9), .inr (1, [.int 0, .int 0, .int 0, .int 0, .int 1, .int (-1), .int 0, .int (-1)])), ((w1 10), .inr (1, [.int 0, .int 0, .int 0, .int 0, .int 1, .int (-1), .int 0, .int (-1)])), ((w1 11), .inl (ca 2, 6, .inr (.inr (.inr (.inr (fun j => some ((adr qx qm qo w1 w2) (13 + j)))))))), ((w1 12), .inl (ca 2, 6, .inr (.inr (.inr (.inr (fun j => some ((adr qx qm qo w1 w2) (19 + j)))))))), ((w1 13), .inr (3, [.int 0, .int 0, .int 0, .int 0, .int 0, .int 0, .int 0, .int 0, .int 0, .int 0, .int 0])), ((w1 14), .inr (3, [.int 0, .int 0, .int 0, .int 0, .int 0, .int 0, .int 0, .int 0, .int 0, .int 0, .int 0])), ((w1 15), .inr (3, [.int 0, .int 0, .int 0, .int 0, .int 0, .int 0, .int 0, .int 0, .int 0, .int 0, .int 0])), ((w1 16), .inr (3, [.int 0, .int 0, .int 0, .int 0, .int 0, .int 0, .int 0, .int 0, .int 0, .int 0, .int 0])), ((w1 17), .inr (3, [.int 0, .int 0, .int 0, .int 0, .int 0, .int 0, .int 0, .int 0, .int 0, .int 0, .int 0])), ((w1 18), .inr (3, [.int 0, .int 0, .int 0, .int 0, .int 0, .int 0, .int 0, .int 0, .int 0, .int 0, .int 0])), ((w1 19), .inr (3, [.int 0, .int 0, .int 0, .int 0, .int 0, .int 0, .int 0, .int 0, .int 0, .int 0, .int 0])), ((w1 20), .inr (3, [.int 0, .int 0, .int 0, .int 0, .int 0, .int 0, .int 0, .int 0, .int 0, .int 0, .int 0])), ((w1 21), .inr (3, [.int 0, .int 0, .int 0, .int 0, .int 0, .int 0, .int 0, .int 0, .int 0, .int 0, .int 0])), ((w1 22), .inr (3, [.int 0, .int 0, .int 0, .int 0, .int 0, .int 0, .int 0, .int 0, .int 0, .int 0, .int 0])), ((w1 23), .inr (3, [.int 0, .int 0, .int 0, .int 0, .int 0, .int 0, .int 0, .int 0, .int 0, .int 0, .int 0])), ((w1 24), .inr (3, [.int 0, .int 0, .int 0, .int 0, .int 0, .int 0, .int 0, .int 0, .int 0, .int 0, .int 0])), (qm, .inr (5, [.int 0, .int (heldV (cellV xs L 0)), .int (heldV (cellV xs L 1)), .int (heldV (cellV xs L 2)), .int 0, .ref (w2 26), .ref (w2 27), .ref (w2 28), .ref (w2 29), .ref (w2 30), .ref (w2 31), .int 0, .int 0, .ref (w2 32), .ref (w2 33), .ref (w2 34), .ref (w2 35), .ref (w2 36), .ref (w2 37), .ref (w2 38), .int 0, .int 0, .ref (w2 39), .ref (w2 40), .ref (w2 41), .ref (w2 42), .int 0, .int 0, .int 0, .ref (w2 43), .ref (w2 44), .ref (w2 45), .ref (w2 46), .ref (w2 47), .ref (w2 48), .ref (w2 49), .ref (w2 50)])), ((w2 26), .inl (ca 0, 18, .inl (fun _ => 0))), ((w2 27), .inl (ca 0, 6, .inl (fun _ => 0))), ((w2 28), .inl (ca 0, 6, .inl (fun _ => 0))), ((w2 29), .inl (ca 0, 6, .inl (fun _ => 0))), ((w2 30), .inl (ca 0, 6, .inl (fun _ => 0))), ((w2 31), .inl (ca 0, 6, .inl (fun _ => 0))), ((w2 32), .inl (ca 0, 6, .inl (upd (upd (upd (upd (upd (upd (fun _ => 0) (ix 0) (-1)) (ix 1) (-1)) (ix 2) (-1)) (ix 3) (-1)) (ix 4) (-1)) (ix 5) (-1)))), ((w2 33), .inl (ca 0, 6, .inl (fun _ => 0))), ((w2 34), .inl (ca 0, 6, .inl (fun _ => 0))), ((w2 35), .inl (ca 0, 6, .inl (fun _ => 0))), ((w2 36), .inl (ca 0, 6, .inl (fun _ => 0))), ((w2 37), .inl (ca 0, 6, .inl (fun _ => 0))), ((w2 38), .inl (ca 0, 6, .inl (fun _ => 0))), ((w2 39), .inl (ca 0, 6, .inl (fun _ => 0))), ((w2 40), .inl (ca 0, 6, .inl (fun _ => 0))), ((w2 41), .inl (ca 0, 6, .inl (fun _ => 0))), ((w2 42), .inl (ca 0, 6, .inl (fun _ => 0))), ((w2 43), .inl (ca 0, 6, .inl (fun _ => 0))), ((w2 44), .inl (ca 0, 7, .inl (fun _ => 0))), ((w2 45), .inl (ca 0, 7, .inl (fun _ => 0))), ((w2 46), .inl (ca 0, 7, .inl (fun _ => 0))), ((w2 47), .inl (ca 0, 7, .inl (fun _ => 0))), ((w2 48), .inl (ca 0, 168, .inl (fun _ => 0))), ((w2 49), .inl (ca 0, 21, .inl (fun _ => 0))), ((w2 50), .inl (ca 0, 8, .inl (fun _ => 0))), (qo, .inl (ca 3, 1, .inr (.inl (fun _ => 0))))] := by
  rw [wd_rec]
  repeat (refine cons2 (by first | rfl | (simp [adr, scr, svr, sv, σ0, oPS, oM, oSpot, oPiece, oPlan]; done) | (simp [adr, scr, svr, sv, σ0, oPS, oM, oSpot, oPiece, oPlan]; rfl)) ?_)
  rfl
