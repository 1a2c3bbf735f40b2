/-! catching, for the printed functions -/
def bhI {β : Type} (o : Option ((Int32 × St) ⊕ (String × St))) (f : Int32 → St → Option β) (h : String → St → Option β) : Option β := match o with
  | none => none
  | some (.inl x) => f x.1 x.2
  | some (.inr x) => h x.1 x.2
def bhV {β : Type} (o : Option (St ⊕ (String × St))) (f : St → Option β) (h : String → St → Option β) : Option β := match o with
  | none => none
  | some (.inl x) => f x
  | some (.inr x) => h x.1 x.2
theorem bhId {β : Type} {o : Option ((Int32 × St) ⊕ (String × St))} {f : Int32 → St → Option β} {h : String → St → Option β} {r : β} (hr : bhI o f h = some r) : (∃ (a : Int32) (τ : St), o = some (.inl (a, τ)) ∧ f a τ = some r) ∨ (∃ (E : String) (τ : St), o = some (.inr (E, τ)) ∧ h E τ = some r) := by
  cases o with
  | none => cases hr
  | some x =>
    cases x with
    | inl x => exact Or.inl ⟨x.1, x.2, rfl, hr⟩
    | inr x => exact Or.inr ⟨x.1, x.2, rfl, hr⟩
theorem bhVd {β : Type} {o : Option (St ⊕ (String × St))} {f : St → Option β} {h : String → St → Option β} {r : β} (hr : bhV o f h = some r) : (∃ τ : St, o = some (.inl τ) ∧ f τ = some r) ∨ (∃ (E : String) (τ : St), o = some (.inr (E, τ)) ∧ h E τ = some r) := by
  cases o with
  | none => cases hr
  | some x =>
    cases x with
    | inl x => exact Or.inl ⟨x, rfl, hr⟩
    | inr x => exact Or.inr ⟨x.1, x.2, rfl, hr⟩
theorem cl_L_13 : Cond.classLink RL 13 "java/lang/IllegalArgumentException" ∈ WS := (ws_mem 310 (by decide +kernel) rfl)
theorem nx_L_13 : Cond.castable "java/lang/IllegalArgumentException" "java/lang/IllegalArgumentException" ∈ NX := by decide +kernel
theorem cl_L_15 : Cond.classLink RL 15 "java/lang/UnsupportedOperationException" ∈ WS := (ws_mem 311 (by decide +kernel) rfl)
theorem nx_L_15 : Cond.castable "java/lang/UnsupportedOperationException" "java/lang/UnsupportedOperationException" ∈ NX := by decide +kernel
theorem cl_L_21 : Cond.classLink RL 21 "java/util/NoSuchElementException" ∈ WS := (ws_mem 414 (by decide +kernel) rfl)
theorem nx_L_21 : Cond.castable "java/util/NoSuchElementException" "java/util/NoSuchElementException" ∈ NX := by decide +kernel
theorem cl_L_45 : Cond.classLink RL 45 "java/lang/IllegalStateException" ∈ WS := (ws_mem 614 (by decide +kernel) rfl)
theorem nx_L_45 : Cond.castable "java/lang/IllegalStateException" "java/lang/IllegalStateException" ∈ NX := by decide +kernel
theorem cl_L_50 : Cond.classLink RL 50 "java/lang/ArithmeticException" ∈ WS := (ws_mem 639 (by decide +kernel) rfl)
theorem nx_L_50 : Cond.castable "java/lang/ArithmeticException" "java/lang/ArithmeticException" ∈ NX := by decide +kernel
theorem cl_L_59 : Cond.classLink RL 59 "java/lang/ArrayIndexOutOfBoundsException" ∈ WS := (ws_mem 674 (by decide +kernel) rfl)
theorem nx_L_59 : Cond.castable "java/lang/ArrayIndexOutOfBoundsException" "java/lang/ArrayIndexOutOfBoundsException" ∈ NX := by decide +kernel
def f_L_piece (N : Nat) (a1 : Int32) (a2 : Int32) (a3 : Int32) (a4 : Int32) (σ : St) : Option (Int32 × St) :=
  bhI (f_X3_piece N a1 a2 a3 a4 σ) (fun r_1 τ_1 =>
    some (0, (su τ_1 51 (ix 0) r_1)))
    (fun E_1 τ_1 => if E_1 = "java/lang/IllegalArgumentException" then some (1, τ_1) else if E_1 = "java/lang/UnsupportedOperationException" then some (2, τ_1) else none)
set_option maxRecDepth 100000 in
set_option maxHeartbeats 4000000 in
theorem c_L_piece (l : Launch) (D : va_G) (ca : Nat → ClassId) (ad : Nat → Nat) (hl : l.stackTraces = false) (N : Nat) (a1 : Int32) (a2 : Int32) (a3 : Int32) (a4 : Int32) (σ : St) (r : Int32) (τ : St) (hf : f_L_piece N a1 a2 a3 a4 σ = some (r, τ)) : cH l yL_piece (.codeWith yL_piece cL_piece 7 (some .int) [(0, 14, 17, 13), (0, 14, 21, 15)]) (rmx 9 1) D ca ad SH [.ref (ad 0), .int a1, .int a2, .int a3, .int a4, .ref (ad 51)] σ (some (.int r)) τ 1 := by
  refine cH.intro (own := RL) (lo := [some (.ref (ad 0)), some (.int a1), some (.int a2), some (.int a3), some (.int a4), some (.ref (ad 51)), none]) (by decide) rfl (ccR (ccI (ccI (ccI (ccI (ccR cc0)))))) (Nat.le_of_ble_eq_true rfl) rfl ?_
  intro p e s m args below meth c A C hr hlk htab hXE hNC
  unfold f_L_piece at hf
  refine s_aload (pc := 0) C dL_piece_0 rfl ?_
  refine s_iconst (pc := 2) (v := 0) C dL_piece_2 (by decide) ?_
  refine s_aloadn (pc := 3) C dL_piece_3 rfl ?_
  refine s_iloadn (pc := 4) C dL_piece_4 rfl ?_
  refine s_iloadn (pc := 5) C dL_piece_5 rfl ?_
  refine s_iloadn (pc := 6) C dL_piece_6 rfl ?_
  refine s_iload (pc := 7) C dL_piece_7 rfl ?_
  rcases bhId hf with ⟨r_1, τ_1, e_1, hf⟩ | ⟨E_1, τ_1, e_1, hf⟩
  · refine t_call (pc := 9) (rest := [.int 0, .ref (ad 51)]) C hXE rfl (c_X3_piece l D ca ad hl N a1 a2 a3 a4 σ _ e_1) kv_L_7 ⟨rfl, rfl⟩ (by decide) SH_0 ⟨_, rfl, rfl⟩ rfl rfl (Nat.le_of_ble_eq_true rfl) dL_piece_9 ⟨by decide, by decide⟩ (fun ov τ h => ?_) (fun E τ h => nomatch (show (Sum.inl (some (Value.int r_1), τ_1) : RES) = .inr (E, τ) from h))
    cases (show (Sum.inl (some (Value.int r_1), τ_1) : RES) = .inl (ov, τ) from h)
    refine s_st (st' := [.int r_1, .int 0, .ref (ad 51)]) rfl ?_
    refine s_i2l (pc := 12) C dL_piece_12 ?_
    refine s_last (pc := 13) C SH_51 (ty3 ca) (by decide) dL_piece_13 ?_
    refine s_goto (pc := 14) (tgt := 25) C dL_piece_14 (by decide) ?_
    refine s_iconst (pc := 25) (v := 0) C dL_piece_25 (by decide) ?_
    exact h_iret (pc := 26) C hr hlk dL_piece_26 ⟨by decide, by decide⟩ (congrArg (fun z => some (Value.int z)) (rt hf).1) (rt hf).2
  · by_cases h_1 : E_1 = "java/lang/IllegalArgumentException"
    · subst h_1
      replace hf := ifp rfl hf
      refine t_call (pc := 9) (rest := [.int 0, .ref (ad 51)]) C hXE rfl (c_X3_piece l D ca ad hl N a1 a2 a3 a4 σ _ e_1) kv_L_7 ⟨rfl, rfl⟩ (by decide) SH_0 ⟨_, rfl, rfl⟩ rfl rfl (Nat.le_of_ble_eq_true rfl) dL_piece_9 ⟨by decide, by decide⟩ (fun ov τ h => nomatch (show (Sum.inr ("java/lang/IllegalArgumentException", τ_1) : RES) = .inl (ov, τ) from h)) (fun E τ h => ?_)
      cases (show (Sum.inr ("java/lang/IllegalArgumentException", τ_1) : RES) = .inr (E, τ) from h)
      refine h_catch (pc := 9) (E := "java/lang/IllegalArgumentException") (name := "java/lang/IllegalArgumentException") C hXE [] ⟨0, 14, 17, 13⟩ [⟨0, 14, 21, 15⟩] htab (fun z hz => nomatch hz) (by decide) (by decide) cl_L_13 nx_L_13 (fun q9 => ?_)
      refine s_astore (pc := 17) (lo' := [some (.ref (ad 0)), some (.int a1), some (.int a2), some (.int a3), some (.int a4), some (.ref (ad 51)), some (.ref q9)]) C dL_piece_17 (Nat.le_of_ble_eq_true rfl) rfl ?_
      refine s_iconst (pc := 19) (v := 1) C dL_piece_19 (by decide) ?_
      exact h_iret (pc := 20) C hr hlk dL_piece_20 ⟨by decide, by decide⟩ (congrArg (fun z => some (Value.int z)) (rt hf).1) (rt hf).2
    · replace hf := ifn h_1 hf
      by_cases h_2 : E_1 = "java/lang/UnsupportedOperationException"
      · subst h_2
        replace hf := ifp rfl hf
        refine t_call (pc := 9) (rest := [.int 0, .ref (ad 51)]) C hXE rfl (c_X3_piece l D ca ad hl N a1 a2 a3 a4 σ _ e_1) kv_L_7 ⟨rfl, rfl⟩ (by decide) SH_0 ⟨_, rfl, rfl⟩ rfl rfl (Nat.le_of_ble_eq_true rfl) dL_piece_9 ⟨by decide, by decide⟩ (fun ov τ h => nomatch (show (Sum.inr ("java/lang/UnsupportedOperationException", τ_1) : RES) = .inl (ov, τ) from h)) (fun E τ h => ?_)
        cases (show (Sum.inr ("java/lang/UnsupportedOperationException", τ_1) : RES) = .inr (E, τ) from h)
        refine h_catch (pc := 9) (E := "java/lang/UnsupportedOperationException") (name := "java/lang/UnsupportedOperationException") C hXE [⟨0, 14, 17, 13⟩] ⟨0, 14, 21, 15⟩ [] htab (fun z hz => by rw [List.mem_singleton.mp hz]; exact ⟨by decide, "java/lang/IllegalArgumentException", cl_L_13, hNC ("java/lang/UnsupportedOperationException", "java/lang/IllegalArgumentException") (by decide)⟩) (by decide) (by decide) cl_L_15 nx_L_15 (fun q9 => ?_)
        refine s_astore (pc := 21) (lo' := [some (.ref (ad 0)), some (.int a1), some (.int a2), some (.int a3), some (.int a4), some (.ref (ad 51)), some (.ref q9)]) C dL_piece_21 (Nat.le_of_ble_eq_true rfl) rfl ?_
        refine s_iconst (pc := 23) (v := 2) C dL_piece_23 (by decide) ?_
        exact h_iret (pc := 24) C hr hlk dL_piece_24 ⟨by decide, by decide⟩ (congrArg (fun z => some (Value.int z)) (rt hf).1) (rt hf).2
      · replace hf := ifn h_2 hf
        cases hf
def f_L_turn (N : Nat) (a1 : Int32) (a2 : Int32) (σ : St) : Option (Int32 × St) :=
  bhI (f_X3_turn N a1 a2 σ) (fun r_1 τ_1 =>
    some (0, (su τ_1 51 (ix 0) r_1)))
    (fun E_1 τ_1 => if E_1 = "java/util/NoSuchElementException" then some (1, τ_1) else if E_1 = "java/lang/IllegalArgumentException" then some (2, τ_1) else none)
set_option maxRecDepth 100000 in
set_option maxHeartbeats 4000000 in
theorem c_L_turn (l : Launch) (D : va_G) (ca : Nat → ClassId) (ad : Nat → Nat) (hl : l.stackTraces = false) (N : Nat) (a1 : Int32) (a2 : Int32) (σ : St) (r : Int32) (τ : St) (hf : f_L_turn N a1 a2 σ = some (r, τ)) : cH l yL_turn (.codeWith yL_turn cL_turn 5 (some .int) [(0, 10, 13, 21), (0, 10, 17, 13)]) (rmx 10 2) D ca ad SH [.ref (ad 0), .int a1, .int a2, .ref (ad 51)] σ (some (.int r)) τ 2 := by
  refine cH.intro (own := RL) (lo := [some (.ref (ad 0)), some (.int a1), some (.int a2), some (.ref (ad 51)), none]) (by decide) rfl (ccR (ccI (ccI (ccR cc0)))) (Nat.le_of_ble_eq_true rfl) rfl ?_
  intro p e s m args below meth c A C hr hlk htab hXE hNC
  unfold f_L_turn at hf
  refine s_aloadn (pc := 0) C dL_turn_0 rfl ?_
  refine s_iconst (pc := 1) (v := 0) C dL_turn_1 (by decide) ?_
  refine s_aloadn (pc := 2) C dL_turn_2 rfl ?_
  refine s_iloadn (pc := 3) C dL_turn_3 rfl ?_
  refine s_iloadn (pc := 4) C dL_turn_4 rfl ?_
  rcases bhId hf with ⟨r_1, τ_1, e_1, hf⟩ | ⟨E_1, τ_1, e_1, hf⟩
  · refine t_call (pc := 5) (rest := [.int 0, .ref (ad 51)]) C hXE rfl (c_X3_turn l D ca ad hl N a1 a2 σ _ e_1) kv_L_17 ⟨rfl, rfl⟩ (by decide) SH_0 ⟨_, rfl, rfl⟩ rfl rfl (Nat.le_of_ble_eq_true rfl) dL_turn_5 ⟨by decide, by decide⟩ (fun ov τ h => ?_) (fun E τ h => nomatch (show (Sum.inl (some (Value.int r_1), τ_1) : RES) = .inr (E, τ) from h))
    cases (show (Sum.inl (some (Value.int r_1), τ_1) : RES) = .inl (ov, τ) from h)
    refine s_st (st' := [.int r_1, .int 0, .ref (ad 51)]) rfl ?_
    refine s_i2l (pc := 8) C dL_turn_8 ?_
    refine s_last (pc := 9) C SH_51 (ty3 ca) (by decide) dL_turn_9 ?_
    refine s_goto (pc := 10) (tgt := 21) C dL_turn_10 (by decide) ?_
    refine s_iconst (pc := 21) (v := 0) C dL_turn_21 (by decide) ?_
    exact h_iret (pc := 22) C hr hlk dL_turn_22 ⟨by decide, by decide⟩ (congrArg (fun z => some (Value.int z)) (rt hf).1) (rt hf).2
  · by_cases h_1 : E_1 = "java/util/NoSuchElementException"
    · subst h_1
      replace hf := ifp rfl hf
      refine t_call (pc := 5) (rest := [.int 0, .ref (ad 51)]) C hXE rfl (c_X3_turn l D ca ad hl N a1 a2 σ _ e_1) kv_L_17 ⟨rfl, rfl⟩ (by decide) SH_0 ⟨_, rfl, rfl⟩ rfl rfl (Nat.le_of_ble_eq_true rfl) dL_turn_5 ⟨by decide, by decide⟩ (fun ov τ h => nomatch (show (Sum.inr ("java/util/NoSuchElementException", τ_1) : RES) = .inl (ov, τ) from h)) (fun E τ h => ?_)
      cases (show (Sum.inr ("java/util/NoSuchElementException", τ_1) : RES) = .inr (E, τ) from h)
      refine h_catch (pc := 5) (E := "java/util/NoSuchElementException") (name := "java/util/NoSuchElementException") C hXE [] ⟨0, 10, 13, 21⟩ [⟨0, 10, 17, 13⟩] htab (fun z hz => nomatch hz) (by decide) (by decide) cl_L_21 nx_L_21 (fun q9 => ?_)
      refine s_astore (pc := 13) (lo' := [some (.ref (ad 0)), some (.int a1), some (.int a2), some (.ref (ad 51)), some (.ref q9)]) C dL_turn_13 (Nat.le_of_ble_eq_true rfl) rfl ?_
      refine s_iconst (pc := 15) (v := 1) C dL_turn_15 (by decide) ?_
      exact h_iret (pc := 16) C hr hlk dL_turn_16 ⟨by decide, by decide⟩ (congrArg (fun z => some (Value.int z)) (rt hf).1) (rt hf).2
    · replace hf := ifn h_1 hf
      by_cases h_2 : E_1 = "java/lang/IllegalArgumentException"
      · subst h_2
        replace hf := ifp rfl hf
        refine t_call (pc := 5) (rest := [.int 0, .ref (ad 51)]) C hXE rfl (c_X3_turn l D ca ad hl N a1 a2 σ _ e_1) kv_L_17 ⟨rfl, rfl⟩ (by decide) SH_0 ⟨_, rfl, rfl⟩ rfl rfl (Nat.le_of_ble_eq_true rfl) dL_turn_5 ⟨by decide, by decide⟩ (fun ov τ h => nomatch (show (Sum.inr ("java/lang/IllegalArgumentException", τ_1) : RES) = .inl (ov, τ) from h)) (fun E τ h => ?_)
        cases (show (Sum.inr ("java/lang/IllegalArgumentException", τ_1) : RES) = .inr (E, τ) from h)
        refine h_catch (pc := 5) (E := "java/lang/IllegalArgumentException") (name := "java/lang/IllegalArgumentException") C hXE [⟨0, 10, 13, 21⟩] ⟨0, 10, 17, 13⟩ [] htab (fun z hz => by rw [List.mem_singleton.mp hz]; exact ⟨by decide, "java/util/NoSuchElementException", cl_L_21, hNC ("java/lang/IllegalArgumentException", "java/util/NoSuchElementException") (by decide)⟩) (by decide) (by decide) cl_L_13 nx_L_13 (fun q9 => ?_)
        refine s_astore (pc := 17) (lo' := [some (.ref (ad 0)), some (.int a1), some (.int a2), some (.ref (ad 51)), some (.ref q9)]) C dL_turn_17 (Nat.le_of_ble_eq_true rfl) rfl ?_
        refine s_iconst (pc := 19) (v := 2) C dL_turn_19 (by decide) ?_
        exact h_iret (pc := 20) C hr hlk dL_turn_20 ⟨by decide, by decide⟩ (congrArg (fun z => some (Value.int z)) (rt hf).1) (rt hf).2
      · replace hf := ifn h_2 hf
        cases hf
def f_L_limit (N : Nat) (a1 : Int32) (a2 : Int32) (σ : St) : Option (Int32 × St) :=
  bhV (f_X3_limit N a1 a2 σ) (fun τ_1 =>
    some (0, τ_1))
    (fun E_1 τ_1 => if E_1 = "java/util/NoSuchElementException" then some (1, τ_1) else if E_1 = "java/lang/IllegalArgumentException" then some (2, τ_1) else none)
set_option maxRecDepth 100000 in
set_option maxHeartbeats 4000000 in
theorem c_L_limit (l : Launch) (D : va_G) (ca : Nat → ClassId) (ad : Nat → Nat) (hl : l.stackTraces = false) (N : Nat) (a1 : Int32) (a2 : Int32) (σ : St) (r : Int32) (τ : St) (hf : f_L_limit N a1 a2 σ = some (r, τ)) : cH l yL_limit (.codeWith yL_limit cL_limit 4 (some .int) [(0, 6, 9, 21), (0, 6, 12, 13)]) (rmx 10 2) D ca ad SH [.ref (ad 0), .int a1, .int a2] σ (some (.int r)) τ 2 := by
  refine cH.intro (own := RL) (lo := [some (.ref (ad 0)), some (.int a1), some (.int a2), none]) (by decide) rfl (ccR (ccI (ccI cc0))) (Nat.le_of_ble_eq_true rfl) rfl ?_
  intro p e s m args below meth c A C hr hlk htab hXE hNC
  unfold f_L_limit at hf
  refine s_aloadn (pc := 0) C dL_limit_0 rfl ?_
  refine s_iloadn (pc := 1) C dL_limit_1 rfl ?_
  refine s_iloadn (pc := 2) C dL_limit_2 rfl ?_
  rcases bhVd hf with ⟨τ_1, e_1, hf⟩ | ⟨E_1, τ_1, e_1, hf⟩
  · refine t_call (pc := 3) (rest := []) C hXE rfl (c_X3_limit l D ca ad hl N a1 a2 σ _ e_1) kv_L_23 ⟨rfl, rfl⟩ (by decide) SH_0 ⟨_, rfl, rfl⟩ rfl rfl (Nat.le_of_ble_eq_true rfl) dL_limit_3 ⟨by decide, by decide⟩ (fun ov τ h => ?_) (fun E τ h => nomatch (show (Sum.inl (none, τ_1) : RES) = .inr (E, τ) from h))
    cases (show (Sum.inl (none, τ_1) : RES) = .inl (ov, τ) from h)
    refine s_st (st' := []) rfl ?_
    refine s_goto (pc := 6) (tgt := 15) C dL_limit_6 (by decide) ?_
    refine s_iconst (pc := 15) (v := 0) C dL_limit_15 (by decide) ?_
    exact h_iret (pc := 16) C hr hlk dL_limit_16 ⟨by decide, by decide⟩ (congrArg (fun z => some (Value.int z)) (rt hf).1) (rt hf).2
  · by_cases h_1 : E_1 = "java/util/NoSuchElementException"
    · subst h_1
      replace hf := ifp rfl hf
      refine t_call (pc := 3) (rest := []) C hXE rfl (c_X3_limit l D ca ad hl N a1 a2 σ _ e_1) kv_L_23 ⟨rfl, rfl⟩ (by decide) SH_0 ⟨_, rfl, rfl⟩ rfl rfl (Nat.le_of_ble_eq_true rfl) dL_limit_3 ⟨by decide, by decide⟩ (fun ov τ h => nomatch (show (Sum.inr ("java/util/NoSuchElementException", τ_1) : RES) = .inl (ov, τ) from h)) (fun E τ h => ?_)
      cases (show (Sum.inr ("java/util/NoSuchElementException", τ_1) : RES) = .inr (E, τ) from h)
      refine h_catch (pc := 3) (E := "java/util/NoSuchElementException") (name := "java/util/NoSuchElementException") C hXE [] ⟨0, 6, 9, 21⟩ [⟨0, 6, 12, 13⟩] htab (fun z hz => nomatch hz) (by decide) (by decide) cl_L_21 nx_L_21 (fun q9 => ?_)
      refine s_astoren (pc := 9) (lo' := [some (.ref (ad 0)), some (.int a1), some (.int a2), some (.ref q9)]) C dL_limit_9 (Nat.le_of_ble_eq_true rfl) rfl ?_
      refine s_iconst (pc := 10) (v := 1) C dL_limit_10 (by decide) ?_
      exact h_iret (pc := 11) C hr hlk dL_limit_11 ⟨by decide, by decide⟩ (congrArg (fun z => some (Value.int z)) (rt hf).1) (rt hf).2
    · replace hf := ifn h_1 hf
      by_cases h_2 : E_1 = "java/lang/IllegalArgumentException"
      · subst h_2
        replace hf := ifp rfl hf
        refine t_call (pc := 3) (rest := []) C hXE rfl (c_X3_limit l D ca ad hl N a1 a2 σ _ e_1) kv_L_23 ⟨rfl, rfl⟩ (by decide) SH_0 ⟨_, rfl, rfl⟩ rfl rfl (Nat.le_of_ble_eq_true rfl) dL_limit_3 ⟨by decide, by decide⟩ (fun ov τ h => nomatch (show (Sum.inr ("java/lang/IllegalArgumentException", τ_1) : RES) = .inl (ov, τ) from h)) (fun E τ h => ?_)
        cases (show (Sum.inr ("java/lang/IllegalArgumentException", τ_1) : RES) = .inr (E, τ) from h)
        refine h_catch (pc := 3) (E := "java/lang/IllegalArgumentException") (name := "java/lang/IllegalArgumentException") C hXE [⟨0, 6, 9, 21⟩] ⟨0, 6, 12, 13⟩ [] htab (fun z hz => by rw [List.mem_singleton.mp hz]; exact ⟨by decide, "java/util/NoSuchElementException", cl_L_21, hNC ("java/lang/IllegalArgumentException", "java/util/NoSuchElementException") (by decide)⟩) (by decide) (by decide) cl_L_13 nx_L_13 (fun q9 => ?_)
        refine s_astoren (pc := 12) (lo' := [some (.ref (ad 0)), some (.int a1), some (.int a2), some (.ref q9)]) C dL_limit_12 (Nat.le_of_ble_eq_true rfl) rfl ?_
        refine s_iconst (pc := 13) (v := 2) C dL_limit_13 (by decide) ?_
        exact h_iret (pc := 14) C hr hlk dL_limit_14 ⟨by decide, by decide⟩ (congrArg (fun z => some (Value.int z)) (rt hf).1) (rt hf).2
      · replace hf := ifn h_2 hf
        cases hf
def f_L_rank (N : Nat) (a1 : Int32) (a2 : Int32) (σ : St) : Option (Int32 × St) :=
  bhI (f_X3_rank N a1 a2 σ) (fun r_1 τ_1 =>
    some (0, (su τ_1 51 (ix 0) r_1)))
    (fun E_1 τ_1 => if E_1 = "java/util/NoSuchElementException" then some (1, τ_1) else if E_1 = "java/lang/IllegalArgumentException" then some (2, τ_1) else none)
set_option maxRecDepth 100000 in
set_option maxHeartbeats 4000000 in
theorem c_L_rank (l : Launch) (D : va_G) (ca : Nat → ClassId) (ad : Nat → Nat) (hl : l.stackTraces = false) (N : Nat) (a1 : Int32) (a2 : Int32) (σ : St) (r : Int32) (τ : St) (hf : f_L_rank N a1 a2 σ = some (r, τ)) : cH l yL_rank (.codeWith yL_rank cL_rank 5 (some .int) [(0, 10, 13, 21), (0, 10, 17, 13)]) (rmx 10 2) D ca ad SH [.ref (ad 0), .int a1, .int a2, .ref (ad 51)] σ (some (.int r)) τ 2 := by
  refine cH.intro (own := RL) (lo := [some (.ref (ad 0)), some (.int a1), some (.int a2), some (.ref (ad 51)), none]) (by decide) rfl (ccR (ccI (ccI (ccR cc0)))) (Nat.le_of_ble_eq_true rfl) rfl ?_
  intro p e s m args below meth c A C hr hlk htab hXE hNC
  unfold f_L_rank at hf
  refine s_aloadn (pc := 0) C dL_rank_0 rfl ?_
  refine s_iconst (pc := 1) (v := 0) C dL_rank_1 (by decide) ?_
  refine s_aloadn (pc := 2) C dL_rank_2 rfl ?_
  refine s_iloadn (pc := 3) C dL_rank_3 rfl ?_
  refine s_iloadn (pc := 4) C dL_rank_4 rfl ?_
  rcases bhId hf with ⟨r_1, τ_1, e_1, hf⟩ | ⟨E_1, τ_1, e_1, hf⟩
  · refine t_call (pc := 5) (rest := [.int 0, .ref (ad 51)]) C hXE rfl (c_X3_rank l D ca ad hl N a1 a2 σ _ e_1) kv_L_27 ⟨rfl, rfl⟩ (by decide) SH_0 ⟨_, rfl, rfl⟩ rfl rfl (Nat.le_of_ble_eq_true rfl) dL_rank_5 ⟨by decide, by decide⟩ (fun ov τ h => ?_) (fun E τ h => nomatch (show (Sum.inl (some (Value.int r_1), τ_1) : RES) = .inr (E, τ) from h))
    cases (show (Sum.inl (some (Value.int r_1), τ_1) : RES) = .inl (ov, τ) from h)
    refine s_st (st' := [.int r_1, .int 0, .ref (ad 51)]) rfl ?_
    refine s_i2l (pc := 8) C dL_rank_8 ?_
    refine s_last (pc := 9) C SH_51 (ty3 ca) (by decide) dL_rank_9 ?_
    refine s_goto (pc := 10) (tgt := 21) C dL_rank_10 (by decide) ?_
    refine s_iconst (pc := 21) (v := 0) C dL_rank_21 (by decide) ?_
    exact h_iret (pc := 22) C hr hlk dL_rank_22 ⟨by decide, by decide⟩ (congrArg (fun z => some (Value.int z)) (rt hf).1) (rt hf).2
  · by_cases h_1 : E_1 = "java/util/NoSuchElementException"
    · subst h_1
      replace hf := ifp rfl hf
      refine t_call (pc := 5) (rest := [.int 0, .ref (ad 51)]) C hXE rfl (c_X3_rank l D ca ad hl N a1 a2 σ _ e_1) kv_L_27 ⟨rfl, rfl⟩ (by decide) SH_0 ⟨_, rfl, rfl⟩ rfl rfl (Nat.le_of_ble_eq_true rfl) dL_rank_5 ⟨by decide, by decide⟩ (fun ov τ h => nomatch (show (Sum.inr ("java/util/NoSuchElementException", τ_1) : RES) = .inl (ov, τ) from h)) (fun E τ h => ?_)
      cases (show (Sum.inr ("java/util/NoSuchElementException", τ_1) : RES) = .inr (E, τ) from h)
      refine h_catch (pc := 5) (E := "java/util/NoSuchElementException") (name := "java/util/NoSuchElementException") C hXE [] ⟨0, 10, 13, 21⟩ [⟨0, 10, 17, 13⟩] htab (fun z hz => nomatch hz) (by decide) (by decide) cl_L_21 nx_L_21 (fun q9 => ?_)
      refine s_astore (pc := 13) (lo' := [some (.ref (ad 0)), some (.int a1), some (.int a2), some (.ref (ad 51)), some (.ref q9)]) C dL_rank_13 (Nat.le_of_ble_eq_true rfl) rfl ?_
      refine s_iconst (pc := 15) (v := 1) C dL_rank_15 (by decide) ?_
      exact h_iret (pc := 16) C hr hlk dL_rank_16 ⟨by decide, by decide⟩ (congrArg (fun z => some (Value.int z)) (rt hf).1) (rt hf).2
    · replace hf := ifn h_1 hf
      by_cases h_2 : E_1 = "java/lang/IllegalArgumentException"
      · subst h_2
        replace hf := ifp rfl hf
        refine t_call (pc := 5) (rest := [.int 0, .ref (ad 51)]) C hXE rfl (c_X3_rank l D ca ad hl N a1 a2 σ _ e_1) kv_L_27 ⟨rfl, rfl⟩ (by decide) SH_0 ⟨_, rfl, rfl⟩ rfl rfl (Nat.le_of_ble_eq_true rfl) dL_rank_5 ⟨by decide, by decide⟩ (fun ov τ h => nomatch (show (Sum.inr ("java/lang/IllegalArgumentException", τ_1) : RES) = .inl (ov, τ) from h)) (fun E τ h => ?_)
        cases (show (Sum.inr ("java/lang/IllegalArgumentException", τ_1) : RES) = .inr (E, τ) from h)
        refine h_catch (pc := 5) (E := "java/lang/IllegalArgumentException") (name := "java/lang/IllegalArgumentException") C hXE [⟨0, 10, 13, 21⟩] ⟨0, 10, 17, 13⟩ [] htab (fun z hz => by rw [List.mem_singleton.mp hz]; exact ⟨by decide, "java/util/NoSuchElementException", cl_L_21, hNC ("java/lang/IllegalArgumentException", "java/util/NoSuchElementException") (by decide)⟩) (by decide) (by decide) cl_L_13 nx_L_13 (fun q9 => ?_)
        refine s_astore (pc := 17) (lo' := [some (.ref (ad 0)), some (.int a1), some (.int a2), some (.ref (ad 51)), some (.ref q9)]) C dL_rank_17 (Nat.le_of_ble_eq_true rfl) rfl ?_
        refine s_iconst (pc := 19) (v := 2) C dL_rank_19 (by decide) ?_
        exact h_iret (pc := 20) C hr hlk dL_rank_20 ⟨by decide, by decide⟩ (congrArg (fun z => some (Value.int z)) (rt hf).1) (rt hf).2
      · replace hf := ifn h_2 hf
        cases hf
def f_L_share (N : Nat) (a1 : Int32) (σ : St) : Option (Int32 × St) :=
  bhV (f_X3_share N a1 σ) (fun τ_1 =>
    some (0, τ_1))
    (fun E_1 τ_1 => if E_1 = "java/lang/IllegalArgumentException" then some (1, τ_1) else none)
set_option maxRecDepth 100000 in
set_option maxHeartbeats 4000000 in
theorem c_L_share (l : Launch) (D : va_G) (ca : Nat → ClassId) (ad : Nat → Nat) (hl : l.stackTraces = false) (N : Nat) (a1 : Int32) (σ : St) (r : Int32) (τ : St) (hf : f_L_share N a1 σ = some (r, τ)) : cH l yL_share (.codeWith yL_share cL_share 3 (some .int) [(0, 5, 8, 13)]) (rmx 9 1) D ca ad SH [.ref (ad 0), .int a1] σ (some (.int r)) τ 1 := by
  refine cH.intro (own := RL) (lo := [some (.ref (ad 0)), some (.int a1), none]) (by decide) rfl (ccR (ccI cc0)) (Nat.le_of_ble_eq_true rfl) rfl ?_
  intro p e s m args below meth c A C hr hlk htab hXE hNC
  unfold f_L_share at hf
  refine s_aloadn (pc := 0) C dL_share_0 rfl ?_
  refine s_iloadn (pc := 1) C dL_share_1 rfl ?_
  rcases bhVd hf with ⟨τ_1, e_1, hf⟩ | ⟨E_1, τ_1, e_1, hf⟩
  · refine t_call (pc := 2) (rest := []) C hXE rfl (c_X3_share l D ca ad hl N a1 σ _ e_1) kv_L_30 ⟨rfl, rfl⟩ (by decide) SH_0 ⟨_, rfl, rfl⟩ rfl rfl (Nat.le_of_ble_eq_true rfl) dL_share_2 ⟨by decide, by decide⟩ (fun ov τ h => ?_) (fun E τ h => nomatch (show (Sum.inl (none, τ_1) : RES) = .inr (E, τ) from h))
    cases (show (Sum.inl (none, τ_1) : RES) = .inl (ov, τ) from h)
    refine s_st (st' := []) rfl ?_
    refine s_goto (pc := 5) (tgt := 11) C dL_share_5 (by decide) ?_
    refine s_iconst (pc := 11) (v := 0) C dL_share_11 (by decide) ?_
    exact h_iret (pc := 12) C hr hlk dL_share_12 ⟨by decide, by decide⟩ (congrArg (fun z => some (Value.int z)) (rt hf).1) (rt hf).2
  · by_cases h_1 : E_1 = "java/lang/IllegalArgumentException"
    · subst h_1
      replace hf := ifp rfl hf
      refine t_call (pc := 2) (rest := []) C hXE rfl (c_X3_share l D ca ad hl N a1 σ _ e_1) kv_L_30 ⟨rfl, rfl⟩ (by decide) SH_0 ⟨_, rfl, rfl⟩ rfl rfl (Nat.le_of_ble_eq_true rfl) dL_share_2 ⟨by decide, by decide⟩ (fun ov τ h => nomatch (show (Sum.inr ("java/lang/IllegalArgumentException", τ_1) : RES) = .inl (ov, τ) from h)) (fun E τ h => ?_)
      cases (show (Sum.inr ("java/lang/IllegalArgumentException", τ_1) : RES) = .inr (E, τ) from h)
      refine h_catch (pc := 2) (E := "java/lang/IllegalArgumentException") (name := "java/lang/IllegalArgumentException") C hXE [] ⟨0, 5, 8, 13⟩ [] htab (fun z hz => nomatch hz) (by decide) (by decide) cl_L_13 nx_L_13 (fun q9 => ?_)
      refine s_astoren (pc := 8) (lo' := [some (.ref (ad 0)), some (.int a1), some (.ref q9)]) C dL_share_8 (Nat.le_of_ble_eq_true rfl) rfl ?_
      refine s_iconst (pc := 9) (v := 1) C dL_share_9 (by decide) ?_
      exact h_iret (pc := 10) C hr hlk dL_share_10 ⟨by decide, by decide⟩ (congrArg (fun z => some (Value.int z)) (rt hf).1) (rt hf).2
    · replace hf := ifn h_1 hf
      cases hf
def f_L_solve (N : Nat) (a1 : Int32) (σ : St) : Option (Int32 × St) :=
  bhI (f_X3_solve N a1 σ) (fun r_1 τ_1 =>
    some (0, (su τ_1 51 (ix 0) r_1)))
    (fun E_1 τ_1 => if E_1 = "java/lang/IllegalArgumentException" then some (1, τ_1) else none)
set_option maxRecDepth 100000 in
set_option maxHeartbeats 4000000 in
theorem c_L_solve (l : Launch) (D : va_G) (ca : Nat → ClassId) (ad : Nat → Nat) (hl : l.stackTraces = false) (N : Nat) (a1 : Int32) (σ : St) (r : Int32) (τ : St) (hf : f_L_solve N a1 σ = some (r, τ)) : cH l yL_solve (.codeWith yL_solve cL_solve 4 (some .int) [(0, 9, 12, 13)]) (rmx 25 1) D ca ad SH [.ref (ad 0), .int a1, .ref (ad 51)] σ (some (.int r)) τ 1 := by
  refine cH.intro (own := RL) (lo := [some (.ref (ad 0)), some (.int a1), some (.ref (ad 51)), none]) (by decide) rfl (ccR (ccI (ccR cc0))) (Nat.le_of_ble_eq_true rfl) rfl ?_
  intro p e s m args below meth c A C hr hlk htab hXE hNC
  unfold f_L_solve at hf
  refine s_aloadn (pc := 0) C dL_solve_0 rfl ?_
  refine s_iconst (pc := 1) (v := 0) C dL_solve_1 (by decide) ?_
  refine s_aloadn (pc := 2) C dL_solve_2 rfl ?_
  refine s_iloadn (pc := 3) C dL_solve_3 rfl ?_
  rcases bhId hf with ⟨r_1, τ_1, e_1, hf⟩ | ⟨E_1, τ_1, e_1, hf⟩
  · refine t_call (pc := 4) (rest := [.int 0, .ref (ad 51)]) C hXE rfl (c_X3_solve l D ca ad hl N a1 σ _ e_1) kv_L_34 ⟨rfl, rfl⟩ (by decide) SH_0 ⟨_, rfl, rfl⟩ rfl rfl (Nat.le_of_ble_eq_true rfl) dL_solve_4 ⟨by decide, by decide⟩ (fun ov τ h => ?_) (fun E τ h => nomatch (show (Sum.inl (some (Value.int r_1), τ_1) : RES) = .inr (E, τ) from h))
    cases (show (Sum.inl (some (Value.int r_1), τ_1) : RES) = .inl (ov, τ) from h)
    refine s_st (st' := [.int r_1, .int 0, .ref (ad 51)]) rfl ?_
    refine s_i2l (pc := 7) C dL_solve_7 ?_
    refine s_last (pc := 8) C SH_51 (ty3 ca) (by decide) dL_solve_8 ?_
    refine s_goto (pc := 9) (tgt := 15) C dL_solve_9 (by decide) ?_
    refine s_iconst (pc := 15) (v := 0) C dL_solve_15 (by decide) ?_
    exact h_iret (pc := 16) C hr hlk dL_solve_16 ⟨by decide, by decide⟩ (congrArg (fun z => some (Value.int z)) (rt hf).1) (rt hf).2
  · by_cases h_1 : E_1 = "java/lang/IllegalArgumentException"
    · subst h_1
      replace hf := ifp rfl hf
      refine t_call (pc := 4) (rest := [.int 0, .ref (ad 51)]) C hXE rfl (c_X3_solve l D ca ad hl N a1 σ _ e_1) kv_L_34 ⟨rfl, rfl⟩ (by decide) SH_0 ⟨_, rfl, rfl⟩ rfl rfl (Nat.le_of_ble_eq_true rfl) dL_solve_4 ⟨by decide, by decide⟩ (fun ov τ h => nomatch (show (Sum.inr ("java/lang/IllegalArgumentException", τ_1) : RES) = .inl (ov, τ) from h)) (fun E τ h => ?_)
      cases (show (Sum.inr ("java/lang/IllegalArgumentException", τ_1) : RES) = .inr (E, τ) from h)
      refine h_catch (pc := 4) (E := "java/lang/IllegalArgumentException") (name := "java/lang/IllegalArgumentException") C hXE [] ⟨0, 9, 12, 13⟩ [] htab (fun z hz => nomatch hz) (by decide) (by decide) cl_L_13 nx_L_13 (fun q9 => ?_)
      refine s_astoren (pc := 12) (lo' := [some (.ref (ad 0)), some (.int a1), some (.ref (ad 51)), some (.ref q9)]) C dL_solve_12 (Nat.le_of_ble_eq_true rfl) rfl ?_
      refine s_iconst (pc := 13) (v := 1) C dL_solve_13 (by decide) ?_
      exact h_iret (pc := 14) C hr hlk dL_solve_14 ⟨by decide, by decide⟩ (congrArg (fun z => some (Value.int z)) (rt hf).1) (rt hf).2
    · replace hf := ifn h_1 hf
      cases hf
def f_L_at (N : Nat) (a1 : Int32) (a2 : Int32) (σ : St) : Option (Int32 × St) :=
  bhI (f_X3_at N a1 a2 σ) (fun r_1 τ_1 =>
    some (0, (su τ_1 51 (ix 0) r_1)))
    (fun E_1 τ_1 => if E_1 = "java/util/NoSuchElementException" then some (1, τ_1) else if E_1 = "java/lang/IllegalArgumentException" then some (2, τ_1) else none)
set_option maxRecDepth 100000 in
set_option maxHeartbeats 4000000 in
theorem c_L_at (l : Launch) (D : va_G) (ca : Nat → ClassId) (ad : Nat → Nat) (hl : l.stackTraces = false) (N : Nat) (a1 : Int32) (a2 : Int32) (σ : St) (r : Int32) (τ : St) (hf : f_L_at N a1 a2 σ = some (r, τ)) : cH l yL_at (.codeWith yL_at cL_at 5 (some .int) [(0, 10, 13, 21), (0, 10, 17, 13)]) (rmx 10 2) D ca ad SH [.ref (ad 0), .int a1, .int a2, .ref (ad 51)] σ (some (.int r)) τ 2 := by
  refine cH.intro (own := RL) (lo := [some (.ref (ad 0)), some (.int a1), some (.int a2), some (.ref (ad 51)), none]) (by decide) rfl (ccR (ccI (ccI (ccR cc0)))) (Nat.le_of_ble_eq_true rfl) rfl ?_
  intro p e s m args below meth c A C hr hlk htab hXE hNC
  unfold f_L_at at hf
  refine s_aloadn (pc := 0) C dL_at_0 rfl ?_
  refine s_iconst (pc := 1) (v := 0) C dL_at_1 (by decide) ?_
  refine s_aloadn (pc := 2) C dL_at_2 rfl ?_
  refine s_iloadn (pc := 3) C dL_at_3 rfl ?_
  refine s_iloadn (pc := 4) C dL_at_4 rfl ?_
  rcases bhId hf with ⟨r_1, τ_1, e_1, hf⟩ | ⟨E_1, τ_1, e_1, hf⟩
  · refine t_call (pc := 5) (rest := [.int 0, .ref (ad 51)]) C hXE rfl (c_X3_at l D ca ad hl N a1 a2 σ _ e_1) kv_L_38 ⟨rfl, rfl⟩ (by decide) SH_0 ⟨_, rfl, rfl⟩ rfl rfl (Nat.le_of_ble_eq_true rfl) dL_at_5 ⟨by decide, by decide⟩ (fun ov τ h => ?_) (fun E τ h => nomatch (show (Sum.inl (some (Value.int r_1), τ_1) : RES) = .inr (E, τ) from h))
    cases (show (Sum.inl (some (Value.int r_1), τ_1) : RES) = .inl (ov, τ) from h)
    refine s_st (st' := [.int r_1, .int 0, .ref (ad 51)]) rfl ?_
    refine s_i2l (pc := 8) C dL_at_8 ?_
    refine s_last (pc := 9) C SH_51 (ty3 ca) (by decide) dL_at_9 ?_
    refine s_goto (pc := 10) (tgt := 21) C dL_at_10 (by decide) ?_
    refine s_iconst (pc := 21) (v := 0) C dL_at_21 (by decide) ?_
    exact h_iret (pc := 22) C hr hlk dL_at_22 ⟨by decide, by decide⟩ (congrArg (fun z => some (Value.int z)) (rt hf).1) (rt hf).2
  · by_cases h_1 : E_1 = "java/util/NoSuchElementException"
    · subst h_1
      replace hf := ifp rfl hf
      refine t_call (pc := 5) (rest := [.int 0, .ref (ad 51)]) C hXE rfl (c_X3_at l D ca ad hl N a1 a2 σ _ e_1) kv_L_38 ⟨rfl, rfl⟩ (by decide) SH_0 ⟨_, rfl, rfl⟩ rfl rfl (Nat.le_of_ble_eq_true rfl) dL_at_5 ⟨by decide, by decide⟩ (fun ov τ h => nomatch (show (Sum.inr ("java/util/NoSuchElementException", τ_1) : RES) = .inl (ov, τ) from h)) (fun E τ h => ?_)
      cases (show (Sum.inr ("java/util/NoSuchElementException", τ_1) : RES) = .inr (E, τ) from h)
      refine h_catch (pc := 5) (E := "java/util/NoSuchElementException") (name := "java/util/NoSuchElementException") C hXE [] ⟨0, 10, 13, 21⟩ [⟨0, 10, 17, 13⟩] htab (fun z hz => nomatch hz) (by decide) (by decide) cl_L_21 nx_L_21 (fun q9 => ?_)
      refine s_astore (pc := 13) (lo' := [some (.ref (ad 0)), some (.int a1), some (.int a2), some (.ref (ad 51)), some (.ref q9)]) C dL_at_13 (Nat.le_of_ble_eq_true rfl) rfl ?_
      refine s_iconst (pc := 15) (v := 1) C dL_at_15 (by decide) ?_
      exact h_iret (pc := 16) C hr hlk dL_at_16 ⟨by decide, by decide⟩ (congrArg (fun z => some (Value.int z)) (rt hf).1) (rt hf).2
    · replace hf := ifn h_1 hf
      by_cases h_2 : E_1 = "java/lang/IllegalArgumentException"
      · subst h_2
        replace hf := ifp rfl hf
        refine t_call (pc := 5) (rest := [.int 0, .ref (ad 51)]) C hXE rfl (c_X3_at l D ca ad hl N a1 a2 σ _ e_1) kv_L_38 ⟨rfl, rfl⟩ (by decide) SH_0 ⟨_, rfl, rfl⟩ rfl rfl (Nat.le_of_ble_eq_true rfl) dL_at_5 ⟨by decide, by decide⟩ (fun ov τ h => nomatch (show (Sum.inr ("java/lang/IllegalArgumentException", τ_1) : RES) = .inl (ov, τ) from h)) (fun E τ h => ?_)
        cases (show (Sum.inr ("java/lang/IllegalArgumentException", τ_1) : RES) = .inr (E, τ) from h)
        refine h_catch (pc := 5) (E := "java/lang/IllegalArgumentException") (name := "java/lang/IllegalArgumentException") C hXE [⟨0, 10, 13, 21⟩] ⟨0, 10, 17, 13⟩ [] htab (fun z hz => by rw [List.mem_singleton.mp hz]; exact ⟨by decide, "java/util/NoSuchElementException", cl_L_21, hNC ("java/lang/IllegalArgumentException", "java/util/NoSuchElementException") (by decide)⟩) (by decide) (by decide) cl_L_13 nx_L_13 (fun q9 => ?_)
        refine s_astore (pc := 17) (lo' := [some (.ref (ad 0)), some (.int a1), some (.int a2), some (.ref (ad 51)), some (.ref q9)]) C dL_at_17 (Nat.le_of_ble_eq_true rfl) rfl ?_
        refine s_iconst (pc := 19) (v := 2) C dL_at_19 (by decide) ?_
        exact h_iret (pc := 20) C hr hlk dL_at_20 ⟨by decide, by decide⟩ (congrArg (fun z => some (Value.int z)) (rt hf).1) (rt hf).2
      · replace hf := ifn h_2 hf
        cases hf
def f_L_over (N : Nat) (a1 : Int32) (a2 : Int32) (σ : St) : Option (Int32 × St) :=
  bhI (f_X3_over N a1 a2 σ) (fun r_1 τ_1 =>
    if r_1 = 0 then
      some (0, (su τ_1 51 (ix 0) 0))
    else
      some (0, (su τ_1 51 (ix 0) 1)))
    (fun E_1 τ_1 => if E_1 = "java/util/NoSuchElementException" then some (1, τ_1) else if E_1 = "java/lang/IllegalStateException" then some (2, τ_1) else none)
set_option maxRecDepth 100000 in
set_option maxHeartbeats 4000000 in
theorem c_L_over (l : Launch) (D : va_G) (ca : Nat → ClassId) (ad : Nat → Nat) (hl : l.stackTraces = false) (N : Nat) (a1 : Int32) (a2 : Int32) (σ : St) (r : Int32) (τ : St) (hf : f_L_over N a1 a2 σ = some (r, τ)) : cH l yL_over (.codeWith yL_over cL_over 5 (some .int) [(0, 17, 20, 21), (0, 17, 24, 45)]) (rmx 10 3) D ca ad SH [.ref (ad 0), .int a1, .int a2, .ref (ad 51)] σ (some (.int r)) τ 3 := by
  refine cH.intro (own := RL) (lo := [some (.ref (ad 0)), some (.int a1), some (.int a2), some (.ref (ad 51)), none]) (by decide) rfl (ccR (ccI (ccI (ccR cc0)))) (Nat.le_of_ble_eq_true rfl) rfl ?_
  intro p e s m args below meth c A C hr hlk htab hXE hNC
  unfold f_L_over at hf
  refine s_aloadn (pc := 0) C dL_over_0 rfl ?_
  refine s_iconst (pc := 1) (v := 0) C dL_over_1 (by decide) ?_
  refine s_aloadn (pc := 2) C dL_over_2 rfl ?_
  refine s_iloadn (pc := 3) C dL_over_3 rfl ?_
  refine s_iloadn (pc := 4) C dL_over_4 rfl ?_
  rcases bhId hf with ⟨r_1, τ_1, e_1, hf⟩ | ⟨E_1, τ_1, e_1, hf⟩
  · refine t_call (pc := 5) (rest := [.int 0, .ref (ad 51)]) C hXE rfl (c_X3_over l D ca ad hl N a1 a2 σ _ e_1) kv_L_41 ⟨rfl, rfl⟩ (by decide) SH_0 ⟨_, rfl, rfl⟩ rfl rfl (Nat.le_of_ble_eq_true rfl) dL_over_5 ⟨by decide, by decide⟩ (fun ov τ h => ?_) (fun E τ h => nomatch (show (Sum.inl (some (Value.int r_1), τ_1) : RES) = .inr (E, τ) from h))
    cases (show (Sum.inl (some (Value.int r_1), τ_1) : RES) = .inl (ov, τ) from h)
    refine s_st (st' := [.int r_1, .int 0, .ref (ad 51)]) rfl ?_
    refine s_if_eq (pc := 8) (tgt := 15) C dL_over_8 (by decide) (fun h_1 => ?_) (fun h_1 => ?_)
    · replace hf := ifp h_1 hf
      refine s_lconst (pc := 15) (v := (0 : Int32).toInt64) C dL_over_15 (by decide) ?_
      refine s_last (pc := 16) C SH_51 (ty3 ca) (by decide) dL_over_16 ?_
      refine s_goto (pc := 17) (tgt := 28) C dL_over_17 (by decide) ?_
      refine s_iconst (pc := 28) (v := 0) C dL_over_28 (by decide) ?_
      exact h_iret (pc := 29) C hr hlk dL_over_29 ⟨by decide, by decide⟩ (congrArg (fun z => some (Value.int z)) (rt hf).1) (rt hf).2
    · replace hf := ifn h_1 hf
      refine s_lconst (pc := 11) (v := (1 : Int32).toInt64) C dL_over_11 (by decide) ?_
      refine s_goto (pc := 12) (tgt := 16) C dL_over_12 (by decide) ?_
      refine s_last (pc := 16) C SH_51 (ty3 ca) (by decide) dL_over_16 ?_
      refine s_goto (pc := 17) (tgt := 28) C dL_over_17 (by decide) ?_
      refine s_iconst (pc := 28) (v := 0) C dL_over_28 (by decide) ?_
      exact h_iret (pc := 29) C hr hlk dL_over_29 ⟨by decide, by decide⟩ (congrArg (fun z => some (Value.int z)) (rt hf).1) (rt hf).2
  · by_cases h_2 : E_1 = "java/util/NoSuchElementException"
    · subst h_2
      replace hf := ifp rfl hf
      refine t_call (pc := 5) (rest := [.int 0, .ref (ad 51)]) C hXE rfl (c_X3_over l D ca ad hl N a1 a2 σ _ e_1) kv_L_41 ⟨rfl, rfl⟩ (by decide) SH_0 ⟨_, rfl, rfl⟩ rfl rfl (Nat.le_of_ble_eq_true rfl) dL_over_5 ⟨by decide, by decide⟩ (fun ov τ h => nomatch (show (Sum.inr ("java/util/NoSuchElementException", τ_1) : RES) = .inl (ov, τ) from h)) (fun E τ h => ?_)
      cases (show (Sum.inr ("java/util/NoSuchElementException", τ_1) : RES) = .inr (E, τ) from h)
      refine h_catch (pc := 5) (E := "java/util/NoSuchElementException") (name := "java/util/NoSuchElementException") C hXE [] ⟨0, 17, 20, 21⟩ [⟨0, 17, 24, 45⟩] htab (fun z hz => nomatch hz) (by decide) (by decide) cl_L_21 nx_L_21 (fun q9 => ?_)
      refine s_astore (pc := 20) (lo' := [some (.ref (ad 0)), some (.int a1), some (.int a2), some (.ref (ad 51)), some (.ref q9)]) C dL_over_20 (Nat.le_of_ble_eq_true rfl) rfl ?_
      refine s_iconst (pc := 22) (v := 1) C dL_over_22 (by decide) ?_
      exact h_iret (pc := 23) C hr hlk dL_over_23 ⟨by decide, by decide⟩ (congrArg (fun z => some (Value.int z)) (rt hf).1) (rt hf).2
    · replace hf := ifn h_2 hf
      by_cases h_3 : E_1 = "java/lang/IllegalStateException"
      · subst h_3
        replace hf := ifp rfl hf
        refine t_call (pc := 5) (rest := [.int 0, .ref (ad 51)]) C hXE rfl (c_X3_over l D ca ad hl N a1 a2 σ _ e_1) kv_L_41 ⟨rfl, rfl⟩ (by decide) SH_0 ⟨_, rfl, rfl⟩ rfl rfl (Nat.le_of_ble_eq_true rfl) dL_over_5 ⟨by decide, by decide⟩ (fun ov τ h => nomatch (show (Sum.inr ("java/lang/IllegalStateException", τ_1) : RES) = .inl (ov, τ) from h)) (fun E τ h => ?_)
        cases (show (Sum.inr ("java/lang/IllegalStateException", τ_1) : RES) = .inr (E, τ) from h)
        refine h_catch (pc := 5) (E := "java/lang/IllegalStateException") (name := "java/lang/IllegalStateException") C hXE [⟨0, 17, 20, 21⟩] ⟨0, 17, 24, 45⟩ [] htab (fun z hz => by rw [List.mem_singleton.mp hz]; exact ⟨by decide, "java/util/NoSuchElementException", cl_L_21, hNC ("java/lang/IllegalStateException", "java/util/NoSuchElementException") (by decide)⟩) (by decide) (by decide) cl_L_45 nx_L_45 (fun q9 => ?_)
        refine s_astore (pc := 24) (lo' := [some (.ref (ad 0)), some (.int a1), some (.int a2), some (.ref (ad 51)), some (.ref q9)]) C dL_over_24 (Nat.le_of_ble_eq_true rfl) rfl ?_
        refine s_iconst (pc := 26) (v := 2) C dL_over_26 (by decide) ?_
        exact h_iret (pc := 27) C hr hlk dL_over_27 ⟨by decide, by decide⟩ (congrArg (fun z => some (Value.int z)) (rt hf).1) (rt hf).2
      · replace hf := ifn h_3 hf
        cases hf
def f_L_support (N : Nat) (a1 : Int32) (σ : St) : Option (Int32 × St) :=
  bhI (f_X3_support N a1 σ) (fun r_1 τ_1 =>
    some (0, (su τ_1 51 (ix 0) r_1)))
    (fun E_1 τ_1 => if E_1 = "java/util/NoSuchElementException" then some (1, τ_1) else if E_1 = "java/lang/ArithmeticException" then some (2, τ_1) else none)
set_option maxRecDepth 100000 in
set_option maxHeartbeats 4000000 in
theorem c_L_support (l : Launch) (D : va_G) (ca : Nat → ClassId) (ad : Nat → Nat) (hl : l.stackTraces = false) (N : Nat) (a1 : Int32) (σ : St) (r : Int32) (τ : St) (hf : f_L_support N a1 σ = some (r, τ)) : cH l yL_support (.codeWith yL_support cL_support 4 (some .int) [(0, 9, 12, 21), (0, 9, 15, 50)]) (rmx 10 3) D ca ad SH [.ref (ad 0), .int a1, .ref (ad 51)] σ (some (.int r)) τ 3 := by
  refine cH.intro (own := RL) (lo := [some (.ref (ad 0)), some (.int a1), some (.ref (ad 51)), none]) (by decide) rfl (ccR (ccI (ccR cc0))) (Nat.le_of_ble_eq_true rfl) rfl ?_
  intro p e s m args below meth c A C hr hlk htab hXE hNC
  unfold f_L_support at hf
  refine s_aloadn (pc := 0) C dL_support_0 rfl ?_
  refine s_iconst (pc := 1) (v := 0) C dL_support_1 (by decide) ?_
  refine s_aloadn (pc := 2) C dL_support_2 rfl ?_
  refine s_iloadn (pc := 3) C dL_support_3 rfl ?_
  rcases bhId hf with ⟨r_1, τ_1, e_1, hf⟩ | ⟨E_1, τ_1, e_1, hf⟩
  · refine t_call (pc := 4) (rest := [.int 0, .ref (ad 51)]) C hXE rfl (c_X3_support l D ca ad hl N a1 σ _ e_1) kv_L_47 ⟨rfl, rfl⟩ (by decide) SH_0 ⟨_, rfl, rfl⟩ rfl rfl (Nat.le_of_ble_eq_true rfl) dL_support_4 ⟨by decide, by decide⟩ (fun ov τ h => ?_) (fun E τ h => nomatch (show (Sum.inl (some (Value.int r_1), τ_1) : RES) = .inr (E, τ) from h))
    cases (show (Sum.inl (some (Value.int r_1), τ_1) : RES) = .inl (ov, τ) from h)
    refine s_st (st' := [.int r_1, .int 0, .ref (ad 51)]) rfl ?_
    refine s_i2l (pc := 7) C dL_support_7 ?_
    refine s_last (pc := 8) C SH_51 (ty3 ca) (by decide) dL_support_8 ?_
    refine s_goto (pc := 9) (tgt := 18) C dL_support_9 (by decide) ?_
    refine s_iconst (pc := 18) (v := 0) C dL_support_18 (by decide) ?_
    exact h_iret (pc := 19) C hr hlk dL_support_19 ⟨by decide, by decide⟩ (congrArg (fun z => some (Value.int z)) (rt hf).1) (rt hf).2
  · by_cases h_1 : E_1 = "java/util/NoSuchElementException"
    · subst h_1
      replace hf := ifp rfl hf
      refine t_call (pc := 4) (rest := [.int 0, .ref (ad 51)]) C hXE rfl (c_X3_support l D ca ad hl N a1 σ _ e_1) kv_L_47 ⟨rfl, rfl⟩ (by decide) SH_0 ⟨_, rfl, rfl⟩ rfl rfl (Nat.le_of_ble_eq_true rfl) dL_support_4 ⟨by decide, by decide⟩ (fun ov τ h => nomatch (show (Sum.inr ("java/util/NoSuchElementException", τ_1) : RES) = .inl (ov, τ) from h)) (fun E τ h => ?_)
      cases (show (Sum.inr ("java/util/NoSuchElementException", τ_1) : RES) = .inr (E, τ) from h)
      refine h_catch (pc := 4) (E := "java/util/NoSuchElementException") (name := "java/util/NoSuchElementException") C hXE [] ⟨0, 9, 12, 21⟩ [⟨0, 9, 15, 50⟩] htab (fun z hz => nomatch hz) (by decide) (by decide) cl_L_21 nx_L_21 (fun q9 => ?_)
      refine s_astoren (pc := 12) (lo' := [some (.ref (ad 0)), some (.int a1), some (.ref (ad 51)), some (.ref q9)]) C dL_support_12 (Nat.le_of_ble_eq_true rfl) rfl ?_
      refine s_iconst (pc := 13) (v := 1) C dL_support_13 (by decide) ?_
      exact h_iret (pc := 14) C hr hlk dL_support_14 ⟨by decide, by decide⟩ (congrArg (fun z => some (Value.int z)) (rt hf).1) (rt hf).2
    · replace hf := ifn h_1 hf
      by_cases h_2 : E_1 = "java/lang/ArithmeticException"
      · subst h_2
        replace hf := ifp rfl hf
        refine t_call (pc := 4) (rest := [.int 0, .ref (ad 51)]) C hXE rfl (c_X3_support l D ca ad hl N a1 σ _ e_1) kv_L_47 ⟨rfl, rfl⟩ (by decide) SH_0 ⟨_, rfl, rfl⟩ rfl rfl (Nat.le_of_ble_eq_true rfl) dL_support_4 ⟨by decide, by decide⟩ (fun ov τ h => nomatch (show (Sum.inr ("java/lang/ArithmeticException", τ_1) : RES) = .inl (ov, τ) from h)) (fun E τ h => ?_)
        cases (show (Sum.inr ("java/lang/ArithmeticException", τ_1) : RES) = .inr (E, τ) from h)
        refine h_catch (pc := 4) (E := "java/lang/ArithmeticException") (name := "java/lang/ArithmeticException") C hXE [⟨0, 9, 12, 21⟩] ⟨0, 9, 15, 50⟩ [] htab (fun z hz => by rw [List.mem_singleton.mp hz]; exact ⟨by decide, "java/util/NoSuchElementException", cl_L_21, hNC ("java/lang/ArithmeticException", "java/util/NoSuchElementException") (by decide)⟩) (by decide) (by decide) cl_L_50 nx_L_50 (fun q9 => ?_)
        refine s_astoren (pc := 15) (lo' := [some (.ref (ad 0)), some (.int a1), some (.ref (ad 51)), some (.ref q9)]) C dL_support_15 (Nat.le_of_ble_eq_true rfl) rfl ?_
        refine s_iconst (pc := 16) (v := 2) C dL_support_16 (by decide) ?_
        exact h_iret (pc := 17) C hr hlk dL_support_17 ⟨by decide, by decide⟩ (congrArg (fun z => some (Value.int z)) (rt hf).1) (rt hf).2
      · replace hf := ifn h_2 hf
        cases hf
def f_L_bears (N : Nat) (a1 : Int32) (σ : St) : Option (Int32 × St) :=
  bhI (f_X3_bears N a1 σ) (fun r_1 τ_1 =>
    some (0, (su τ_1 51 (ix 0) r_1)))
    (fun E_1 τ_1 => if E_1 = "java/util/NoSuchElementException" then some (1, τ_1) else if E_1 = "java/lang/IllegalStateException" then some (2, τ_1) else none)
set_option maxRecDepth 100000 in
set_option maxHeartbeats 4000000 in
theorem c_L_bears (l : Launch) (D : va_G) (ca : Nat → ClassId) (ad : Nat → Nat) (hl : l.stackTraces = false) (N : Nat) (a1 : Int32) (σ : St) (r : Int32) (τ : St) (hf : f_L_bears N a1 σ = some (r, τ)) : cH l yL_bears (.codeWith yL_bears cL_bears 4 (some .int) [(0, 9, 12, 21), (0, 9, 15, 45)]) (rmx 10 2) D ca ad SH [.ref (ad 0), .int a1, .ref (ad 51)] σ (some (.int r)) τ 2 := by
  refine cH.intro (own := RL) (lo := [some (.ref (ad 0)), some (.int a1), some (.ref (ad 51)), none]) (by decide) rfl (ccR (ccI (ccR cc0))) (Nat.le_of_ble_eq_true rfl) rfl ?_
  intro p e s m args below meth c A C hr hlk htab hXE hNC
  unfold f_L_bears at hf
  refine s_aloadn (pc := 0) C dL_bears_0 rfl ?_
  refine s_iconst (pc := 1) (v := 0) C dL_bears_1 (by decide) ?_
  refine s_aloadn (pc := 2) C dL_bears_2 rfl ?_
  refine s_iloadn (pc := 3) C dL_bears_3 rfl ?_
  rcases bhId hf with ⟨r_1, τ_1, e_1, hf⟩ | ⟨E_1, τ_1, e_1, hf⟩
  · refine t_call (pc := 4) (rest := [.int 0, .ref (ad 51)]) C hXE rfl (c_X3_bears l D ca ad hl N a1 σ _ e_1) kv_L_52 ⟨rfl, rfl⟩ (by decide) SH_0 ⟨_, rfl, rfl⟩ rfl rfl (Nat.le_of_ble_eq_true rfl) dL_bears_4 ⟨by decide, by decide⟩ (fun ov τ h => ?_) (fun E τ h => nomatch (show (Sum.inl (some (Value.int r_1), τ_1) : RES) = .inr (E, τ) from h))
    cases (show (Sum.inl (some (Value.int r_1), τ_1) : RES) = .inl (ov, τ) from h)
    refine s_st (st' := [.int r_1, .int 0, .ref (ad 51)]) rfl ?_
    refine s_i2l (pc := 7) C dL_bears_7 ?_
    refine s_last (pc := 8) C SH_51 (ty3 ca) (by decide) dL_bears_8 ?_
    refine s_goto (pc := 9) (tgt := 18) C dL_bears_9 (by decide) ?_
    refine s_iconst (pc := 18) (v := 0) C dL_bears_18 (by decide) ?_
    exact h_iret (pc := 19) C hr hlk dL_bears_19 ⟨by decide, by decide⟩ (congrArg (fun z => some (Value.int z)) (rt hf).1) (rt hf).2
  · by_cases h_1 : E_1 = "java/util/NoSuchElementException"
    · subst h_1
      replace hf := ifp rfl hf
      refine t_call (pc := 4) (rest := [.int 0, .ref (ad 51)]) C hXE rfl (c_X3_bears l D ca ad hl N a1 σ _ e_1) kv_L_52 ⟨rfl, rfl⟩ (by decide) SH_0 ⟨_, rfl, rfl⟩ rfl rfl (Nat.le_of_ble_eq_true rfl) dL_bears_4 ⟨by decide, by decide⟩ (fun ov τ h => nomatch (show (Sum.inr ("java/util/NoSuchElementException", τ_1) : RES) = .inl (ov, τ) from h)) (fun E τ h => ?_)
      cases (show (Sum.inr ("java/util/NoSuchElementException", τ_1) : RES) = .inr (E, τ) from h)
      refine h_catch (pc := 4) (E := "java/util/NoSuchElementException") (name := "java/util/NoSuchElementException") C hXE [] ⟨0, 9, 12, 21⟩ [⟨0, 9, 15, 45⟩] htab (fun z hz => nomatch hz) (by decide) (by decide) cl_L_21 nx_L_21 (fun q9 => ?_)
      refine s_astoren (pc := 12) (lo' := [some (.ref (ad 0)), some (.int a1), some (.ref (ad 51)), some (.ref q9)]) C dL_bears_12 (Nat.le_of_ble_eq_true rfl) rfl ?_
      refine s_iconst (pc := 13) (v := 1) C dL_bears_13 (by decide) ?_
      exact h_iret (pc := 14) C hr hlk dL_bears_14 ⟨by decide, by decide⟩ (congrArg (fun z => some (Value.int z)) (rt hf).1) (rt hf).2
    · replace hf := ifn h_1 hf
      by_cases h_2 : E_1 = "java/lang/IllegalStateException"
      · subst h_2
        replace hf := ifp rfl hf
        refine t_call (pc := 4) (rest := [.int 0, .ref (ad 51)]) C hXE rfl (c_X3_bears l D ca ad hl N a1 σ _ e_1) kv_L_52 ⟨rfl, rfl⟩ (by decide) SH_0 ⟨_, rfl, rfl⟩ rfl rfl (Nat.le_of_ble_eq_true rfl) dL_bears_4 ⟨by decide, by decide⟩ (fun ov τ h => nomatch (show (Sum.inr ("java/lang/IllegalStateException", τ_1) : RES) = .inl (ov, τ) from h)) (fun E τ h => ?_)
        cases (show (Sum.inr ("java/lang/IllegalStateException", τ_1) : RES) = .inr (E, τ) from h)
        refine h_catch (pc := 4) (E := "java/lang/IllegalStateException") (name := "java/lang/IllegalStateException") C hXE [⟨0, 9, 12, 21⟩] ⟨0, 9, 15, 45⟩ [] htab (fun z hz => by rw [List.mem_singleton.mp hz]; exact ⟨by decide, "java/util/NoSuchElementException", cl_L_21, hNC ("java/lang/IllegalStateException", "java/util/NoSuchElementException") (by decide)⟩) (by decide) (by decide) cl_L_45 nx_L_45 (fun q9 => ?_)
        refine s_astoren (pc := 15) (lo' := [some (.ref (ad 0)), some (.int a1), some (.ref (ad 51)), some (.ref q9)]) C dL_bears_15 (Nat.le_of_ble_eq_true rfl) rfl ?_
        refine s_iconst (pc := 16) (v := 2) C dL_bears_16 (by decide) ?_
        exact h_iret (pc := 17) C hr hlk dL_bears_17 ⟨by decide, by decide⟩ (congrArg (fun z => some (Value.int z)) (rt hf).1) (rt hf).2
      · replace hf := ifn h_2 hf
        cases hf
def f_L_cell_ (N : Nat) (a1 : Int32) (a2 : Int32) (a3 : Int32) (σ : St) : Option (Int32 × St) :=
  bhI (f_X3_cell N a1 a2 a3 σ) (fun r_1 τ_1 =>
    some (0, (su τ_1 51 (ix 0) r_1)))
    (fun E_1 τ_1 => if E_1 = "java/lang/ArrayIndexOutOfBoundsException" then some (1, τ_1) else none)
set_option maxRecDepth 100000 in
set_option maxHeartbeats 4000000 in
theorem c_L_cell_ (l : Launch) (D : va_G) (ca : Nat → ClassId) (ad : Nat → Nat) (hl : l.stackTraces = false) (N : Nat) (a1 : Int32) (a2 : Int32) (a3 : Int32) (σ : St) (r : Int32) (τ : St) (hf : f_L_cell_ N a1 a2 a3 σ = some (r, τ)) : cH l yL_cell_ (.codeWith yL_cell_ cL_cell_ 6 (some .int) [(0, 12, 15, 59)]) (rmx 9 1) D ca ad SH [.ref (ad 0), .int a1, .int a2, .int a3, .ref (ad 51)] σ (some (.int r)) τ 1 := by
  refine cH.intro (own := RL) (lo := [some (.ref (ad 0)), some (.int a1), some (.int a2), some (.int a3), some (.ref (ad 51)), none]) (by decide) rfl (ccR (ccI (ccI (ccI (ccR cc0))))) (Nat.le_of_ble_eq_true rfl) rfl ?_
  intro p e s m args below meth c A C hr hlk htab hXE hNC
  unfold f_L_cell_ at hf
  refine s_aload (pc := 0) C dL_cell__0 rfl ?_
  refine s_iconst (pc := 2) (v := 0) C dL_cell__2 (by decide) ?_
  refine s_aloadn (pc := 3) C dL_cell__3 rfl ?_
  refine s_iloadn (pc := 4) C dL_cell__4 rfl ?_
  refine s_iloadn (pc := 5) C dL_cell__5 rfl ?_
  refine s_iloadn (pc := 6) C dL_cell__6 rfl ?_
  rcases bhId hf with ⟨r_1, τ_1, e_1, hf⟩ | ⟨E_1, τ_1, e_1, hf⟩
  · refine t_call (pc := 7) (rest := [.int 0, .ref (ad 51)]) C hXE rfl (c_X3_cell l D ca ad hl N a1 a2 a3 σ _ e_1) kv_L_55 ⟨rfl, rfl⟩ (by decide) SH_0 ⟨_, rfl, rfl⟩ rfl rfl (Nat.le_of_ble_eq_true rfl) dL_cell__7 ⟨by decide, by decide⟩ (fun ov τ h => ?_) (fun E τ h => nomatch (show (Sum.inl (some (Value.int r_1), τ_1) : RES) = .inr (E, τ) from h))
    cases (show (Sum.inl (some (Value.int r_1), τ_1) : RES) = .inl (ov, τ) from h)
    refine s_st (st' := [.int r_1, .int 0, .ref (ad 51)]) rfl ?_
    refine s_i2l (pc := 10) C dL_cell__10 ?_
    refine s_last (pc := 11) C SH_51 (ty3 ca) (by decide) dL_cell__11 ?_
    refine s_goto (pc := 12) (tgt := 19) C dL_cell__12 (by decide) ?_
    refine s_iconst (pc := 19) (v := 0) C dL_cell__19 (by decide) ?_
    exact h_iret (pc := 20) C hr hlk dL_cell__20 ⟨by decide, by decide⟩ (congrArg (fun z => some (Value.int z)) (rt hf).1) (rt hf).2
  · by_cases h_1 : E_1 = "java/lang/ArrayIndexOutOfBoundsException"
    · subst h_1
      replace hf := ifp rfl hf
      refine t_call (pc := 7) (rest := [.int 0, .ref (ad 51)]) C hXE rfl (c_X3_cell l D ca ad hl N a1 a2 a3 σ _ e_1) kv_L_55 ⟨rfl, rfl⟩ (by decide) SH_0 ⟨_, rfl, rfl⟩ rfl rfl (Nat.le_of_ble_eq_true rfl) dL_cell__7 ⟨by decide, by decide⟩ (fun ov τ h => nomatch (show (Sum.inr ("java/lang/ArrayIndexOutOfBoundsException", τ_1) : RES) = .inl (ov, τ) from h)) (fun E τ h => ?_)
      cases (show (Sum.inr ("java/lang/ArrayIndexOutOfBoundsException", τ_1) : RES) = .inr (E, τ) from h)
      refine h_catch (pc := 7) (E := "java/lang/ArrayIndexOutOfBoundsException") (name := "java/lang/ArrayIndexOutOfBoundsException") C hXE [] ⟨0, 12, 15, 59⟩ [] htab (fun z hz => nomatch hz) (by decide) (by decide) cl_L_59 nx_L_59 (fun q9 => ?_)
      refine s_astore (pc := 15) (lo' := [some (.ref (ad 0)), some (.int a1), some (.int a2), some (.int a3), some (.ref (ad 51)), some (.ref q9)]) C dL_cell__15 (Nat.le_of_ble_eq_true rfl) rfl ?_
      refine s_iconst (pc := 17) (v := 1) C dL_cell__17 (by decide) ?_
      exact h_iret (pc := 18) C hr hlk dL_cell__18 ⟨by decide, by decide⟩ (congrArg (fun z => some (Value.int z)) (rt hf).1) (rt hf).2
    · replace hf := ifn h_1 hf
      cases hf
def f_L_close (N : Nat)  (σ : St) : Option (Int32 × St) :=
  bhI (f_X3_close N σ) (fun r_1 τ_1 =>
    some (0, (su τ_1 51 (ix 0) r_1)))
    (fun E_1 τ_1 => if E_1 = "java/lang/IllegalStateException" then some (1, τ_1) else none)
set_option maxRecDepth 100000 in
set_option maxHeartbeats 4000000 in
theorem c_L_close (l : Launch) (D : va_G) (ca : Nat → ClassId) (ad : Nat → Nat) (hl : l.stackTraces = false) (N : Nat)  (σ : St) (r : Int32) (τ : St) (hf : f_L_close N  σ = some (r, τ)) : cH l yL_close (.codeWith yL_close cL_close 3 (some .int) [(0, 8, 11, 45)]) (rmx 9 1) D ca ad SH [.ref (ad 0), .ref (ad 51)] σ (some (.int r)) τ 1 := by
  refine cH.intro (own := RL) (lo := [some (.ref (ad 0)), some (.ref (ad 51)), none]) (by decide) rfl (ccR (ccR cc0)) (Nat.le_of_ble_eq_true rfl) rfl ?_
  intro p e s m args below meth c A C hr hlk htab hXE hNC
  unfold f_L_close at hf
  refine s_aloadn (pc := 0) C dL_close_0 rfl ?_
  refine s_iconst (pc := 1) (v := 0) C dL_close_1 (by decide) ?_
  refine s_aloadn (pc := 2) C dL_close_2 rfl ?_
  rcases bhId hf with ⟨r_1, τ_1, e_1, hf⟩ | ⟨E_1, τ_1, e_1, hf⟩
  · refine t_call (pc := 3) (rest := [.int 0, .ref (ad 51)]) C hXE rfl (c_X3_close l D ca ad hl N  σ _ e_1) kv_L_61 ⟨rfl, rfl⟩ (by decide) SH_0 ⟨_, rfl, rfl⟩ rfl rfl (Nat.le_of_ble_eq_true rfl) dL_close_3 ⟨by decide, by decide⟩ (fun ov τ h => ?_) (fun E τ h => nomatch (show (Sum.inl (some (Value.int r_1), τ_1) : RES) = .inr (E, τ) from h))
    cases (show (Sum.inl (some (Value.int r_1), τ_1) : RES) = .inl (ov, τ) from h)
    refine s_st (st' := [.int r_1, .int 0, .ref (ad 51)]) rfl ?_
    refine s_i2l (pc := 6) C dL_close_6 ?_
    refine s_last (pc := 7) C SH_51 (ty3 ca) (by decide) dL_close_7 ?_
    refine s_goto (pc := 8) (tgt := 14) C dL_close_8 (by decide) ?_
    refine s_iconst (pc := 14) (v := 0) C dL_close_14 (by decide) ?_
    exact h_iret (pc := 15) C hr hlk dL_close_15 ⟨by decide, by decide⟩ (congrArg (fun z => some (Value.int z)) (rt hf).1) (rt hf).2
  · by_cases h_1 : E_1 = "java/lang/IllegalStateException"
    · subst h_1
      replace hf := ifp rfl hf
      refine t_call (pc := 3) (rest := [.int 0, .ref (ad 51)]) C hXE rfl (c_X3_close l D ca ad hl N  σ _ e_1) kv_L_61 ⟨rfl, rfl⟩ (by decide) SH_0 ⟨_, rfl, rfl⟩ rfl rfl (Nat.le_of_ble_eq_true rfl) dL_close_3 ⟨by decide, by decide⟩ (fun ov τ h => nomatch (show (Sum.inr ("java/lang/IllegalStateException", τ_1) : RES) = .inl (ov, τ) from h)) (fun E τ h => ?_)
      cases (show (Sum.inr ("java/lang/IllegalStateException", τ_1) : RES) = .inr (E, τ) from h)
      refine h_catch (pc := 3) (E := "java/lang/IllegalStateException") (name := "java/lang/IllegalStateException") C hXE [] ⟨0, 8, 11, 45⟩ [] htab (fun z hz => nomatch hz) (by decide) (by decide) cl_L_45 nx_L_45 (fun q9 => ?_)
      refine s_astoren (pc := 11) (lo' := [some (.ref (ad 0)), some (.ref (ad 51)), some (.ref q9)]) C dL_close_11 (Nat.le_of_ble_eq_true rfl) rfl ?_
      refine s_iconst (pc := 12) (v := 1) C dL_close_12 (by decide) ?_
      exact h_iret (pc := 13) C hr hlk dL_close_13 ⟨by decide, by decide⟩ (congrArg (fun z => some (Value.int z)) (rt hf).1) (rt hf).2
    · replace hf := ifn h_1 hf
      cases hf
def f_L_box (N : Nat) (a1 : Int32) (σ : St) : Option (Int32 × St) :=
  bhI (f_X3_box N a1 σ) (fun r_1 τ_1 =>
    some (0, (su τ_1 51 (ix 0) r_1)))
    (fun E_1 τ_1 => if E_1 = "java/util/NoSuchElementException" then some (1, τ_1) else none)
set_option maxRecDepth 100000 in
set_option maxHeartbeats 4000000 in
theorem c_L_box (l : Launch) (D : va_G) (ca : Nat → ClassId) (ad : Nat → Nat) (hl : l.stackTraces = false) (N : Nat) (a1 : Int32) (σ : St) (r : Int32) (τ : St) (hf : f_L_box N a1 σ = some (r, τ)) : cH l yL_box (.codeWith yL_box cL_box 4 (some .int) [(0, 9, 12, 21)]) (rmx 10 1) D ca ad SH [.ref (ad 0), .int a1, .ref (ad 51)] σ (some (.int r)) τ 1 := by
  refine cH.intro (own := RL) (lo := [some (.ref (ad 0)), some (.int a1), some (.ref (ad 51)), none]) (by decide) rfl (ccR (ccI (ccR cc0))) (Nat.le_of_ble_eq_true rfl) rfl ?_
  intro p e s m args below meth c A C hr hlk htab hXE hNC
  unfold f_L_box at hf
  refine s_aloadn (pc := 0) C dL_box_0 rfl ?_
  refine s_iconst (pc := 1) (v := 0) C dL_box_1 (by decide) ?_
  refine s_aloadn (pc := 2) C dL_box_2 rfl ?_
  refine s_iloadn (pc := 3) C dL_box_3 rfl ?_
  rcases bhId hf with ⟨r_1, τ_1, e_1, hf⟩ | ⟨E_1, τ_1, e_1, hf⟩
  · refine t_call (pc := 4) (rest := [.int 0, .ref (ad 51)]) C hXE rfl (c_X3_box l D ca ad hl N a1 σ _ e_1) kv_L_65 ⟨rfl, rfl⟩ (by decide) SH_0 ⟨_, rfl, rfl⟩ rfl rfl (Nat.le_of_ble_eq_true rfl) dL_box_4 ⟨by decide, by decide⟩ (fun ov τ h => ?_) (fun E τ h => nomatch (show (Sum.inl (some (Value.int r_1), τ_1) : RES) = .inr (E, τ) from h))
    cases (show (Sum.inl (some (Value.int r_1), τ_1) : RES) = .inl (ov, τ) from h)
    refine s_st (st' := [.int r_1, .int 0, .ref (ad 51)]) rfl ?_
    refine s_i2l (pc := 7) C dL_box_7 ?_
    refine s_last (pc := 8) C SH_51 (ty3 ca) (by decide) dL_box_8 ?_
    refine s_goto (pc := 9) (tgt := 15) C dL_box_9 (by decide) ?_
    refine s_iconst (pc := 15) (v := 0) C dL_box_15 (by decide) ?_
    exact h_iret (pc := 16) C hr hlk dL_box_16 ⟨by decide, by decide⟩ (congrArg (fun z => some (Value.int z)) (rt hf).1) (rt hf).2
  · by_cases h_1 : E_1 = "java/util/NoSuchElementException"
    · subst h_1
      replace hf := ifp rfl hf
      refine t_call (pc := 4) (rest := [.int 0, .ref (ad 51)]) C hXE rfl (c_X3_box l D ca ad hl N a1 σ _ e_1) kv_L_65 ⟨rfl, rfl⟩ (by decide) SH_0 ⟨_, rfl, rfl⟩ rfl rfl (Nat.le_of_ble_eq_true rfl) dL_box_4 ⟨by decide, by decide⟩ (fun ov τ h => nomatch (show (Sum.inr ("java/util/NoSuchElementException", τ_1) : RES) = .inl (ov, τ) from h)) (fun E τ h => ?_)
      cases (show (Sum.inr ("java/util/NoSuchElementException", τ_1) : RES) = .inr (E, τ) from h)
      refine h_catch (pc := 4) (E := "java/util/NoSuchElementException") (name := "java/util/NoSuchElementException") C hXE [] ⟨0, 9, 12, 21⟩ [] htab (fun z hz => nomatch hz) (by decide) (by decide) cl_L_21 nx_L_21 (fun q9 => ?_)
      refine s_astoren (pc := 12) (lo' := [some (.ref (ad 0)), some (.int a1), some (.ref (ad 51)), some (.ref q9)]) C dL_box_12 (Nat.le_of_ble_eq_true rfl) rfl ?_
      refine s_iconst (pc := 13) (v := 1) C dL_box_13 (by decide) ?_
      exact h_iret (pc := 14) C hr hlk dL_box_14 ⟨by decide, by decide⟩ (congrArg (fun z => some (Value.int z)) (rt hf).1) (rt hf).2
    · replace hf := ifn h_1 hf
      cases hf
theorem kh_L_79 : KH RL 79 yL_piece cL_piece 7 (some .int) [(0, 14, 17, 13), (0, 14, 21, 15)] 6 := ⟨all4 (ws_mem 307 (by decide +kernel) rfl) (ws_mem 308 (by decide +kernel) rfl) (ws_mem 33 (by decide +kernel) rfl) (ws_mem 309 (by decide +kernel) rfl), by decide +kernel⟩
theorem kh_L_86 : KH RL 86 yL_turn cL_turn 5 (some .int) [(0, 10, 13, 21), (0, 10, 17, 13)] 4 := ⟨all4 (ws_mem 411 (by decide +kernel) rfl) (ws_mem 412 (by decide +kernel) rfl) (ws_mem 33 (by decide +kernel) rfl) (ws_mem 413 (by decide +kernel) rfl), by decide +kernel⟩
theorem kh_L_90 : KH RL 90 yL_limit cL_limit 4 (some .int) [(0, 6, 9, 21), (0, 6, 12, 13)] 3 := ⟨all4 (ws_mem 465 (by decide +kernel) rfl) (ws_mem 466 (by decide +kernel) rfl) (ws_mem 33 (by decide +kernel) rfl) (ws_mem 467 (by decide +kernel) rfl), by decide +kernel⟩
theorem kh_L_94 : KH RL 94 yL_rank cL_rank 5 (some .int) [(0, 10, 13, 21), (0, 10, 17, 13)] 4 := ⟨all4 (ws_mem 473 (by decide +kernel) rfl) (ws_mem 474 (by decide +kernel) rfl) (ws_mem 33 (by decide +kernel) rfl) (ws_mem 475 (by decide +kernel) rfl), by decide +kernel⟩
theorem kh_L_97 : KH RL 97 yL_share cL_share 3 (some .int) [(0, 5, 8, 13)] 2 := ⟨all4 (ws_mem 485 (by decide +kernel) rfl) (ws_mem 486 (by decide +kernel) rfl) (ws_mem 33 (by decide +kernel) rfl) (ws_mem 487 (by decide +kernel) rfl), by decide +kernel⟩
theorem kh_L_101 : KH RL 101 yL_solve cL_solve 4 (some .int) [(0, 9, 12, 13)] 3 := ⟨all4 (ws_mem 493 (by decide +kernel) rfl) (ws_mem 494 (by decide +kernel) rfl) (ws_mem 33 (by decide +kernel) rfl) (ws_mem 495 (by decide +kernel) rfl), by decide +kernel⟩
theorem kh_L_118 : KH RL 118 yL_at cL_at 5 (some .int) [(0, 10, 13, 21), (0, 10, 17, 13)] 4 := ⟨all4 (ws_mem 595 (by decide +kernel) rfl) (ws_mem 596 (by decide +kernel) rfl) (ws_mem 33 (by decide +kernel) rfl) (ws_mem 597 (by decide +kernel) rfl), by decide +kernel⟩
theorem kh_L_121 : KH RL 121 yL_over cL_over 5 (some .int) [(0, 17, 20, 21), (0, 17, 24, 45)] 4 := ⟨all4 (ws_mem 611 (by decide +kernel) rfl) (ws_mem 612 (by decide +kernel) rfl) (ws_mem 33 (by decide +kernel) rfl) (ws_mem 613 (by decide +kernel) rfl), by decide +kernel⟩
theorem kh_L_124 : KH RL 124 yL_support cL_support 4 (some .int) [(0, 9, 12, 21), (0, 9, 15, 50)] 3 := ⟨all4 (ws_mem 636 (by decide +kernel) rfl) (ws_mem 637 (by decide +kernel) rfl) (ws_mem 33 (by decide +kernel) rfl) (ws_mem 638 (by decide +kernel) rfl), by decide +kernel⟩
theorem kh_L_127 : KH RL 127 yL_bears cL_bears 4 (some .int) [(0, 9, 12, 21), (0, 9, 15, 45)] 3 := ⟨all4 (ws_mem 662 (by decide +kernel) rfl) (ws_mem 663 (by decide +kernel) rfl) (ws_mem 33 (by decide +kernel) rfl) (ws_mem 664 (by decide +kernel) rfl), by decide +kernel⟩
theorem kh_L_130 : KH RL 130 yL_cell_ cL_cell_ 6 (some .int) [(0, 12, 15, 59)] 5 := ⟨all4 (ws_mem 671 (by decide +kernel) rfl) (ws_mem 672 (by decide +kernel) rfl) (ws_mem 33 (by decide +kernel) rfl) (ws_mem 673 (by decide +kernel) rfl), by decide +kernel⟩
theorem kh_L_134 : KH RL 134 yL_close cL_close 3 (some .int) [(0, 8, 11, 45)] 2 := ⟨all4 (ws_mem 712 (by decide +kernel) rfl) (ws_mem 713 (by decide +kernel) rfl) (ws_mem 33 (by decide +kernel) rfl) (ws_mem 714 (by decide +kernel) rfl), by decide +kernel⟩
theorem kh_L_138 : KH RL 138 yL_box cL_box 4 (some .int) [(0, 9, 12, 21)] 3 := ⟨all4 (ws_mem 720 (by decide +kernel) rfl) (ws_mem 721 (by decide +kernel) rfl) (ws_mem 33 (by decide +kernel) rfl) (ws_mem 722 (by decide +kernel) rfl), by decide +kernel⟩
