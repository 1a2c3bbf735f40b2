def f_X2_stand (N : Nat) (q0 : Nat) (q1 : Nat) (a2 : Int32) (a3 : Int32) (a4 : Int32) (a5 : Int32) (σ : St) : Option (St) :=
  bn (f_X0_widthIn N q1 a2 (su (su (su (su σ q0 0 1) q0 1 a3) q0 2 a4) q0 3 a5)) fun r_1 τ_1 =>
  bn (f_X0_depthIn N q1 a2 (su τ_1 q0 4 r_1)) fun r_2 τ_2 =>
  bn (f_X0_heightIn N q1 a2 (su τ_2 q0 5 r_2)) fun r_3 τ_3 =>
  some (su (su (su (su τ_3 q0 6 r_3) q0 7 a2) q0 8 ((su (su τ_3 q0 6 r_3) q0 7 a2) q1 3)) q0 9 ((su (su (su τ_3 q0 6 r_3) q0 7 a2) q0 8 ((su (su τ_3 q0 6 r_3) q0 7 a2) q1 3)) q1 5))
set_option maxRecDepth 100000 in
set_option maxHeartbeats 4000000 in
theorem c_X2_stand (l : Launch) (D : va_G) (ca : Nat → ClassId) (ad : Nat → Nat) (N : Nat) (q0 : Nat) (hq0 : SH[q0]? = some oSpot) (q1 : Nat) (hq1 : SH[q1]? = some oPiece) (a2 : Int32) (a3 : Int32) (a4 : Int32) (a5 : Int32) (σ : St) (τ : St) (hf : f_X2_stand N q0 q1 a2 a3 a4 a5 σ = some τ) : cM l yX2_stand (.code yX2_stand cX2_stand 6 none) (rmk 1) D ca ad SH [.ref (ad q0), .ref (ad q1), .int a2, .int a3, .int a4, .int a5] σ none τ := by
  refine cM.intro2 (own := RX2) (lo := [some (.ref (ad q0)), some (.ref (ad q1)), some (.int a2), some (.int a3), some (.int a4), some (.int a5)]) (by decide) rfl (ccR (ccR (ccI (ccI (ccI (ccI cc0)))))) (Nat.le_of_ble_eq_true rfl) rfl ?_
  intro p e s m args below meth c A C hr hlk
  unfold f_X2_stand at hf
  refine s_aloadn (pc := 0) C dX2_stand_0 rfl ?_
  refine s_iconst (pc := 1) (v := 1) C dX2_stand_1 (by decide) ?_
  refine s_putZ (pc := 2) C fp_X2_9 hq0 rfl (by decide) dX2_stand_2 ?_
  refine s_aloadn (pc := 5) C dX2_stand_5 rfl ?_
  refine s_iloadn (pc := 6) C dX2_stand_6 rfl ?_
  refine s_putI (pc := 7) C fp_X2_15 hq0 rfl dX2_stand_7 ?_
  refine s_aloadn (pc := 10) C dX2_stand_10 rfl ?_
  refine s_iload (pc := 11) C dX2_stand_11 rfl ?_
  refine s_putI (pc := 13) C fp_X2_19 hq0 rfl dX2_stand_13 ?_
  refine s_aloadn (pc := 16) C dX2_stand_16 rfl ?_
  refine s_iload (pc := 17) C dX2_stand_17 rfl ?_
  refine s_putI (pc := 19) C fp_X2_22 hq0 rfl dX2_stand_19 ?_
  refine s_aloadn (pc := 22) C dX2_stand_22 rfl ?_
  refine s_aloadn (pc := 23) C dX2_stand_23 rfl ?_
  refine s_iloadn (pc := 24) C dX2_stand_24 rfl ?_
  obtain ⟨r_1, τ_1, e_1, hf⟩ := bnd hf
  refine s_callV (pc := 25) (rest := [.ref (ad q0)]) C rfl (c_X0_widthIn l D ca ad N q1 hq1 a2 (su (su (su (su σ q0 0 1) q0 1 a3) q0 2 a4) q0 3 a5) r_1 τ_1 e_1) kv_X2_25 ⟨rfl, rfl⟩ (by decide) hq1 ⟨_, rfl, rfl⟩ rfl rfl (Nat.le_of_ble_eq_true rfl) dX2_stand_25 ⟨Nat.zero_le _, Nat.zero_le _⟩ ?_
  refine s_st (st' := [.int r_1, .ref (ad q0)]) rfl ?_
  refine s_putI (pc := 28) C fp_X2_31 hq0 rfl dX2_stand_28 ?_
  refine s_aloadn (pc := 31) C dX2_stand_31 rfl ?_
  refine s_aloadn (pc := 32) C dX2_stand_32 rfl ?_
  refine s_iloadn (pc := 33) C dX2_stand_33 rfl ?_
  obtain ⟨r_2, τ_2, e_2, hf⟩ := bnd hf
  refine s_callV (pc := 34) (rest := [.ref (ad q0)]) C rfl (c_X0_depthIn l D ca ad N q1 hq1 a2 (su τ_1 q0 4 r_1) r_2 τ_2 e_2) kv_X2_34 ⟨rfl, rfl⟩ (by decide) hq1 ⟨_, rfl, rfl⟩ rfl rfl (Nat.le_of_ble_eq_true rfl) dX2_stand_34 ⟨Nat.zero_le _, Nat.zero_le _⟩ ?_
  refine s_st (st' := [.int r_2, .ref (ad q0)]) rfl ?_
  refine s_putI (pc := 37) C fp_X2_37 hq0 rfl dX2_stand_37 ?_
  refine s_aloadn (pc := 40) C dX2_stand_40 rfl ?_
  refine s_aloadn (pc := 41) C dX2_stand_41 rfl ?_
  refine s_iloadn (pc := 42) C dX2_stand_42 rfl ?_
  obtain ⟨r_3, τ_3, e_3, hf⟩ := bnd hf
  refine s_callV (pc := 43) (rest := [.ref (ad q0)]) C rfl (c_X0_heightIn l D ca ad N q1 hq1 a2 (su τ_2 q0 5 r_2) r_3 τ_3 e_3) kv_X2_40 ⟨rfl, rfl⟩ (by decide) hq1 ⟨_, rfl, rfl⟩ rfl rfl (Nat.le_of_ble_eq_true rfl) dX2_stand_43 ⟨Nat.zero_le _, Nat.zero_le _⟩ ?_
  refine s_st (st' := [.int r_3, .ref (ad q0)]) rfl ?_
  refine s_putI (pc := 46) C fp_X2_43 hq0 rfl dX2_stand_46 ?_
  refine s_aloadn (pc := 49) C dX2_stand_49 rfl ?_
  refine s_iloadn (pc := 50) C dX2_stand_50 rfl ?_
  refine s_putI (pc := 51) C fp_X2_46 hq0 rfl dX2_stand_51 ?_
  refine s_aloadn (pc := 54) C dX2_stand_54 rfl ?_
  refine s_aloadn (pc := 55) C dX2_stand_55 rfl ?_
  refine s_getI (pc := 56) C fl_X2_49 hq1 rfl dX2_stand_56 ?_
  refine s_putI (pc := 59) C fp_X2_52 hq0 rfl dX2_stand_59 ?_
  refine s_aloadn (pc := 62) C dX2_stand_62 rfl ?_
  refine s_aloadn (pc := 63) C dX2_stand_63 rfl ?_
  refine s_getI (pc := 64) C fl_X2_53 hq1 rfl dX2_stand_64 ?_
  refine s_putI (pc := 67) C fp_X2_56 hq0 rfl dX2_stand_67 ?_
  exact s_vret (pc := 70) C hr hlk dX2_stand_70 rfl (rtv hf)
def f_X2_leave (N : Nat) (q0 : Nat) (σ : St) : Option (St) :=
  some (su σ q0 0 0)
set_option maxRecDepth 100000 in
set_option maxHeartbeats 4000000 in
theorem c_X2_leave (l : Launch) (D : va_G) (ca : Nat → ClassId) (ad : Nat → Nat) (N : Nat) (q0 : Nat) (hq0 : SH[q0]? = some oSpot) (σ : St) (τ : St) (hf : f_X2_leave N q0 σ = some τ) : cM l yX2_leave (.code yX2_leave cX2_leave 1 none) (rmk 0) D ca ad SH [.ref (ad q0)] σ none τ := by
  refine cM.intro2 (own := RX2) (lo := [some (.ref (ad q0))]) (by decide) rfl (ccR cc0) (Nat.le_of_ble_eq_true rfl) rfl ?_
  intro p e s m args below meth c A C hr hlk
  unfold f_X2_leave at hf
  refine s_aloadn (pc := 0) C dX2_leave_0 rfl ?_
  refine s_iconst (pc := 1) (v := 0) C dX2_leave_1 (by decide) ?_
  refine s_putZ (pc := 2) C fp_X2_9 hq0 rfl (by decide) dX2_leave_2 ?_
  exact s_vret (pc := 5) C hr hlk dX2_leave_5 rfl (rtv hf)
def f_X2_copyFrom (N : Nat) (q0 : Nat) (q1 : Nat) (σ : St) : Option (St) :=
  if (σ q1 0 &&& 1) = 0 ∨ (σ q1 0 &&& 1) = 1 then
  some (su (su (su (su (su (su (su (su (su (su σ q0 0 (σ q1 0 &&& 1)) q0 1 ((su σ q0 0 (σ q1 0 &&& 1)) q1 1)) q0 2 ((su (su σ q0 0 (σ q1 0 &&& 1)) q0 1 ((su σ q0 0 (σ q1 0 &&& 1)) q1 1)) q1 2)) q0 3 ((su (su (su σ q0 0 (σ q1 0 &&& 1)) q0 1 ((su σ q0 0 (σ q1 0 &&& 1)) q1 1)) q0 2 ((su (su σ q0 0 (σ q1 0 &&& 1)) q0 1 ((su σ q0 0 (σ q1 0 &&& 1)) q1 1)) q1 2)) q1 3)) q0 4 ((su (su (su (su σ q0 0 (σ q1 0 &&& 1)) q0 1 ((su σ q0 0 (σ q1 0 &&& 1)) q1 1)) q0 2 ((su (su σ q0 0 (σ q1 0 &&& 1)) q0 1 ((su σ q0 0 (σ q1 0 &&& 1)) q1 1)) q1 2)) q0 3 ((su (su (su σ q0 0 (σ q1 0 &&& 1)) q0 1 ((su σ q0 0 (σ q1 0 &&& 1)) q1 1)) q0 2 ((su (su σ q0 0 (σ q1 0 &&& 1)) q0 1 ((su σ q0 0 (σ q1 0 &&& 1)) q1 1)) q1 2)) q1 3)) q1 4)) q0 5 ((su (su (su (su (su σ q0 0 (σ q1 0 &&& 1)) q0 1 ((su σ q0 0 (σ q1 0 &&& 1)) q1 1)) q0 2 ((su (su σ q0 0 (σ q1 0 &&& 1)) q0 1 ((su σ q0 0 (σ q1 0 &&& 1)) q1 1)) q1 2)) q0 3 ((su (su (su σ q0 0 (σ q1 0 &&& 1)) q0 1 ((su σ q0 0 (σ q1 0 &&& 1)) q1 1)) q0 2 ((su (su σ q0 0 (σ q1 0 &&& 1)) q0 1 ((su σ q0 0 (σ q1 0 &&& 1)) q1 1)) q1 2)) q1 3)) q0 4 ((su (su (su (su σ q0 0 (σ q1 0 &&& 1)) q0 1 ((su σ q0 0 (σ q1 0 &&& 1)) q1 1)) q0 2 ((su (su σ q0 0 (σ q1 0 &&& 1)) q0 1 ((su σ q0 0 (σ q1 0 &&& 1)) q1 1)) q1 2)) q0 3 ((su (su (su σ q0 0 (σ q1 0 &&& 1)) q0 1 ((su σ q0 0 (σ q1 0 &&& 1)) q1 1)) q0 2 ((su (su σ q0 0 (σ q1 0 &&& 1)) q0 1 ((su σ q0 0 (σ q1 0 &&& 1)) q1 1)) q1 2)) q1 3)) q1 4)) q1 5)) q0 6 ((su (su (su (su (su (su σ q0 0 (σ q1 0 &&& 1)) q0 1 ((su σ q0 0 (σ q1 0 &&& 1)) q1 1)) q0 2 ((su (su σ q0 0 (σ q1 0 &&& 1)) q0 1 ((su σ q0 0 (σ q1 0 &&& 1)) q1 1)) q1 2)) q0 3 ((su (su (su σ q0 0 (σ q1 0 &&& 1)) q0 1 ((su σ q0 0 (σ q1 0 &&& 1)) q1 1)) q0 2 ((su (su σ q0 0 (σ q1 0 &&& 1)) q0 1 ((su σ q0 0 (σ q1 0 &&& 1)) q1 1)) q1 2)) q1 3)) q0 4 ((su (su (su (su σ q0 0 (σ q1 0 &&& 1)) q0 1 ((su σ q0 0 (σ q1 0 &&& 1)) q1 1)) q0 2 ((su (su σ q0 0 (σ q1 0 &&& 1)) q0 1 ((su σ q0 0 (σ q1 0 &&& 1)) q1 1)) q1 2)) q0 3 ((su (su (su σ q0 0 (σ q1 0 &&& 1)) q0 1 ((su σ q0 0 (σ q1 0 &&& 1)) q1 1)) q0 2 ((su (su σ q0 0 (σ q1 0 &&& 1)) q0 1 ((su σ q0 0 (σ q1 0 &&& 1)) q1 1)) q1 2)) q1 3)) q1 4)) q0 5 ((su (su (su (su (su σ q0 0 (σ q1 0 &&& 1)) q0 1 ((su σ q0 0 (σ q1 0 &&& 1)) q1 1)) q0 2 ((su (su σ q0 0 (σ q1 0 &&& 1)) q0 1 ((su σ q0 0 (σ q1 0 &&& 1)) q1 1)) q1 2)) q0 3 ((su (su (su σ q0 0 (σ q1 0 &&& 1)) q0 1 ((su σ q0 0 (σ q1 0 &&& 1)) q1 1)) q0 2 ((su (su σ q0 0 (σ q1 0 &&& 1)) q0 1 ((su σ q0 0 (σ q1 0 &&& 1)) q1 1)) q1 2)) q1 3)) q0 4 ((su (su (su (su σ q0 0 (σ q1 0 &&& 1)) q0 1 ((su σ q0 0 (σ q1 0 &&& 1)) q1 1)) q0 2 ((su (su σ q0 0 (σ q1 0 &&& 1)) q0 1 ((su σ q0 0 (σ q1 0 &&& 1)) q1 1)) q1 2)) q0 3 ((su (su (su σ q0 0 (σ q1 0 &&& 1)) q0 1 ((su σ q0 0 (σ q1 0 &&& 1)) q1 1)) q0 2 ((su (su σ q0 0 (σ q1 0 &&& 1)) q0 1 ((su σ q0 0 (σ q1 0 &&& 1)) q1 1)) q1 2)) q1 3)) q1 4)) q1 5)) q1 6)) q0 7 ((su (su (su (su (su (su (su σ q0 0 (σ q1 0 &&& 1)) q0 1 ((su σ q0 0 (σ q1 0 &&& 1)) q1 1)) q0 2 ((su (su σ q0 0 (σ q1 0 &&& 1)) q0 1 ((su σ q0 0 (σ q1 0 &&& 1)) q1 1)) q1 2)) q0 3 ((su (su (su σ q0 0 (σ q1 0 &&& 1)) q0 1 ((su σ q0 0 (σ q1 0 &&& 1)) q1 1)) q0 2 ((su (su σ q0 0 (σ q1 0 &&& 1)) q0 1 ((su σ q0 0 (σ q1 0 &&& 1)) q1 1)) q1 2)) q1 3)) q0 4 ((su (su (su (su σ q0 0 (σ q1 0 &&& 1)) q0 1 ((su σ q0 0 (σ q1 0 &&& 1)) q1 1)) q0 2 ((su (su σ q0 0 (σ q1 0 &&& 1)) q0 1 ((su σ q0 0 (σ q1 0 &&& 1)) q1 1)) q1 2)) q0 3 ((su (su (su σ q0 0 (σ q1 0 &&& 1)) q0 1 ((su σ q0 0 (σ q1 0 &&& 1)) q1 1)) q0 2 ((su (su σ q0 0 (σ q1 0 &&& 1)) q0 1 ((su σ q0 0 (σ q1 0 &&& 1)) q1 1)) q1 2)) q1 3)) q1 4)) q0 5 ((su (su (su (su (su σ q0 0 (σ q1 0 &&& 1)) q0 1 ((su σ q0 0 (σ q1 0 &&& 1)) q1 1)) q0 2 ((su (su σ q0 0 (σ q1 0 &&& 1)) q0 1 ((su σ q0 0 (σ q1 0 &&& 1)) q1 1)) q1 2)) q0 3 ((su (su (su σ q0 0 (σ q1 0 &&& 1)) q0 1 ((su σ q0 0 (σ q1 0 &&& 1)) q1 1)) q0 2 ((su (su σ q0 0 (σ q1 0 &&& 1)) q0 1 ((su σ q0 0 (σ q1 0 &&& 1)) q1 1)) q1 2)) q1 3)) q0 4 ((su (su (su (su σ q0 0 (σ q1 0 &&& 1)) q0 1 ((su σ q0 0 (σ q1 0 &&& 1)) q1 1)) q0 2 ((su (su σ q0 0 (σ q1 0 &&& 1)) q0 1 ((su σ q0 0 (σ q1 0 &&& 1)) q1 1)) q1 2)) q0 3 ((su (su (su σ q0 0 (σ q1 0 &&& 1)) q0 1 ((su σ q0 0 (σ q1 0 &&& 1)) q1 1)) q0 2 ((su (su σ q0 0 (σ q1 0 &&& 1)) q0 1 ((su σ q0 0 (σ q1 0 &&& 1)) q1 1)) q1 2)) q1 3)) q1 4)) q1 5)) q0 6 ((su (su (su (su (su (su σ q0 0 (σ q1 0 &&& 1)) q0 1 ((su σ q0 0 (σ q1 0 &&& 1)) q1 1)) q0 2 ((su (su σ q0 0 (σ q1 0 &&& 1)) q0 1 ((su σ q0 0 (σ q1 0 &&& 1)) q1 1)) q1 2)) q0 3 ((su (su (su σ q0 0 (σ q1 0 &&& 1)) q0 1 ((su σ q0 0 (σ q1 0 &&& 1)) q1 1)) q0 2 ((su (su σ q0 0 (σ q1 0 &&& 1)) q0 1 ((su σ q0 0 (σ q1 0 &&& 1)) q1 1)) q1 2)) q1 3)) q0 4 ((su (su (su (su σ q0 0 (σ q1 0 &&& 1)) q0 1 ((su σ q0 0 (σ q1 0 &&& 1)) q1 1)) q0 2 ((su (su σ q0 0 (σ q1 0 &&& 1)) q0 1 ((su σ q0 0 (σ q1 0 &&& 1)) q1 1)) q1 2)) q0 3 ((su (su (su σ q0 0 (σ q1 0 &&& 1)) q0 1 ((su σ q0 0 (σ q1 0 &&& 1)) q1 1)) q0 2 ((su (su σ q0 0 (σ q1 0 &&& 1)) q0 1 ((su σ q0 0 (σ q1 0 &&& 1)) q1 1)) q1 2)) q1 3)) q1 4)) q0 5 ((su (su (su (su (su σ q0 0 (σ q1 0 &&& 1)) q0 1 ((su σ q0 0 (σ q1 0 &&& 1)) q1 1)) q0 2 ((su (su σ q0 0 (σ q1 0 &&& 1)) q0 1 ((su σ q0 0 (σ q1 0 &&& 1)) q1 1)) q1 2)) q0 3 ((su (su (su σ q0 0 (σ q1 0 &&& 1)) q0 1 ((su σ q0 0 (σ q1 0 &&& 1)) q1 1)) q0 2 ((su (su σ q0 0 (σ q1 0 &&& 1)) q0 1 ((su σ q0 0 (σ q1 0 &&& 1)) q1 1)) q1 2)) q1 3)) q0 4 ((su (su (su (su σ q0 0 (σ q1 0 &&& 1)) q0 1 ((su σ q0 0 (σ q1 0 &&& 1)) q1 1)) q0 2 ((su (su σ q0 0 (σ q1 0 &&& 1)) q0 1 ((su σ q0 0 (σ q1 0 &&& 1)) q1 1)) q1 2)) q0 3 ((su (su (su σ q0 0 (σ q1 0 &&& 1)) q0 1 ((su σ q0 0 (σ q1 0 &&& 1)) q1 1)) q0 2 ((su (su σ q0 0 (σ q1 0 &&& 1)) q0 1 ((su σ q0 0 (σ q1 0 &&& 1)) q1 1)) q1 2)) q1 3)) q1 4)) q1 5)) q1 6)) q1 7)) q0 8 ((su (su (su (su (su (su (su (su σ q0 0 (σ q1 0 &&& 1)) q0 1 ((su σ q0 0 (σ q1 0 &&& 1)) q1 1)) q0 2 ((su (su σ q0 0 (σ q1 0 &&& 1)) q0 1 ((su σ q0 0 (σ q1 0 &&& 1)) q1 1)) q1 2)) q0 3 ((su (su (su σ q0 0 (σ q1 0 &&& 1)) q0 1 ((su σ q0 0 (σ q1 0 &&& 1)) q1 1)) q0 2 ((su (su σ q0 0 (σ q1 0 &&& 1)) q0 1 ((su σ q0 0 (σ q1 0 &&& 1)) q1 1)) q1 2)) q1 3)) q0 4 ((su (su (su (su σ q0 0 (σ q1 0 &&& 1)) q0 1 ((su σ q0 0 (σ q1 0 &&& 1)) q1 1)) q0 2 ((su (su σ q0 0 (σ q1 0 &&& 1)) q0 1 ((su σ q0 0 (σ q1 0 &&& 1)) q1 1)) q1 2)) q0 3 ((su (su (su σ q0 0 (σ q1 0 &&& 1)) q0 1 ((su σ q0 0 (σ q1 0 &&& 1)) q1 1)) q0 2 ((su (su σ q0 0 (σ q1 0 &&& 1)) q0 1 ((su σ q0 0 (σ q1 0 &&& 1)) q1 1)) q1 2)) q1 3)) q1 4)) q0 5 ((su (su (su (su (su σ q0 0 (σ q1 0 &&& 1)) q0 1 ((su σ q0 0 (σ q1 0 &&& 1)) q1 1)) q0 2 ((su (su σ q0 0 (σ q1 0 &&& 1)) q0 1 ((su σ q0 0 (σ q1 0 &&& 1)) q1 1)) q1 2)) q0 3 ((su (su (su σ q0 0 (σ q1 0 &&& 1)) q0 1 ((su σ q0 0 (σ q1 0 &&& 1)) q1 1)) q0 2 ((su (su σ q0 0 (σ q1 0 &&& 1)) q0 1 ((su σ q0 0 (σ q1 0 &&& 1)) q1 1)) q1 2)) q1 3)) q0 4 ((su (su (su (su σ q0 0 (σ q1 0 &&& 1)) q0 1 ((su σ q0 0 (σ q1 0 &&& 1)) q1 1)) q0 2 ((su (su σ q0 0 (σ q1 0 &&& 1)) q0 1 ((su σ q0 0 (σ q1 0 &&& 1)) q1 1)) q1 2)) q0 3 ((su (su (su σ q0 0 (σ q1 0 &&& 1)) q0 1 ((su σ q0 0 (σ q1 0 &&& 1)) q1 1)) q0 2 ((su (su σ q0 0 (σ q1 0 &&& 1)) q0 1 ((su σ q0 0 (σ q1 0 &&& 1)) q1 1)) q1 2)) q1 3)) q1 4)) q1 5)) q0 6 ((su (su (su (su (su (su σ q0 0 (σ q1 0 &&& 1)) q0 1 ((su σ q0 0 (σ q1 0 &&& 1)) q1 1)) q0 2 ((su (su σ q0 0 (σ q1 0 &&& 1)) q0 1 ((su σ q0 0 (σ q1 0 &&& 1)) q1 1)) q1 2)) q0 3 ((su (su (su σ q0 0 (σ q1 0 &&& 1)) q0 1 ((su σ q0 0 (σ q1 0 &&& 1)) q1 1)) q0 2 ((su (su σ q0 0 (σ q1 0 &&& 1)) q0 1 ((su σ q0 0 (σ q1 0 &&& 1)) q1 1)) q1 2)) q1 3)) q0 4 ((su (su (su (su σ q0 0 (σ q1 0 &&& 1)) q0 1 ((su σ q0 0 (σ q1 0 &&& 1)) q1 1)) q0 2 ((su (su σ q0 0 (σ q1 0 &&& 1)) q0 1 ((su σ q0 0 (σ q1 0 &&& 1)) q1 1)) q1 2)) q0 3 ((su (su (su σ q0 0 (σ q1 0 &&& 1)) q0 1 ((su σ q0 0 (σ q1 0 &&& 1)) q1 1)) q0 2 ((su (su σ q0 0 (σ q1 0 &&& 1)) q0 1 ((su σ q0 0 (σ q1 0 &&& 1)) q1 1)) q1 2)) q1 3)) q1 4)) q0 5 ((su (su (su (su (su σ q0 0 (σ q1 0 &&& 1)) q0 1 ((su σ q0 0 (σ q1 0 &&& 1)) q1 1)) q0 2 ((su (su σ q0 0 (σ q1 0 &&& 1)) q0 1 ((su σ q0 0 (σ q1 0 &&& 1)) q1 1)) q1 2)) q0 3 ((su (su (su σ q0 0 (σ q1 0 &&& 1)) q0 1 ((su σ q0 0 (σ q1 0 &&& 1)) q1 1)) q0 2 ((su (su σ q0 0 (σ q1 0 &&& 1)) q0 1 ((su σ q0 0 (σ q1 0 &&& 1)) q1 1)) q1 2)) q1 3)) q0 4 ((su (su (su (su σ q0 0 (σ q1 0 &&& 1)) q0 1 ((su σ q0 0 (σ q1 0 &&& 1)) q1 1)) q0 2 ((su (su σ q0 0 (σ q1 0 &&& 1)) q0 1 ((su σ q0 0 (σ q1 0 &&& 1)) q1 1)) q1 2)) q0 3 ((su (su (su σ q0 0 (σ q1 0 &&& 1)) q0 1 ((su σ q0 0 (σ q1 0 &&& 1)) q1 1)) q0 2 ((su (su σ q0 0 (σ q1 0 &&& 1)) q0 1 ((su σ q0 0 (σ q1 0 &&& 1)) q1 1)) q1 2)) q1 3)) q1 4)) q1 5)) q1 6)) q0 7 ((su (su (su (su (su (su (su σ q0 0 (σ q1 0 &&& 1)) q0 1 ((su σ q0 0 (σ q1 0 &&& 1)) q1 1)) q0 2 ((su (su σ q0 0 (σ q1 0 &&& 1)) q0 1 ((su σ q0 0 (σ q1 0 &&& 1)) q1 1)) q1 2)) q0 3 ((su (su (su σ q0 0 (σ q1 0 &&& 1)) q0 1 ((su σ q0 0 (σ q1 0 &&& 1)) q1 1)) q0 2 ((su (su σ q0 0 (σ q1 0 &&& 1)) q0 1 ((su σ q0 0 (σ q1 0 &&& 1)) q1 1)) q1 2)) q1 3)) q0 4 ((su (su (su (su σ q0 0 (σ q1 0 &&& 1)) q0 1 ((su σ q0 0 (σ q1 0 &&& 1)) q1 1)) q0 2 ((su (su σ q0 0 (σ q1 0 &&& 1)) q0 1 ((su σ q0 0 (σ q1 0 &&& 1)) q1 1)) q1 2)) q0 3 ((su (su (su σ q0 0 (σ q1 0 &&& 1)) q0 1 ((su σ q0 0 (σ q1 0 &&& 1)) q1 1)) q0 2 ((su (su σ q0 0 (σ q1 0 &&& 1)) q0 1 ((su σ q0 0 (σ q1 0 &&& 1)) q1 1)) q1 2)) q1 3)) q1 4)) q0 5 ((su (su (su (su (su σ q0 0 (σ q1 0 &&& 1)) q0 1 ((su σ q0 0 (σ q1 0 &&& 1)) q1 1)) q0 2 ((su (su σ q0 0 (σ q1 0 &&& 1)) q0 1 ((su σ q0 0 (σ q1 0 &&& 1)) q1 1)) q1 2)) q0 3 ((su (su (su σ q0 0 (σ q1 0 &&& 1)) q0 1 ((su σ q0 0 (σ q1 0 &&& 1)) q1 1)) q0 2 ((su (su σ q0 0 (σ q1 0 &&& 1)) q0 1 ((su σ q0 0 (σ q1 0 &&& 1)) q1 1)) q1 2)) q1 3)) q0 4 ((su (su (su (su σ q0 0 (σ q1 0 &&& 1)) q0 1 ((su σ q0 0 (σ q1 0 &&& 1)) q1 1)) q0 2 ((su (su σ q0 0 (σ q1 0 &&& 1)) q0 1 ((su σ q0 0 (σ q1 0 &&& 1)) q1 1)) q1 2)) q0 3 ((su (su (su σ q0 0 (σ q1 0 &&& 1)) q0 1 ((su σ q0 0 (σ q1 0 &&& 1)) q1 1)) q0 2 ((su (su σ q0 0 (σ q1 0 &&& 1)) q0 1 ((su σ q0 0 (σ q1 0 &&& 1)) q1 1)) q1 2)) q1 3)) q1 4)) q1 5)) q0 6 ((su (su (su (su (su (su σ q0 0 (σ q1 0 &&& 1)) q0 1 ((su σ q0 0 (σ q1 0 &&& 1)) q1 1)) q0 2 ((su (su σ q0 0 (σ q1 0 &&& 1)) q0 1 ((su σ q0 0 (σ q1 0 &&& 1)) q1 1)) q1 2)) q0 3 ((su (su (su σ q0 0 (σ q1 0 &&& 1)) q0 1 ((su σ q0 0 (σ q1 0 &&& 1)) q1 1)) q0 2 ((su (su σ q0 0 (σ q1 0 &&& 1)) q0 1 ((su σ q0 0 (σ q1 0 &&& 1)) q1 1)) q1 2)) q1 3)) q0 4 ((su (su (su (su σ q0 0 (σ q1 0 &&& 1)) q0 1 ((su σ q0 0 (σ q1 0 &&& 1)) q1 1)) q0 2 ((su (su σ q0 0 (σ q1 0 &&& 1)) q0 1 ((su σ q0 0 (σ q1 0 &&& 1)) q1 1)) q1 2)) q0 3 ((su (su (su σ q0 0 (σ q1 0 &&& 1)) q0 1 ((su σ q0 0 (σ q1 0 &&& 1)) q1 1)) q0 2 ((su (su σ q0 0 (σ q1 0 &&& 1)) q0 1 ((su σ q0 0 (σ q1 0 &&& 1)) q1 1)) q1 2)) q1 3)) q1 4)) q0 5 ((su (su (su (su (su σ q0 0 (σ q1 0 &&& 1)) q0 1 ((su σ q0 0 (σ q1 0 &&& 1)) q1 1)) q0 2 ((su (su σ q0 0 (σ q1 0 &&& 1)) q0 1 ((su σ q0 0 (σ q1 0 &&& 1)) q1 1)) q1 2)) q0 3 ((su (su (su σ q0 0 (σ q1 0 &&& 1)) q0 1 ((su σ q0 0 (σ q1 0 &&& 1)) q1 1)) q0 2 ((su (su σ q0 0 (σ q1 0 &&& 1)) q0 1 ((su σ q0 0 (σ q1 0 &&& 1)) q1 1)) q1 2)) q1 3)) q0 4 ((su (su (su (su σ q0 0 (σ q1 0 &&& 1)) q0 1 ((su σ q0 0 (σ q1 0 &&& 1)) q1 1)) q0 2 ((su (su σ q0 0 (σ q1 0 &&& 1)) q0 1 ((su σ q0 0 (σ q1 0 &&& 1)) q1 1)) q1 2)) q0 3 ((su (su (su σ q0 0 (σ q1 0 &&& 1)) q0 1 ((su σ q0 0 (σ q1 0 &&& 1)) q1 1)) q0 2 ((su (su σ q0 0 (σ q1 0 &&& 1)) q0 1 ((su σ q0 0 (σ q1 0 &&& 1)) q1 1)) q1 2)) q1 3)) q1 4)) q1 5)) q1 6)) q1 7)) q1 8)) q0 9 ((su (su (su (su (su (su (su (su (su σ q0 0 (σ q1 0 &&& 1)) q0 1 ((su σ q0 0 (σ q1 0 &&& 1)) q1 1)) q0 2 ((su (su σ q0 0 (σ q1 0 &&& 1)) q0 1 ((su σ q0 0 (σ q1 0 &&& 1)) q1 1)) q1 2)) q0 3 ((su (su (su σ q0 0 (σ q1 0 &&& 1)) q0 1 ((su σ q0 0 (σ q1 0 &&& 1)) q1 1)) q0 2 ((su (su σ q0 0 (σ q1 0 &&& 1)) q0 1 ((su σ q0 0 (σ q1 0 &&& 1)) q1 1)) q1 2)) q1 3)) q0 4 ((su (su (su (su σ q0 0 (σ q1 0 &&& 1)) q0 1 ((su σ q0 0 (σ q1 0 &&& 1)) q1 1)) q0 2 ((su (su σ q0 0 (σ q1 0 &&& 1)) q0 1 ((su σ q0 0 (σ q1 0 &&& 1)) q1 1)) q1 2)) q0 3 ((su (su (su σ q0 0 (σ q1 0 &&& 1)) q0 1 ((su σ q0 0 (σ q1 0 &&& 1)) q1 1)) q0 2 ((su (su σ q0 0 (σ q1 0 &&& 1)) q0 1 ((su σ q0 0 (σ q1 0 &&& 1)) q1 1)) q1 2)) q1 3)) q1 4)) q0 5 ((su (su (su (su (su σ q0 0 (σ q1 0 &&& 1)) q0 1 ((su σ q0 0 (σ q1 0 &&& 1)) q1 1)) q0 2 ((su (su σ q0 0 (σ q1 0 &&& 1)) q0 1 ((su σ q0 0 (σ q1 0 &&& 1)) q1 1)) q1 2)) q0 3 ((su (su (su σ q0 0 (σ q1 0 &&& 1)) q0 1 ((su σ q0 0 (σ q1 0 &&& 1)) q1 1)) q0 2 ((su (su σ q0 0 (σ q1 0 &&& 1)) q0 1 ((su σ q0 0 (σ q1 0 &&& 1)) q1 1)) q1 2)) q1 3)) q0 4 ((su (su (su (su σ q0 0 (σ q1 0 &&& 1)) q0 1 ((su σ q0 0 (σ q1 0 &&& 1)) q1 1)) q0 2 ((su (su σ q0 0 (σ q1 0 &&& 1)) q0 1 ((su σ q0 0 (σ q1 0 &&& 1)) q1 1)) q1 2)) q0 3 ((su (su (su σ q0 0 (σ q1 0 &&& 1)) q0 1 ((su σ q0 0 (σ q1 0 &&& 1)) q1 1)) q0 2 ((su (su σ q0 0 (σ q1 0 &&& 1)) q0 1 ((su σ q0 0 (σ q1 0 &&& 1)) q1 1)) q1 2)) q1 3)) q1 4)) q1 5)) q0 6 ((su (su (su (su (su (su σ q0 0 (σ q1 0 &&& 1)) q0 1 ((su σ q0 0 (σ q1 0 &&& 1)) q1 1)) q0 2 ((su (su σ q0 0 (σ q1 0 &&& 1)) q0 1 ((su σ q0 0 (σ q1 0 &&& 1)) q1 1)) q1 2)) q0 3 ((su (su (su σ q0 0 (σ q1 0 &&& 1)) q0 1 ((su σ q0 0 (σ q1 0 &&& 1)) q1 1)) q0 2 ((su (su σ q0 0 (σ q1 0 &&& 1)) q0 1 ((su σ q0 0 (σ q1 0 &&& 1)) q1 1)) q1 2)) q1 3)) q0 4 ((su (su (su (su σ q0 0 (σ q1 0 &&& 1)) q0 1 ((su σ q0 0 (σ q1 0 &&& 1)) q1 1)) q0 2 ((su (su σ q0 0 (σ q1 0 &&& 1)) q0 1 ((su σ q0 0 (σ q1 0 &&& 1)) q1 1)) q1 2)) q0 3 ((su (su (su σ q0 0 (σ q1 0 &&& 1)) q0 1 ((su σ q0 0 (σ q1 0 &&& 1)) q1 1)) q0 2 ((su (su σ q0 0 (σ q1 0 &&& 1)) q0 1 ((su σ q0 0 (σ q1 0 &&& 1)) q1 1)) q1 2)) q1 3)) q1 4)) q0 5 ((su (su (su (su (su σ q0 0 (σ q1 0 &&& 1)) q0 1 ((su σ q0 0 (σ q1 0 &&& 1)) q1 1)) q0 2 ((su (su σ q0 0 (σ q1 0 &&& 1)) q0 1 ((su σ q0 0 (σ q1 0 &&& 1)) q1 1)) q1 2)) q0 3 ((su (su (su σ q0 0 (σ q1 0 &&& 1)) q0 1 ((su σ q0 0 (σ q1 0 &&& 1)) q1 1)) q0 2 ((su (su σ q0 0 (σ q1 0 &&& 1)) q0 1 ((su σ q0 0 (σ q1 0 &&& 1)) q1 1)) q1 2)) q1 3)) q0 4 ((su (su (su (su σ q0 0 (σ q1 0 &&& 1)) q0 1 ((su σ q0 0 (σ q1 0 &&& 1)) q1 1)) q0 2 ((su (su σ q0 0 (σ q1 0 &&& 1)) q0 1 ((su σ q0 0 (σ q1 0 &&& 1)) q1 1)) q1 2)) q0 3 ((su (su (su σ q0 0 (σ q1 0 &&& 1)) q0 1 ((su σ q0 0 (σ q1 0 &&& 1)) q1 1)) q0 2 ((su (su σ q0 0 (σ q1 0 &&& 1)) q0 1 ((su σ q0 0 (σ q1 0 &&& 1)) q1 1)) q1 2)) q1 3)) q1 4)) q1 5)) q1 6)) q0 7 ((su (su (su (su (su (su (su σ q0 0 (σ q1 0 &&& 1)) q0 1 ((su σ q0 0 (σ q1 0 &&& 1)) q1 1)) q0 2 ((su (su σ q0 0 (σ q1 0 &&& 1)) q0 1 ((su σ q0 0 (σ q1 0 &&& 1)) q1 1)) q1 2)) q0 3 ((su (su (su σ q0 0 (σ q1 0 &&& 1)) q0 1 ((su σ q0 0 (σ q1 0 &&& 1)) q1 1)) q0 2 ((su (su σ q0 0 (σ q1 0 &&& 1)) q0 1 ((su σ q0 0 (σ q1 0 &&& 1)) q1 1)) q1 2)) q1 3)) q0 4 ((su (su (su (su σ q0 0 (σ q1 0 &&& 1)) q0 1 ((su σ q0 0 (σ q1 0 &&& 1)) q1 1)) q0 2 ((su (su σ q0 0 (σ q1 0 &&& 1)) q0 1 ((su σ q0 0 (σ q1 0 &&& 1)) q1 1)) q1 2)) q0 3 ((su (su (su σ q0 0 (σ q1 0 &&& 1)) q0 1 ((su σ q0 0 (σ q1 0 &&& 1)) q1 1)) q0 2 ((su (su σ q0 0 (σ q1 0 &&& 1)) q0 1 ((su σ q0 0 (σ q1 0 &&& 1)) q1 1)) q1 2)) q1 3)) q1 4)) q0 5 ((su (su (su (su (su σ q0 0 (σ q1 0 &&& 1)) q0 1 ((su σ q0 0 (σ q1 0 &&& 1)) q1 1)) q0 2 ((su (su σ q0 0 (σ q1 0 &&& 1)) q0 1 ((su σ q0 0 (σ q1 0 &&& 1)) q1 1)) q1 2)) q0 3 ((su (su (su σ q0 0 (σ q1 0 &&& 1)) q0 1 ((su σ q0 0 (σ q1 0 &&& 1)) q1 1)) q0 2 ((su (su σ q0 0 (σ q1 0 &&& 1)) q0 1 ((su σ q0 0 (σ q1 0 &&& 1)) q1 1)) q1 2)) q1 3)) q0 4 ((su (su (su (su σ q0 0 (σ q1 0 &&& 1)) q0 1 ((su σ q0 0 (σ q1 0 &&& 1)) q1 1)) q0 2 ((su (su σ q0 0 (σ q1 0 &&& 1)) q0 1 ((su σ q0 0 (σ q1 0 &&& 1)) q1 1)) q1 2)) q0 3 ((su (su (su σ q0 0 (σ q1 0 &&& 1)) q0 1 ((su σ q0 0 (σ q1 0 &&& 1)) q1 1)) q0 2 ((su (su σ q0 0 (σ q1 0 &&& 1)) q0 1 ((su σ q0 0 (σ q1 0 &&& 1)) q1 1)) q1 2)) q1 3)) q1 4)) q1 5)) q0 6 ((su (su (su (su (su (su σ q0 0 (σ q1 0 &&& 1)) q0 1 ((su σ q0 0 (σ q1 0 &&& 1)) q1 1)) q0 2 ((su (su σ q0 0 (σ q1 0 &&& 1)) q0 1 ((su σ q0 0 (σ q1 0 &&& 1)) q1 1)) q1 2)) q0 3 ((su (su (su σ q0 0 (σ q1 0 &&& 1)) q0 1 ((su σ q0 0 (σ q1 0 &&& 1)) q1 1)) q0 2 ((su (su σ q0 0 (σ q1 0 &&& 1)) q0 1 ((su σ q0 0 (σ q1 0 &&& 1)) q1 1)) q1 2)) q1 3)) q0 4 ((su (su (su (su σ q0 0 (σ q1 0 &&& 1)) q0 1 ((su σ q0 0 (σ q1 0 &&& 1)) q1 1)) q0 2 ((su (su σ q0 0 (σ q1 0 &&& 1)) q0 1 ((su σ q0 0 (σ q1 0 &&& 1)) q1 1)) q1 2)) q0 3 ((su (su (su σ q0 0 (σ q1 0 &&& 1)) q0 1 ((su σ q0 0 (σ q1 0 &&& 1)) q1 1)) q0 2 ((su (su σ q0 0 (σ q1 0 &&& 1)) q0 1 ((su σ q0 0 (σ q1 0 &&& 1)) q1 1)) q1 2)) q1 3)) q1 4)) q0 5 ((su (su (su (su (su σ q0 0 (σ q1 0 &&& 1)) q0 1 ((su σ q0 0 (σ q1 0 &&& 1)) q1 1)) q0 2 ((su (su σ q0 0 (σ q1 0 &&& 1)) q0 1 ((su σ q0 0 (σ q1 0 &&& 1)) q1 1)) q1 2)) q0 3 ((su (su (su σ q0 0 (σ q1 0 &&& 1)) q0 1 ((su σ q0 0 (σ q1 0 &&& 1)) q1 1)) q0 2 ((su (su σ q0 0 (σ q1 0 &&& 1)) q0 1 ((su σ q0 0 (σ q1 0 &&& 1)) q1 1)) q1 2)) q1 3)) q0 4 ((su (su (su (su σ q0 0 (σ q1 0 &&& 1)) q0 1 ((su σ q0 0 (σ q1 0 &&& 1)) q1 1)) q0 2 ((su (su σ q0 0 (σ q1 0 &&& 1)) q0 1 ((su σ q0 0 (σ q1 0 &&& 1)) q1 1)) q1 2)) q0 3 ((su (su (su σ q0 0 (σ q1 0 &&& 1)) q0 1 ((su σ q0 0 (σ q1 0 &&& 1)) q1 1)) q0 2 ((su (su σ q0 0 (σ q1 0 &&& 1)) q0 1 ((su σ q0 0 (σ q1 0 &&& 1)) q1 1)) q1 2)) q1 3)) q1 4)) q1 5)) q1 6)) q1 7)) q0 8 ((su (su (su (su (su (su (su (su σ q0 0 (σ q1 0 &&& 1)) q0 1 ((su σ q0 0 (σ q1 0 &&& 1)) q1 1)) q0 2 ((su (su σ q0 0 (σ q1 0 &&& 1)) q0 1 ((su σ q0 0 (σ q1 0 &&& 1)) q1 1)) q1 2)) q0 3 ((su (su (su σ q0 0 (σ q1 0 &&& 1)) q0 1 ((su σ q0 0 (σ q1 0 &&& 1)) q1 1)) q0 2 ((su (su σ q0 0 (σ q1 0 &&& 1)) q0 1 ((su σ q0 0 (σ q1 0 &&& 1)) q1 1)) q1 2)) q1 3)) q0 4 ((su (su (su (su σ q0 0 (σ q1 0 &&& 1)) q0 1 ((su σ q0 0 (σ q1 0 &&& 1)) q1 1)) q0 2 ((su (su σ q0 0 (σ q1 0 &&& 1)) q0 1 ((su σ q0 0 (σ q1 0 &&& 1)) q1 1)) q1 2)) q0 3 ((su (su (su σ q0 0 (σ q1 0 &&& 1)) q0 1 ((su σ q0 0 (σ q1 0 &&& 1)) q1 1)) q0 2 ((su (su σ q0 0 (σ q1 0 &&& 1)) q0 1 ((su σ q0 0 (σ q1 0 &&& 1)) q1 1)) q1 2)) q1 3)) q1 4)) q0 5 ((su (su (su (su (su σ q0 0 (σ q1 0 &&& 1)) q0 1 ((su σ q0 0 (σ q1 0 &&& 1)) q1 1)) q0 2 ((su (su σ q0 0 (σ q1 0 &&& 1)) q0 1 ((su σ q0 0 (σ q1 0 &&& 1)) q1 1)) q1 2)) q0 3 ((su (su (su σ q0 0 (σ q1 0 &&& 1)) q0 1 ((su σ q0 0 (σ q1 0 &&& 1)) q1 1)) q0 2 ((su (su σ q0 0 (σ q1 0 &&& 1)) q0 1 ((su σ q0 0 (σ q1 0 &&& 1)) q1 1)) q1 2)) q1 3)) q0 4 ((su (su (su (su σ q0 0 (σ q1 0 &&& 1)) q0 1 ((su σ q0 0 (σ q1 0 &&& 1)) q1 1)) q0 2 ((su (su σ q0 0 (σ q1 0 &&& 1)) q0 1 ((su σ q0 0 (σ q1 0 &&& 1)) q1 1)) q1 2)) q0 3 ((su (su (su σ q0 0 (σ q1 0 &&& 1)) q0 1 ((su σ q0 0 (σ q1 0 &&& 1)) q1 1)) q0 2 ((su (su σ q0 0 (σ q1 0 &&& 1)) q0 1 ((su σ q0 0 (σ q1 0 &&& 1)) q1 1)) q1 2)) q1 3)) q1 4)) q1 5)) q0 6 ((su (su (su (su (su (su σ q0 0 (σ q1 0 &&& 1)) q0 1 ((su σ q0 0 (σ q1 0 &&& 1)) q1 1)) q0 2 ((su (su σ q0 0 (σ q1 0 &&& 1)) q0 1 ((su σ q0 0 (σ q1 0 &&& 1)) q1 1)) q1 2)) q0 3 ((su (su (su σ q0 0 (σ q1 0 &&& 1)) q0 1 ((su σ q0 0 (σ q1 0 &&& 1)) q1 1)) q0 2 ((su (su σ q0 0 (σ q1 0 &&& 1)) q0 1 ((su σ q0 0 (σ q1 0 &&& 1)) q1 1)) q1 2)) q1 3)) q0 4 ((su (su (su (su σ q0 0 (σ q1 0 &&& 1)) q0 1 ((su σ q0 0 (σ q1 0 &&& 1)) q1 1)) q0 2 ((su (su σ q0 0 (σ q1 0 &&& 1)) q0 1 ((su σ q0 0 (σ q1 0 &&& 1)) q1 1)) q1 2)) q0 3 ((su (su (su σ q0 0 (σ q1 0 &&& 1)) q0 1 ((su σ q0 0 (σ q1 0 &&& 1)) q1 1)) q0 2 ((su (su σ q0 0 (σ q1 0 &&& 1)) q0 1 ((su σ q0 0 (σ q1 0 &&& 1)) q1 1)) q1 2)) q1 3)) q1 4)) q0 5 ((su (su (su (su (su σ q0 0 (σ q1 0 &&& 1)) q0 1 ((su σ q0 0 (σ q1 0 &&& 1)) q1 1)) q0 2 ((su (su σ q0 0 (σ q1 0 &&& 1)) q0 1 ((su σ q0 0 (σ q1 0 &&& 1)) q1 1)) q1 2)) q0 3 ((su (su (su σ q0 0 (σ q1 0 &&& 1)) q0 1 ((su σ q0 0 (σ q1 0 &&& 1)) q1 1)) q0 2 ((su (su σ q0 0 (σ q1 0 &&& 1)) q0 1 ((su σ q0 0 (σ q1 0 &&& 1)) q1 1)) q1 2)) q1 3)) q0 4 ((su (su (su (su σ q0 0 (σ q1 0 &&& 1)) q0 1 ((su σ q0 0 (σ q1 0 &&& 1)) q1 1)) q0 2 ((su (su σ q0 0 (σ q1 0 &&& 1)) q0 1 ((su σ q0 0 (σ q1 0 &&& 1)) q1 1)) q1 2)) q0 3 ((su (su (su σ q0 0 (σ q1 0 &&& 1)) q0 1 ((su σ q0 0 (σ q1 0 &&& 1)) q1 1)) q0 2 ((su (su σ q0 0 (σ q1 0 &&& 1)) q0 1 ((su σ q0 0 (σ q1 0 &&& 1)) q1 1)) q1 2)) q1 3)) q1 4)) q1 5)) q1 6)) q0 7 ((su (su (su (su (su (su (su σ q0 0 (σ q1 0 &&& 1)) q0 1 ((su σ q0 0 (σ q1 0 &&& 1)) q1 1)) q0 2 ((su (su σ q0 0 (σ q1 0 &&& 1)) q0 1 ((su σ q0 0 (σ q1 0 &&& 1)) q1 1)) q1 2)) q0 3 ((su (su (su σ q0 0 (σ q1 0 &&& 1)) q0 1 ((su σ q0 0 (σ q1 0 &&& 1)) q1 1)) q0 2 ((su (su σ q0 0 (σ q1 0 &&& 1)) q0 1 ((su σ q0 0 (σ q1 0 &&& 1)) q1 1)) q1 2)) q1 3)) q0 4 ((su (su (su (su σ q0 0 (σ q1 0 &&& 1)) q0 1 ((su σ q0 0 (σ q1 0 &&& 1)) q1 1)) q0 2 ((su (su σ q0 0 (σ q1 0 &&& 1)) q0 1 ((su σ q0 0 (σ q1 0 &&& 1)) q1 1)) q1 2)) q0 3 ((su (su (su σ q0 0 (σ q1 0 &&& 1)) q0 1 ((su σ q0 0 (σ q1 0 &&& 1)) q1 1)) q0 2 ((su (su σ q0 0 (σ q1 0 &&& 1)) q0 1 ((su σ q0 0 (σ q1 0 &&& 1)) q1 1)) q1 2)) q1 3)) q1 4)) q0 5 ((su (su (su (su (su σ q0 0 (σ q1 0 &&& 1)) q0 1 ((su σ q0 0 (σ q1 0 &&& 1)) q1 1)) q0 2 ((su (su σ q0 0 (σ q1 0 &&& 1)) q0 1 ((su σ q0 0 (σ q1 0 &&& 1)) q1 1)) q1 2)) q0 3 ((su (su (su σ q0 0 (σ q1 0 &&& 1)) q0 1 ((su σ q0 0 (σ q1 0 &&& 1)) q1 1)) q0 2 ((su (su σ q0 0 (σ q1 0 &&& 1)) q0 1 ((su σ q0 0 (σ q1 0 &&& 1)) q1 1)) q1 2)) q1 3)) q0 4 ((su (su (su (su σ q0 0 (σ q1 0 &&& 1)) q0 1 ((su σ q0 0 (σ q1 0 &&& 1)) q1 1)) q0 2 ((su (su σ q0 0 (σ q1 0 &&& 1)) q0 1 ((su σ q0 0 (σ q1 0 &&& 1)) q1 1)) q1 2)) q0 3 ((su (su (su σ q0 0 (σ q1 0 &&& 1)) q0 1 ((su σ q0 0 (σ q1 0 &&& 1)) q1 1)) q0 2 ((su (su σ q0 0 (σ q1 0 &&& 1)) q0 1 ((su σ q0 0 (σ q1 0 &&& 1)) q1 1)) q1 2)) q1 3)) q1 4)) q1 5)) q0 6 ((su (su (su (su (su (su σ q0 0 (σ q1 0 &&& 1)) q0 1 ((su σ q0 0 (σ q1 0 &&& 1)) q1 1)) q0 2 ((su (su σ q0 0 (σ q1 0 &&& 1)) q0 1 ((su σ q0 0 (σ q1 0 &&& 1)) q1 1)) q1 2)) q0 3 ((su (su (su σ q0 0 (σ q1 0 &&& 1)) q0 1 ((su σ q0 0 (σ q1 0 &&& 1)) q1 1)) q0 2 ((su (su σ q0 0 (σ q1 0 &&& 1)) q0 1 ((su σ q0 0 (σ q1 0 &&& 1)) q1 1)) q1 2)) q1 3)) q0 4 ((su (su (su (su σ q0 0 (σ q1 0 &&& 1)) q0 1 ((su σ q0 0 (σ q1 0 &&& 1)) q1 1)) q0 2 ((su (su σ q0 0 (σ q1 0 &&& 1)) q0 1 ((su σ q0 0 (σ q1 0 &&& 1)) q1 1)) q1 2)) q0 3 ((su (su (su σ q0 0 (σ q1 0 &&& 1)) q0 1 ((su σ q0 0 (σ q1 0 &&& 1)) q1 1)) q0 2 ((su (su σ q0 0 (σ q1 0 &&& 1)) q0 1 ((su σ q0 0 (σ q1 0 &&& 1)) q1 1)) q1 2)) q1 3)) q1 4)) q0 5 ((su (su (su (su (su σ q0 0 (σ q1 0 &&& 1)) q0 1 ((su σ q0 0 (σ q1 0 &&& 1)) q1 1)) q0 2 ((su (su σ q0 0 (σ q1 0 &&& 1)) q0 1 ((su σ q0 0 (σ q1 0 &&& 1)) q1 1)) q1 2)) q0 3 ((su (su (su σ q0 0 (σ q1 0 &&& 1)) q0 1 ((su σ q0 0 (σ q1 0 &&& 1)) q1 1)) q0 2 ((su (su σ q0 0 (σ q1 0 &&& 1)) q0 1 ((su σ q0 0 (σ q1 0 &&& 1)) q1 1)) q1 2)) q1 3)) q0 4 ((su (su (su (su σ q0 0 (σ q1 0 &&& 1)) q0 1 ((su σ q0 0 (σ q1 0 &&& 1)) q1 1)) q0 2 ((su (su σ q0 0 (σ q1 0 &&& 1)) q0 1 ((su σ q0 0 (σ q1 0 &&& 1)) q1 1)) q1 2)) q0 3 ((su (su (su σ q0 0 (σ q1 0 &&& 1)) q0 1 ((su σ q0 0 (σ q1 0 &&& 1)) q1 1)) q0 2 ((su (su σ q0 0 (σ q1 0 &&& 1)) q0 1 ((su σ q0 0 (σ q1 0 &&& 1)) q1 1)) q1 2)) q1 3)) q1 4)) q1 5)) q1 6)) q1 7)) q1 8)) q1 9))
  else none
set_option maxRecDepth 100000 in
set_option maxHeartbeats 4000000 in
theorem c_X2_copyFrom (l : Launch) (D : va_G) (ca : Nat → ClassId) (ad : Nat → Nat) (N : Nat) (q0 : Nat) (hq0 : SH[q0]? = some oSpot) (q1 : Nat) (hq1 : SH[q1]? = some oSpot) (σ : St) (τ : St) (hf : f_X2_copyFrom N q0 q1 σ = some τ) : cM l yX2_copyFrom (.code yX2_copyFrom cX2_copyFrom 2 none) (rmk 0) D ca ad SH [.ref (ad q0), .ref (ad q1)] σ none τ := by
  refine cM.intro2 (own := RX2) (lo := [some (.ref (ad q0)), some (.ref (ad q1))]) (by decide) rfl (ccR (ccR cc0)) (Nat.le_of_ble_eq_true rfl) rfl ?_
  intro p e s m args below meth c A C hr hlk
  unfold f_X2_copyFrom at hf
  refine s_aloadn (pc := 0) C dX2_copyFrom_0 rfl ?_
  refine s_aloadn (pc := 1) C dX2_copyFrom_1 rfl ?_
  refine s_getZ (pc := 2) C fl_X2_9 hq1 rfl dX2_copyFrom_2 ?_
  obtain ⟨g_1, hf⟩ := gd hf
  refine s_putZ (pc := 5) C fp_X2_9 hq0 rfl g_1 dX2_copyFrom_5 ?_
  refine s_aloadn (pc := 8) C dX2_copyFrom_8 rfl ?_
  refine s_aloadn (pc := 9) C dX2_copyFrom_9 rfl ?_
  refine s_getI (pc := 10) C fl_X2_15 hq1 rfl dX2_copyFrom_10 ?_
  refine s_putI (pc := 13) C fp_X2_15 hq0 rfl dX2_copyFrom_13 ?_
  refine s_aloadn (pc := 16) C dX2_copyFrom_16 rfl ?_
  refine s_aloadn (pc := 17) C dX2_copyFrom_17 rfl ?_
  refine s_getI (pc := 18) C fl_X2_19 hq1 rfl dX2_copyFrom_18 ?_
  refine s_putI (pc := 21) C fp_X2_19 hq0 rfl dX2_copyFrom_21 ?_
  refine s_aloadn (pc := 24) C dX2_copyFrom_24 rfl ?_
  refine s_aloadn (pc := 25) C dX2_copyFrom_25 rfl ?_
  refine s_getI (pc := 26) C fl_X2_22 hq1 rfl dX2_copyFrom_26 ?_
  refine s_putI (pc := 29) C fp_X2_22 hq0 rfl dX2_copyFrom_29 ?_
  refine s_aloadn (pc := 32) C dX2_copyFrom_32 rfl ?_
  refine s_aloadn (pc := 33) C dX2_copyFrom_33 rfl ?_
  refine s_getI (pc := 34) C fl_X2_31 hq1 rfl dX2_copyFrom_34 ?_
  refine s_putI (pc := 37) C fp_X2_31 hq0 rfl dX2_copyFrom_37 ?_
  refine s_aloadn (pc := 40) C dX2_copyFrom_40 rfl ?_
  refine s_aloadn (pc := 41) C dX2_copyFrom_41 rfl ?_
  refine s_getI (pc := 42) C fl_X2_37 hq1 rfl dX2_copyFrom_42 ?_
  refine s_putI (pc := 45) C fp_X2_37 hq0 rfl dX2_copyFrom_45 ?_
  refine s_aloadn (pc := 48) C dX2_copyFrom_48 rfl ?_
  refine s_aloadn (pc := 49) C dX2_copyFrom_49 rfl ?_
  refine s_getI (pc := 50) C fl_X2_43 hq1 rfl dX2_copyFrom_50 ?_
  refine s_putI (pc := 53) C fp_X2_43 hq0 rfl dX2_copyFrom_53 ?_
  refine s_aloadn (pc := 56) C dX2_copyFrom_56 rfl ?_
  refine s_aloadn (pc := 57) C dX2_copyFrom_57 rfl ?_
  refine s_getI (pc := 58) C fl_X2_46 hq1 rfl dX2_copyFrom_58 ?_
  refine s_putI (pc := 61) C fp_X2_46 hq0 rfl dX2_copyFrom_61 ?_
  refine s_aloadn (pc := 64) C dX2_copyFrom_64 rfl ?_
  refine s_aloadn (pc := 65) C dX2_copyFrom_65 rfl ?_
  refine s_getI (pc := 66) C fl_X2_52 hq1 rfl dX2_copyFrom_66 ?_
  refine s_putI (pc := 69) C fp_X2_52 hq0 rfl dX2_copyFrom_69 ?_
  refine s_aloadn (pc := 72) C dX2_copyFrom_72 rfl ?_
  refine s_aloadn (pc := 73) C dX2_copyFrom_73 rfl ?_
  refine s_getI (pc := 74) C fl_X2_56 hq1 rfl dX2_copyFrom_74 ?_
  refine s_putI (pc := 77) C fp_X2_56 hq0 rfl dX2_copyFrom_77 ?_
  exact s_vret (pc := 80) C hr hlk dX2_copyFrom_80 rfl (rtv hf)
def f_X2_detail (N : Nat) (q0 : Nat) (a1 : Int32) (σ : St) : Option (Int32 × St) :=
  if a1 = 0 then
    some ((σ q0 1), σ)
  else
    if a1 = 1 then
      some ((σ q0 2), σ)
    else
      if a1 = 2 then
        some ((σ q0 3), σ)
      else
        if a1 = 3 then
          some ((σ q0 4), σ)
        else
          if a1 = 4 then
            some ((σ q0 5), σ)
          else
            if a1 = 5 then
              some ((σ q0 6), σ)
            else
              some ((σ q0 7), σ)
set_option maxRecDepth 100000 in
set_option maxHeartbeats 4000000 in
theorem c_X2_detail (l : Launch) (D : va_G) (ca : Nat → ClassId) (ad : Nat → Nat) (N : Nat) (q0 : Nat) (hq0 : SH[q0]? = some oSpot) (a1 : Int32) (σ : St) (r : Int32) (τ : St) (hf : f_X2_detail N q0 a1 σ = some (r, τ)) : cM l yX2_detail (.code yX2_detail cX2_detail 2 (some .int)) (rmk 0) D ca ad SH [.ref (ad q0), .int a1] σ (some (.int r)) τ := by
  refine cM.intro2 (own := RX2) (lo := [some (.ref (ad q0)), some (.int a1)]) (by decide) rfl (ccR (ccI cc0)) (Nat.le_of_ble_eq_true rfl) rfl ?_
  intro p e s m args below meth c A C hr hlk
  unfold f_X2_detail at hf
  refine s_iloadn (pc := 0) C dX2_detail_0 rfl ?_
  by_cases h_1 : a1 = 0
  · replace hf := ifp h_1 hf
    refine s_tsw (pc := 1) (off := 39) (tgt := 40) C h_1 dX2_detail_1 (by decide) ?_
    refine s_aloadn (pc := 40) C dX2_detail_40 rfl ?_
    refine s_getI (pc := 41) C fl_X2_15 hq0 rfl dX2_detail_41 ?_
    exact s_iret (pc := 44) C hr hlk dX2_detail_44 (congrArg (fun z => some (Value.int z)) (rt hf).1) (rt hf).2
  · replace hf := ifn h_1 hf
    by_cases h_2 : a1 = 1
    · replace hf := ifp h_2 hf
      refine s_tsw (pc := 1) (off := 44) (tgt := 45) C h_2 dX2_detail_1 (by decide) ?_
      refine s_aloadn (pc := 45) C dX2_detail_45 rfl ?_
      refine s_getI (pc := 46) C fl_X2_19 hq0 rfl dX2_detail_46 ?_
      exact s_iret (pc := 49) C hr hlk dX2_detail_49 (congrArg (fun z => some (Value.int z)) (rt hf).1) (rt hf).2
    · replace hf := ifn h_2 hf
      by_cases h_3 : a1 = 2
      · replace hf := ifp h_3 hf
        refine s_tsw (pc := 1) (off := 49) (tgt := 50) C h_3 dX2_detail_1 (by decide) ?_
        refine s_aloadn (pc := 50) C dX2_detail_50 rfl ?_
        refine s_getI (pc := 51) C fl_X2_22 hq0 rfl dX2_detail_51 ?_
        exact s_iret (pc := 54) C hr hlk dX2_detail_54 (congrArg (fun z => some (Value.int z)) (rt hf).1) (rt hf).2
      · replace hf := ifn h_3 hf
        by_cases h_4 : a1 = 3
        · replace hf := ifp h_4 hf
          refine s_tsw (pc := 1) (off := 54) (tgt := 55) C h_4 dX2_detail_1 (by decide) ?_
          refine s_aloadn (pc := 55) C dX2_detail_55 rfl ?_
          refine s_getI (pc := 56) C fl_X2_31 hq0 rfl dX2_detail_56 ?_
          exact s_iret (pc := 59) C hr hlk dX2_detail_59 (congrArg (fun z => some (Value.int z)) (rt hf).1) (rt hf).2
        · replace hf := ifn h_4 hf
          by_cases h_5 : a1 = 4
          · replace hf := ifp h_5 hf
            refine s_tsw (pc := 1) (off := 59) (tgt := 60) C h_5 dX2_detail_1 (by decide) ?_
            refine s_aloadn (pc := 60) C dX2_detail_60 rfl ?_
            refine s_getI (pc := 61) C fl_X2_37 hq0 rfl dX2_detail_61 ?_
            exact s_iret (pc := 64) C hr hlk dX2_detail_64 (congrArg (fun z => some (Value.int z)) (rt hf).1) (rt hf).2
          · replace hf := ifn h_5 hf
            by_cases h_6 : a1 = 5
            · replace hf := ifp h_6 hf
              refine s_tsw (pc := 1) (off := 64) (tgt := 65) C h_6 dX2_detail_1 (by decide) ?_
              refine s_aloadn (pc := 65) C dX2_detail_65 rfl ?_
              refine s_getI (pc := 66) C fl_X2_43 hq0 rfl dX2_detail_66 ?_
              exact s_iret (pc := 69) C hr hlk dX2_detail_69 (congrArg (fun z => some (Value.int z)) (rt hf).1) (rt hf).2
            · replace hf := ifn h_6 hf
              have ho : (Int32.toInt a1) < 0 ∨ 5 < Int32.toInt a1 := by
                have z0 := lv_neT h_1 (a := 0) (by decide)
                have z1 := lv_neT h_2 (a := 1) (by decide)
                have z2 := lv_neT h_3 (a := 2) (by decide)
                have z3 := lv_neT h_4 (a := 3) (by decide)
                have z4 := lv_neT h_5 (a := 4) (by decide)
                have z5 := lv_neT h_6 (a := 5) (by decide)
                omega
              refine s_tswD (pc := 1) (tgt := 70) C ho dX2_detail_1 (by decide) ?_
              refine s_aloadn (pc := 70) C dX2_detail_70 rfl ?_
              refine s_getI (pc := 71) C fl_X2_46 hq0 rfl dX2_detail_71 ?_
              exact s_iret (pc := 74) C hr hlk dX2_detail_74 (congrArg (fun z => some (Value.int z)) (rt hf).1) (rt hf).2
def f_X2_endAlong (N : Nat) (q0 : Nat) (a1 : Int32) (σ : St) : Option (Int32 × St) :=
  if a1 = 0 then
    some (((σ q0 1) + (σ q0 4)), σ)
  else
    if a1 = 1 then
      some (((σ q0 2) + (σ q0 5)), σ)
    else
      some (((σ q0 3) + (σ q0 6)), σ)
set_option maxRecDepth 100000 in
set_option maxHeartbeats 4000000 in
theorem c_X2_endAlong (l : Launch) (D : va_G) (ca : Nat → ClassId) (ad : Nat → Nat) (N : Nat) (q0 : Nat) (hq0 : SH[q0]? = some oSpot) (a1 : Int32) (σ : St) (r : Int32) (τ : St) (hf : f_X2_endAlong N q0 a1 σ = some (r, τ)) : cM l yX2_endAlong (.code yX2_endAlong cX2_endAlong 2 (some .int)) (rmk 0) D ca ad SH [.ref (ad q0), .int a1] σ (some (.int r)) τ := by
  refine cM.intro2 (own := RX2) (lo := [some (.ref (ad q0)), some (.int a1)]) (by decide) rfl (ccR (ccI cc0)) (Nat.le_of_ble_eq_true rfl) rfl ?_
  intro p e s m args below meth c A C hr hlk
  unfold f_X2_endAlong at hf
  refine s_iloadn (pc := 0) C dX2_endAlong_0 rfl ?_
  by_cases h_1 : a1 = 0
  · replace hf := ifp h_1 hf
    refine s_lsw (pc := 1) (off := 27) (tgt := 28) C (by rw [h_1]; decide) dX2_endAlong_1 (by decide) (by decide) ?_
    refine s_aloadn (pc := 28) C dX2_endAlong_28 rfl ?_
    refine s_getI (pc := 29) C fl_X2_15 hq0 rfl dX2_endAlong_29 ?_
    refine s_aloadn (pc := 32) C dX2_endAlong_32 rfl ?_
    refine s_getI (pc := 33) C fl_X2_31 hq0 rfl dX2_endAlong_33 ?_
    refine s_iadd (pc := 36) C dX2_endAlong_36 ?_
    exact s_iret (pc := 37) C hr hlk dX2_endAlong_37 (congrArg (fun z => some (Value.int z)) (rt hf).1) (rt hf).2
  · replace hf := ifn h_1 hf
    by_cases h_2 : a1 = 1
    · replace hf := ifp h_2 hf
      refine s_lsw (pc := 1) (off := 37) (tgt := 38) C (by rw [h_2]; decide) dX2_endAlong_1 (by decide) (by decide) ?_
      refine s_aloadn (pc := 38) C dX2_endAlong_38 rfl ?_
      refine s_getI (pc := 39) C fl_X2_19 hq0 rfl dX2_endAlong_39 ?_
      refine s_aloadn (pc := 42) C dX2_endAlong_42 rfl ?_
      refine s_getI (pc := 43) C fl_X2_37 hq0 rfl dX2_endAlong_43 ?_
      refine s_iadd (pc := 46) C dX2_endAlong_46 ?_
      exact s_iret (pc := 47) C hr hlk dX2_endAlong_47 (congrArg (fun z => some (Value.int z)) (rt hf).1) (rt hf).2
    · replace hf := ifn h_2 hf
      refine s_lsw (pc := 1) (off := 47) (tgt := 48) C (by show Op.lookupswitch.offset [(0, 27), (1, 37)] _ _ = _; rw [lv_osw h_1 (by decide), lv_osw h_2 (by decide)]; rfl) dX2_endAlong_1 (by decide) (by decide) ?_
      refine s_aloadn (pc := 48) C dX2_endAlong_48 rfl ?_
      refine s_getI (pc := 49) C fl_X2_22 hq0 rfl dX2_endAlong_49 ?_
      refine s_aloadn (pc := 52) C dX2_endAlong_52 rfl ?_
      refine s_getI (pc := 53) C fl_X2_43 hq0 rfl dX2_endAlong_53 ?_
      refine s_iadd (pc := 56) C dX2_endAlong_56 ?_
      exact s_iret (pc := 57) C hr hlk dX2_endAlong_57 (congrArg (fun z => some (Value.int z)) (rt hf).1) (rt hf).2
def f_X2_area (N : Nat) (q0 : Nat) (σ : St) : Option (Int32 × St) :=
  if (σ q0 0 &&& 1) = 0 then
    some (0, σ)
  else
    some (((σ q0 4) * (σ q0 5)), σ)
set_option maxRecDepth 100000 in
set_option maxHeartbeats 4000000 in
theorem c_X2_area (l : Launch) (D : va_G) (ca : Nat → ClassId) (ad : Nat → Nat) (N : Nat) (q0 : Nat) (hq0 : SH[q0]? = some oSpot) (σ : St) (r : Int32) (τ : St) (hf : f_X2_area N q0 σ = some (r, τ)) : cM l yX2_area (.code yX2_area cX2_area 1 (some .int)) (rmk 0) D ca ad SH [.ref (ad q0)] σ (some (.int r)) τ := by
  refine cM.intro2 (own := RX2) (lo := [some (.ref (ad q0))]) (by decide) rfl (ccR cc0) (Nat.le_of_ble_eq_true rfl) rfl ?_
  intro p e s m args below meth c A C hr hlk
  unfold f_X2_area at hf
  refine s_aloadn (pc := 0) C dX2_area_0 rfl ?_
  refine s_getZ (pc := 1) C fl_X2_9 hq0 rfl dX2_area_1 ?_
  refine s_if_eq (pc := 4) (tgt := 19) C dX2_area_4 (by decide) (fun h_1 => ?_) (fun h_1 => ?_)
  · replace hf := ifp h_1 hf
    refine s_iconst (pc := 19) (v := 0) C dX2_area_19 (by decide) ?_
    exact s_iret (pc := 20) C hr hlk dX2_area_20 (congrArg (fun z => some (Value.int z)) (rt hf).1) (rt hf).2
  · replace hf := ifn h_1 hf
    refine s_aloadn (pc := 7) C dX2_area_7 rfl ?_
    refine s_getI (pc := 8) C fl_X2_31 hq0 rfl dX2_area_8 ?_
    refine s_aloadn (pc := 11) C dX2_area_11 rfl ?_
    refine s_getI (pc := 12) C fl_X2_37 hq0 rfl dX2_area_12 ?_
    refine s_imul (pc := 15) C dX2_area_15 ?_
    refine s_goto (pc := 16) (tgt := 20) C dX2_area_16 (by decide) ?_
    exact s_iret (pc := 20) C hr hlk dX2_area_20 (congrArg (fun z => some (Value.int z)) (rt hf).1) (rt hf).2
def f_X2_volume (N : Nat) (q0 : Nat) (σ : St) : Option (Int32 × St) :=
  bn (f_X2_area N q0 σ) fun r_1 τ_1 =>
  some ((r_1 * (τ_1 q0 6)), τ_1)
set_option maxRecDepth 100000 in
set_option maxHeartbeats 4000000 in
theorem c_X2_volume (l : Launch) (D : va_G) (ca : Nat → ClassId) (ad : Nat → Nat) (N : Nat) (q0 : Nat) (hq0 : SH[q0]? = some oSpot) (σ : St) (r : Int32) (τ : St) (hf : f_X2_volume N q0 σ = some (r, τ)) : cM l yX2_volume (.code yX2_volume cX2_volume 1 (some .int)) (rmk 1) D ca ad SH [.ref (ad q0)] σ (some (.int r)) τ := by
  refine cM.intro2 (own := RX2) (lo := [some (.ref (ad q0))]) (by decide) rfl (ccR cc0) (Nat.le_of_ble_eq_true rfl) rfl ?_
  intro p e s m args below meth c A C hr hlk
  unfold f_X2_volume at hf
  refine s_aloadn (pc := 0) C dX2_volume_0 rfl ?_
  obtain ⟨r_1, τ_1, e_1, hf⟩ := bnd hf
  refine s_callV (pc := 1) (rest := []) C rfl (c_X2_area l D ca ad N q0 hq0 σ r_1 τ_1 e_1) kv_X2_57 ⟨rfl, rfl⟩ (by decide) hq0 ⟨_, rfl, rfl⟩ rfl rfl (Nat.le_of_ble_eq_true rfl) dX2_volume_1 ⟨Nat.zero_le _, Nat.zero_le _⟩ ?_
  refine s_st (st' := [.int r_1]) rfl ?_
  refine s_aloadn (pc := 4) C dX2_volume_4 rfl ?_
  refine s_getI (pc := 5) C fl_X2_43 hq0 rfl dX2_volume_5 ?_
  refine s_imul (pc := 8) C dX2_volume_8 ?_
  exact s_iret (pc := 9) C hr hlk dX2_volume_9 (congrArg (fun z => some (Value.int z)) (rt hf).1) (rt hf).2
def f_X2_covers (N : Nat) (q0 : Nat) (a1 : Int32) (a2 : Int32) (a3 : Int32) (σ : St) : Option (Int32 × St) :=
  if a1 < (σ q0 1) then
    some (0, σ)
  else
    if ((σ q0 1) + (σ q0 4)) ≤ a1 then
      some (0, σ)
    else
      if a2 < (σ q0 2) then
        some (0, σ)
      else
        if ((σ q0 2) + (σ q0 5)) ≤ a2 then
          some (0, σ)
        else
          if a3 < (σ q0 3) then
            some (0, σ)
          else
            if ((σ q0 3) + (σ q0 6)) ≤ a3 then
              some (0, σ)
            else
              some (1, σ)
set_option maxRecDepth 100000 in
set_option maxHeartbeats 4000000 in
theorem c_X2_covers (l : Launch) (D : va_G) (ca : Nat → ClassId) (ad : Nat → Nat) (N : Nat) (q0 : Nat) (hq0 : SH[q0]? = some oSpot) (a1 : Int32) (a2 : Int32) (a3 : Int32) (σ : St) (r : Int32) (τ : St) (hf : f_X2_covers N q0 a1 a2 a3 σ = some (r, τ)) : cM l yX2_covers (.code yX2_covers cX2_covers 4 (some .boolean)) (rmk 0) D ca ad SH [.ref (ad q0), .int a1, .int a2, .int a3] σ (some (.int r)) τ := by
  refine cM.intro2 (own := RX2) (lo := [some (.ref (ad q0)), some (.int a1), some (.int a2), some (.int a3)]) (by decide) rfl (ccR (ccI (ccI (ccI cc0)))) (Nat.le_of_ble_eq_true rfl) rfl ?_
  intro p e s m args below meth c A C hr hlk
  unfold f_X2_covers at hf
  refine s_aloadn (pc := 0) C dX2_covers_0 rfl ?_
  refine s_getI (pc := 1) C fl_X2_15 hq0 rfl dX2_covers_1 ?_
  refine s_iloadn (pc := 4) C dX2_covers_4 rfl ?_
  refine s_icmp_gt (pc := 5) (tgt := 67) C dX2_covers_5 (by decide) (fun h_1 => ?_) (fun h_1 => ?_)
  · replace hf := ifp h_1 hf
    refine s_iconst (pc := 67) (v := 0) C dX2_covers_67 (by decide) ?_
    exact s_zret (pc := 68) C hr hlk dX2_covers_68 (by decide) (congrArg (fun z => some (Value.int z)) (rt hf).1) (rt hf).2
  · replace hf := ifn h_1 hf
    refine s_iloadn (pc := 8) C dX2_covers_8 rfl ?_
    refine s_aloadn (pc := 9) C dX2_covers_9 rfl ?_
    refine s_getI (pc := 10) C fl_X2_15 hq0 rfl dX2_covers_10 ?_
    refine s_aloadn (pc := 13) C dX2_covers_13 rfl ?_
    refine s_getI (pc := 14) C fl_X2_31 hq0 rfl dX2_covers_14 ?_
    refine s_iadd (pc := 17) C dX2_covers_17 ?_
    refine s_icmp_ge (pc := 18) (tgt := 67) C dX2_covers_18 (by decide) (fun h_2 => ?_) (fun h_2 => ?_)
    · replace hf := ifp h_2 hf
      refine s_iconst (pc := 67) (v := 0) C dX2_covers_67 (by decide) ?_
      exact s_zret (pc := 68) C hr hlk dX2_covers_68 (by decide) (congrArg (fun z => some (Value.int z)) (rt hf).1) (rt hf).2
    · replace hf := ifn h_2 hf
      refine s_aloadn (pc := 21) C dX2_covers_21 rfl ?_
      refine s_getI (pc := 22) C fl_X2_19 hq0 rfl dX2_covers_22 ?_
      refine s_iloadn (pc := 25) C dX2_covers_25 rfl ?_
      refine s_icmp_gt (pc := 26) (tgt := 67) C dX2_covers_26 (by decide) (fun h_3 => ?_) (fun h_3 => ?_)
      · replace hf := ifp h_3 hf
        refine s_iconst (pc := 67) (v := 0) C dX2_covers_67 (by decide) ?_
        exact s_zret (pc := 68) C hr hlk dX2_covers_68 (by decide) (congrArg (fun z => some (Value.int z)) (rt hf).1) (rt hf).2
      · replace hf := ifn h_3 hf
        refine s_iloadn (pc := 29) C dX2_covers_29 rfl ?_
        refine s_aloadn (pc := 30) C dX2_covers_30 rfl ?_
        refine s_getI (pc := 31) C fl_X2_19 hq0 rfl dX2_covers_31 ?_
        refine s_aloadn (pc := 34) C dX2_covers_34 rfl ?_
        refine s_getI (pc := 35) C fl_X2_37 hq0 rfl dX2_covers_35 ?_
        refine s_iadd (pc := 38) C dX2_covers_38 ?_
        refine s_icmp_ge (pc := 39) (tgt := 67) C dX2_covers_39 (by decide) (fun h_4 => ?_) (fun h_4 => ?_)
        · replace hf := ifp h_4 hf
          refine s_iconst (pc := 67) (v := 0) C dX2_covers_67 (by decide) ?_
          exact s_zret (pc := 68) C hr hlk dX2_covers_68 (by decide) (congrArg (fun z => some (Value.int z)) (rt hf).1) (rt hf).2
        · replace hf := ifn h_4 hf
          refine s_aloadn (pc := 42) C dX2_covers_42 rfl ?_
          refine s_getI (pc := 43) C fl_X2_22 hq0 rfl dX2_covers_43 ?_
          refine s_iloadn (pc := 46) C dX2_covers_46 rfl ?_
          refine s_icmp_gt (pc := 47) (tgt := 67) C dX2_covers_47 (by decide) (fun h_5 => ?_) (fun h_5 => ?_)
          · replace hf := ifp h_5 hf
            refine s_iconst (pc := 67) (v := 0) C dX2_covers_67 (by decide) ?_
            exact s_zret (pc := 68) C hr hlk dX2_covers_68 (by decide) (congrArg (fun z => some (Value.int z)) (rt hf).1) (rt hf).2
          · replace hf := ifn h_5 hf
            refine s_iloadn (pc := 50) C dX2_covers_50 rfl ?_
            refine s_aloadn (pc := 51) C dX2_covers_51 rfl ?_
            refine s_getI (pc := 52) C fl_X2_22 hq0 rfl dX2_covers_52 ?_
            refine s_aloadn (pc := 55) C dX2_covers_55 rfl ?_
            refine s_getI (pc := 56) C fl_X2_43 hq0 rfl dX2_covers_56 ?_
            refine s_iadd (pc := 59) C dX2_covers_59 ?_
            refine s_icmp_ge (pc := 60) (tgt := 67) C dX2_covers_60 (by decide) (fun h_6 => ?_) (fun h_6 => ?_)
            · replace hf := ifp h_6 hf
              refine s_iconst (pc := 67) (v := 0) C dX2_covers_67 (by decide) ?_
              exact s_zret (pc := 68) C hr hlk dX2_covers_68 (by decide) (congrArg (fun z => some (Value.int z)) (rt hf).1) (rt hf).2
            · replace hf := ifn h_6 hf
              refine s_iconst (pc := 63) (v := 1) C dX2_covers_63 (by decide) ?_
              refine s_goto (pc := 64) (tgt := 68) C dX2_covers_64 (by decide) ?_
              exact s_zret (pc := 68) C hr hlk dX2_covers_68 (by decide) (congrArg (fun z => some (Value.int z)) (rt hf).1) (rt hf).2
def f_X2_meetsFromAbove (N : Nat) (q0 : Nat) (q1 : Nat) (σ : St) : Option (Int32 × St) :=
  if ((σ q1 1) + (σ q1 4)) ≤ (σ q0 1) then
    some (0, σ)
  else
    if ((σ q0 1) + (σ q0 4)) ≤ (σ q1 1) then
      some (0, σ)
    else
      if ((σ q1 2) + (σ q1 5)) ≤ (σ q0 2) then
        some (0, σ)
      else
        if ((σ q0 2) + (σ q0 5)) ≤ (σ q1 2) then
          some (0, σ)
        else
          some (1, σ)
set_option maxRecDepth 100000 in
set_option maxHeartbeats 4000000 in
theorem c_X2_meetsFromAbove (l : Launch) (D : va_G) (ca : Nat → ClassId) (ad : Nat → Nat) (N : Nat) (q0 : Nat) (hq0 : SH[q0]? = some oSpot) (q1 : Nat) (hq1 : SH[q1]? = some oSpot) (σ : St) (r : Int32) (τ : St) (hf : f_X2_meetsFromAbove N q0 q1 σ = some (r, τ)) : cM l yX2_meetsFromAbove (.code yX2_meetsFromAbove cX2_meetsFromAbove 2 (some .boolean)) (rmk 0) D ca ad SH [.ref (ad q0), .ref (ad q1)] σ (some (.int r)) τ := by
  refine cM.intro2 (own := RX2) (lo := [some (.ref (ad q0)), some (.ref (ad q1))]) (by decide) rfl (ccR (ccR cc0)) (Nat.le_of_ble_eq_true rfl) rfl ?_
  intro p e s m args below meth c A C hr hlk
  unfold f_X2_meetsFromAbove at hf
  refine s_aloadn (pc := 0) C dX2_meetsFromAbove_0 rfl ?_
  refine s_getI (pc := 1) C fl_X2_15 hq0 rfl dX2_meetsFromAbove_1 ?_
  refine s_aloadn (pc := 4) C dX2_meetsFromAbove_4 rfl ?_
  refine s_getI (pc := 5) C fl_X2_15 hq1 rfl dX2_meetsFromAbove_5 ?_
  refine s_aloadn (pc := 8) C dX2_meetsFromAbove_8 rfl ?_
  refine s_getI (pc := 9) C fl_X2_31 hq1 rfl dX2_meetsFromAbove_9 ?_
  refine s_iadd (pc := 12) C dX2_meetsFromAbove_12 ?_
  refine s_icmp_ge (pc := 13) (tgt := 68) C dX2_meetsFromAbove_13 (by decide) (fun h_1 => ?_) (fun h_1 => ?_)
  · replace hf := ifp h_1 hf
    refine s_iconst (pc := 68) (v := 0) C dX2_meetsFromAbove_68 (by decide) ?_
    exact s_zret (pc := 69) C hr hlk dX2_meetsFromAbove_69 (by decide) (congrArg (fun z => some (Value.int z)) (rt hf).1) (rt hf).2
  · replace hf := ifn h_1 hf
    refine s_aloadn (pc := 16) C dX2_meetsFromAbove_16 rfl ?_
    refine s_getI (pc := 17) C fl_X2_15 hq1 rfl dX2_meetsFromAbove_17 ?_
    refine s_aloadn (pc := 20) C dX2_meetsFromAbove_20 rfl ?_
    refine s_getI (pc := 21) C fl_X2_15 hq0 rfl dX2_meetsFromAbove_21 ?_
    refine s_aloadn (pc := 24) C dX2_meetsFromAbove_24 rfl ?_
    refine s_getI (pc := 25) C fl_X2_31 hq0 rfl dX2_meetsFromAbove_25 ?_
    refine s_iadd (pc := 28) C dX2_meetsFromAbove_28 ?_
    refine s_icmp_ge (pc := 29) (tgt := 68) C dX2_meetsFromAbove_29 (by decide) (fun h_2 => ?_) (fun h_2 => ?_)
    · replace hf := ifp h_2 hf
      refine s_iconst (pc := 68) (v := 0) C dX2_meetsFromAbove_68 (by decide) ?_
      exact s_zret (pc := 69) C hr hlk dX2_meetsFromAbove_69 (by decide) (congrArg (fun z => some (Value.int z)) (rt hf).1) (rt hf).2
    · replace hf := ifn h_2 hf
      refine s_aloadn (pc := 32) C dX2_meetsFromAbove_32 rfl ?_
      refine s_getI (pc := 33) C fl_X2_19 hq0 rfl dX2_meetsFromAbove_33 ?_
      refine s_aloadn (pc := 36) C dX2_meetsFromAbove_36 rfl ?_
      refine s_getI (pc := 37) C fl_X2_19 hq1 rfl dX2_meetsFromAbove_37 ?_
      refine s_aloadn (pc := 40) C dX2_meetsFromAbove_40 rfl ?_
      refine s_getI (pc := 41) C fl_X2_37 hq1 rfl dX2_meetsFromAbove_41 ?_
      refine s_iadd (pc := 44) C dX2_meetsFromAbove_44 ?_
      refine s_icmp_ge (pc := 45) (tgt := 68) C dX2_meetsFromAbove_45 (by decide) (fun h_3 => ?_) (fun h_3 => ?_)
      · replace hf := ifp h_3 hf
        refine s_iconst (pc := 68) (v := 0) C dX2_meetsFromAbove_68 (by decide) ?_
        exact s_zret (pc := 69) C hr hlk dX2_meetsFromAbove_69 (by decide) (congrArg (fun z => some (Value.int z)) (rt hf).1) (rt hf).2
      · replace hf := ifn h_3 hf
        refine s_aloadn (pc := 48) C dX2_meetsFromAbove_48 rfl ?_
        refine s_getI (pc := 49) C fl_X2_19 hq1 rfl dX2_meetsFromAbove_49 ?_
        refine s_aloadn (pc := 52) C dX2_meetsFromAbove_52 rfl ?_
        refine s_getI (pc := 53) C fl_X2_19 hq0 rfl dX2_meetsFromAbove_53 ?_
        refine s_aloadn (pc := 56) C dX2_meetsFromAbove_56 rfl ?_
        refine s_getI (pc := 57) C fl_X2_37 hq0 rfl dX2_meetsFromAbove_57 ?_
        refine s_iadd (pc := 60) C dX2_meetsFromAbove_60 ?_
        refine s_icmp_ge (pc := 61) (tgt := 68) C dX2_meetsFromAbove_61 (by decide) (fun h_4 => ?_) (fun h_4 => ?_)
        · replace hf := ifp h_4 hf
          refine s_iconst (pc := 68) (v := 0) C dX2_meetsFromAbove_68 (by decide) ?_
          exact s_zret (pc := 69) C hr hlk dX2_meetsFromAbove_69 (by decide) (congrArg (fun z => some (Value.int z)) (rt hf).1) (rt hf).2
        · replace hf := ifn h_4 hf
          refine s_iconst (pc := 64) (v := 1) C dX2_meetsFromAbove_64 (by decide) ?_
          refine s_goto (pc := 65) (tgt := 69) C dX2_meetsFromAbove_65 (by decide) ?_
          exact s_zret (pc := 69) C hr hlk dX2_meetsFromAbove_69 (by decide) (congrArg (fun z => some (Value.int z)) (rt hf).1) (rt hf).2
def f_X2_meets (N : Nat) (q0 : Nat) (q1 : Nat) (σ : St) : Option (Int32 × St) :=
  bn (f_X2_meetsFromAbove N q0 q1 σ) fun r_1 τ_1 =>
  if r_1 = 0 then
    some (0, τ_1)
  else
    if ((τ_1 q1 3) + (τ_1 q1 6)) ≤ (τ_1 q0 3) then
      some (0, τ_1)
    else
      if ((τ_1 q0 3) + (τ_1 q0 6)) ≤ (τ_1 q1 3) then
        some (0, τ_1)
      else
        some (1, τ_1)
set_option maxRecDepth 100000 in
set_option maxHeartbeats 4000000 in
theorem c_X2_meets (l : Launch) (D : va_G) (ca : Nat → ClassId) (ad : Nat → Nat) (N : Nat) (q0 : Nat) (hq0 : SH[q0]? = some oSpot) (q1 : Nat) (hq1 : SH[q1]? = some oSpot) (σ : St) (r : Int32) (τ : St) (hf : f_X2_meets N q0 q1 σ = some (r, τ)) : cM l yX2_meets (.code yX2_meets cX2_meets 2 (some .boolean)) (rmk 1) D ca ad SH [.ref (ad q0), .ref (ad q1)] σ (some (.int r)) τ := by
  refine cM.intro2 (own := RX2) (lo := [some (.ref (ad q0)), some (.ref (ad q1))]) (by decide) rfl (ccR (ccR cc0)) (Nat.le_of_ble_eq_true rfl) rfl ?_
  intro p e s m args below meth c A C hr hlk
  unfold f_X2_meets at hf
  refine s_aloadn (pc := 0) C dX2_meets_0 rfl ?_
  refine s_aloadn (pc := 1) C dX2_meets_1 rfl ?_
  obtain ⟨r_1, τ_1, e_1, hf⟩ := bnd hf
  refine s_callV (pc := 2) (rest := []) C rfl (c_X2_meetsFromAbove l D ca ad N q0 hq0 q1 hq1 σ r_1 τ_1 e_1) kv_X2_61 ⟨rfl, rfl⟩ (by decide) hq0 ⟨_, rfl, rfl⟩ rfl rfl (Nat.le_of_ble_eq_true rfl) dX2_meets_2 ⟨Nat.zero_le _, Nat.zero_le _⟩ ?_
  refine s_st (st' := [.int r_1]) rfl ?_
  refine s_if_eq (pc := 5) (tgt := 44) C dX2_meets_5 (by decide) (fun h_1 => ?_) (fun h_1 => ?_)
  · replace hf := ifp h_1 hf
    refine s_iconst (pc := 44) (v := 0) C dX2_meets_44 (by decide) ?_
    exact s_zret (pc := 45) C hr hlk dX2_meets_45 (by decide) (congrArg (fun z => some (Value.int z)) (rt hf).1) (rt hf).2
  · replace hf := ifn h_1 hf
    refine s_aloadn (pc := 8) C dX2_meets_8 rfl ?_
    refine s_getI (pc := 9) C fl_X2_22 hq0 rfl dX2_meets_9 ?_
    refine s_aloadn (pc := 12) C dX2_meets_12 rfl ?_
    refine s_getI (pc := 13) C fl_X2_22 hq1 rfl dX2_meets_13 ?_
    refine s_aloadn (pc := 16) C dX2_meets_16 rfl ?_
    refine s_getI (pc := 17) C fl_X2_43 hq1 rfl dX2_meets_17 ?_
    refine s_iadd (pc := 20) C dX2_meets_20 ?_
    refine s_icmp_ge (pc := 21) (tgt := 44) C dX2_meets_21 (by decide) (fun h_2 => ?_) (fun h_2 => ?_)
    · replace hf := ifp h_2 hf
      refine s_iconst (pc := 44) (v := 0) C dX2_meets_44 (by decide) ?_
      exact s_zret (pc := 45) C hr hlk dX2_meets_45 (by decide) (congrArg (fun z => some (Value.int z)) (rt hf).1) (rt hf).2
    · replace hf := ifn h_2 hf
      refine s_aloadn (pc := 24) C dX2_meets_24 rfl ?_
      refine s_getI (pc := 25) C fl_X2_22 hq1 rfl dX2_meets_25 ?_
      refine s_aloadn (pc := 28) C dX2_meets_28 rfl ?_
      refine s_getI (pc := 29) C fl_X2_22 hq0 rfl dX2_meets_29 ?_
      refine s_aloadn (pc := 32) C dX2_meets_32 rfl ?_
      refine s_getI (pc := 33) C fl_X2_43 hq0 rfl dX2_meets_33 ?_
      refine s_iadd (pc := 36) C dX2_meets_36 ?_
      refine s_icmp_ge (pc := 37) (tgt := 44) C dX2_meets_37 (by decide) (fun h_3 => ?_) (fun h_3 => ?_)
      · replace hf := ifp h_3 hf
        refine s_iconst (pc := 44) (v := 0) C dX2_meets_44 (by decide) ?_
        exact s_zret (pc := 45) C hr hlk dX2_meets_45 (by decide) (congrArg (fun z => some (Value.int z)) (rt hf).1) (rt hf).2
      · replace hf := ifn h_3 hf
        refine s_iconst (pc := 40) (v := 1) C dX2_meets_40 (by decide) ?_
        refine s_goto (pc := 41) (tgt := 45) C dX2_meets_41 (by decide) ?_
        exact s_zret (pc := 45) C hr hlk dX2_meets_45 (by decide) (congrArg (fun z => some (Value.int z)) (rt hf).1) (rt hf).2
def f_X2_standsOn (N : Nat) (q0 : Nat) (q1 : Nat) (σ : St) : Option (Int32 × St) :=
  if (σ q0 3) = ((σ q1 3) + (σ q1 6)) then
    bn (f_X2_meetsFromAbove N q0 q1 σ) fun r_1 τ_1 =>
    if r_1 = 0 then
      some (0, τ_1)
    else
      some (1, τ_1)
  else
    some (0, σ)
set_option maxRecDepth 100000 in
set_option maxHeartbeats 4000000 in
theorem c_X2_standsOn (l : Launch) (D : va_G) (ca : Nat → ClassId) (ad : Nat → Nat) (N : Nat) (q0 : Nat) (hq0 : SH[q0]? = some oSpot) (q1 : Nat) (hq1 : SH[q1]? = some oSpot) (σ : St) (r : Int32) (τ : St) (hf : f_X2_standsOn N q0 q1 σ = some (r, τ)) : cM l yX2_standsOn (.code yX2_standsOn cX2_standsOn 2 (some .boolean)) (rmk 1) D ca ad SH [.ref (ad q0), .ref (ad q1)] σ (some (.int r)) τ := by
  refine cM.intro2 (own := RX2) (lo := [some (.ref (ad q0)), some (.ref (ad q1))]) (by decide) rfl (ccR (ccR cc0)) (Nat.le_of_ble_eq_true rfl) rfl ?_
  intro p e s m args below meth c A C hr hlk
  unfold f_X2_standsOn at hf
  refine s_aloadn (pc := 0) C dX2_standsOn_0 rfl ?_
  refine s_getI (pc := 1) C fl_X2_22 hq0 rfl dX2_standsOn_1 ?_
  refine s_aloadn (pc := 4) C dX2_standsOn_4 rfl ?_
  refine s_getI (pc := 5) C fl_X2_22 hq1 rfl dX2_standsOn_5 ?_
  refine s_aloadn (pc := 8) C dX2_standsOn_8 rfl ?_
  refine s_getI (pc := 9) C fl_X2_43 hq1 rfl dX2_standsOn_9 ?_
  refine s_iadd (pc := 12) C dX2_standsOn_12 ?_
  refine s_icmp_ne (pc := 13) (tgt := 28) C dX2_standsOn_13 (by decide) (fun h_1 => ?_) (fun h_1 => ?_)
  · replace hf := ifn h_1 hf
    refine s_iconst (pc := 28) (v := 0) C dX2_standsOn_28 (by decide) ?_
    exact s_zret (pc := 29) C hr hlk dX2_standsOn_29 (by decide) (congrArg (fun z => some (Value.int z)) (rt hf).1) (rt hf).2
  · replace hf := ifp h_1 hf
    refine s_aloadn (pc := 16) C dX2_standsOn_16 rfl ?_
    refine s_aloadn (pc := 17) C dX2_standsOn_17 rfl ?_
    obtain ⟨r_1, τ_1, e_1, hf⟩ := bnd hf
    refine s_callV (pc := 18) (rest := []) C rfl (c_X2_meetsFromAbove l D ca ad N q0 hq0 q1 hq1 σ r_1 τ_1 e_1) kv_X2_61 ⟨rfl, rfl⟩ (by decide) hq0 ⟨_, rfl, rfl⟩ rfl rfl (Nat.le_of_ble_eq_true rfl) dX2_standsOn_18 ⟨Nat.zero_le _, Nat.zero_le _⟩ ?_
    refine s_st (st' := [.int r_1]) rfl ?_
    refine s_if_eq (pc := 21) (tgt := 28) C dX2_standsOn_21 (by decide) (fun h_2 => ?_) (fun h_2 => ?_)
    · replace hf := ifp h_2 hf
      refine s_iconst (pc := 28) (v := 0) C dX2_standsOn_28 (by decide) ?_
      exact s_zret (pc := 29) C hr hlk dX2_standsOn_29 (by decide) (congrArg (fun z => some (Value.int z)) (rt hf).1) (rt hf).2
    · replace hf := ifn h_2 hf
      refine s_iconst (pc := 24) (v := 1) C dX2_standsOn_24 (by decide) ?_
      refine s_goto (pc := 25) (tgt := 29) C dX2_standsOn_25 (by decide) ?_
      exact s_zret (pc := 29) C hr hlk dX2_standsOn_29 (by decide) (congrArg (fun z => some (Value.int z)) (rt hf).1) (rt hf).2
def f_X2_commonArea (N : Nat) (q0 : Nat) (q1 : Nat) (σ : St) : Option (Int32 × St) :=
  some ((((mmin ((σ q0 1) + (σ q0 4)) ((σ q1 1) + (σ q1 4))) - (mmax (σ q0 1) (σ q1 1))) * ((mmin ((σ q0 2) + (σ q0 5)) ((σ q1 2) + (σ q1 5))) - (mmax (σ q0 2) (σ q1 2)))), σ)
set_option maxRecDepth 100000 in
set_option maxHeartbeats 4000000 in
theorem c_X2_commonArea (l : Launch) (D : va_G) (ca : Nat → ClassId) (ad : Nat → Nat) (N : Nat) (q0 : Nat) (hq0 : SH[q0]? = some oSpot) (q1 : Nat) (hq1 : SH[q1]? = some oSpot) (σ : St) (r : Int32) (τ : St) (hf : f_X2_commonArea N q0 q1 σ = some (r, τ)) : cM l yX2_commonArea (.code yX2_commonArea cX2_commonArea 4 (some .int)) (rmk 1) D ca ad SH [.ref (ad q0), .ref (ad q1)] σ (some (.int r)) τ := by
  refine cM.intro2 (own := RX2) (lo := [some (.ref (ad q0)), some (.ref (ad q1)), none, none]) (by decide) rfl (ccR (ccR cc0)) (Nat.le_of_ble_eq_true rfl) rfl ?_
  intro p e s m args below meth c A C hr hlk
  unfold f_X2_commonArea at hf
  refine s_aloadn (pc := 0) C dX2_commonArea_0 rfl ?_
  refine s_getI (pc := 1) C fl_X2_15 hq0 rfl dX2_commonArea_1 ?_
  refine s_aloadn (pc := 4) C dX2_commonArea_4 rfl ?_
  refine s_getI (pc := 5) C fl_X2_31 hq0 rfl dX2_commonArea_5 ?_
  refine s_iadd (pc := 8) C dX2_commonArea_8 ?_
  refine s_aloadn (pc := 9) C dX2_commonArea_9 rfl ?_
  refine s_getI (pc := 10) C fl_X2_15 hq1 rfl dX2_commonArea_10 ?_
  refine s_aloadn (pc := 13) C dX2_commonArea_13 rfl ?_
  refine s_getI (pc := 14) C fl_X2_31 hq1 rfl dX2_commonArea_14 ?_
  refine s_iadd (pc := 17) C dX2_commonArea_17 ?_
  refine s_mmin (pc := 18) C rfl hk_X2_65 ⟨by decide, Nat.le_of_ble_eq_true rfl⟩ ⟨Nat.zero_le _, Nat.zero_le _⟩ hm_min dX2_commonArea_18 ?_
  refine s_aloadn (pc := 21) C dX2_commonArea_21 rfl ?_
  refine s_getI (pc := 22) C fl_X2_15 hq0 rfl dX2_commonArea_22 ?_
  refine s_aloadn (pc := 25) C dX2_commonArea_25 rfl ?_
  refine s_getI (pc := 26) C fl_X2_15 hq1 rfl dX2_commonArea_26 ?_
  refine s_mmax (pc := 29) C rfl hk_X2_71 ⟨by decide, Nat.le_of_ble_eq_true rfl⟩ ⟨Nat.zero_le _, Nat.zero_le _⟩ hm_max dX2_commonArea_29 ?_
  refine s_isub (pc := 32) C dX2_commonArea_32 ?_
  refine s_istoren (pc := 33) (lo' := [some (.ref (ad q0)), some (.ref (ad q1)), some (.int ((mmin ((σ q0 1) + (σ q0 4)) ((σ q1 1) + (σ q1 4))) - (mmax (σ q0 1) (σ q1 1)))), none]) C dX2_commonArea_33 (Nat.le_of_ble_eq_true rfl) rfl ?_
  refine s_aloadn (pc := 34) C dX2_commonArea_34 rfl ?_
  refine s_getI (pc := 35) C fl_X2_19 hq0 rfl dX2_commonArea_35 ?_
  refine s_aloadn (pc := 38) C dX2_commonArea_38 rfl ?_
  refine s_getI (pc := 39) C fl_X2_37 hq0 rfl dX2_commonArea_39 ?_
  refine s_iadd (pc := 42) C dX2_commonArea_42 ?_
  refine s_aloadn (pc := 43) C dX2_commonArea_43 rfl ?_
  refine s_getI (pc := 44) C fl_X2_19 hq1 rfl dX2_commonArea_44 ?_
  refine s_aloadn (pc := 47) C dX2_commonArea_47 rfl ?_
  refine s_getI (pc := 48) C fl_X2_37 hq1 rfl dX2_commonArea_48 ?_
  refine s_iadd (pc := 51) C dX2_commonArea_51 ?_
  refine s_mmin (pc := 52) C rfl hk_X2_65 ⟨by decide, Nat.le_of_ble_eq_true rfl⟩ ⟨Nat.zero_le _, Nat.zero_le _⟩ hm_min dX2_commonArea_52 ?_
  refine s_aloadn (pc := 55) C dX2_commonArea_55 rfl ?_
  refine s_getI (pc := 56) C fl_X2_19 hq0 rfl dX2_commonArea_56 ?_
  refine s_aloadn (pc := 59) C dX2_commonArea_59 rfl ?_
  refine s_getI (pc := 60) C fl_X2_19 hq1 rfl dX2_commonArea_60 ?_
  refine s_mmax (pc := 63) C rfl hk_X2_71 ⟨by decide, Nat.le_of_ble_eq_true rfl⟩ ⟨Nat.zero_le _, Nat.zero_le _⟩ hm_max dX2_commonArea_63 ?_
  refine s_isub (pc := 66) C dX2_commonArea_66 ?_
  refine s_istoren (pc := 67) (lo' := [some (.ref (ad q0)), some (.ref (ad q1)), some (.int ((mmin ((σ q0 1) + (σ q0 4)) ((σ q1 1) + (σ q1 4))) - (mmax (σ q0 1) (σ q1 1)))), some (.int ((mmin ((σ q0 2) + (σ q0 5)) ((σ q1 2) + (σ q1 5))) - (mmax (σ q0 2) (σ q1 2))))]) C dX2_commonArea_67 (Nat.le_of_ble_eq_true rfl) rfl ?_
  refine s_iloadn (pc := 68) C dX2_commonArea_68 rfl ?_
  refine s_iloadn (pc := 69) C dX2_commonArea_69 rfl ?_
  refine s_imul (pc := 70) C dX2_commonArea_70 ?_
  exact s_iret (pc := 71) C hr hlk dX2_commonArea_71 (congrArg (fun z => some (Value.int z)) (rt hf).1) (rt hf).2
