def f_J6_bitCount_0f7a4 (N : Nat) (a0 : Int32) (σ : St) : Option (Int32 × St) :=
  some (((((((((a0 - ((iush a0 1) &&& 1431655765)) &&& 858993459) + ((iush (a0 - ((iush a0 1) &&& 1431655765)) 2) &&& 858993459)) + (iush (((a0 - ((iush a0 1) &&& 1431655765)) &&& 858993459) + ((iush (a0 - ((iush a0 1) &&& 1431655765)) 2) &&& 858993459)) 4)) &&& 252645135) + (iush (((((a0 - ((iush a0 1) &&& 1431655765)) &&& 858993459) + ((iush (a0 - ((iush a0 1) &&& 1431655765)) 2) &&& 858993459)) + (iush (((a0 - ((iush a0 1) &&& 1431655765)) &&& 858993459) + ((iush (a0 - ((iush a0 1) &&& 1431655765)) 2) &&& 858993459)) 4)) &&& 252645135) 8)) + (iush ((((((a0 - ((iush a0 1) &&& 1431655765)) &&& 858993459) + ((iush (a0 - ((iush a0 1) &&& 1431655765)) 2) &&& 858993459)) + (iush (((a0 - ((iush a0 1) &&& 1431655765)) &&& 858993459) + ((iush (a0 - ((iush a0 1) &&& 1431655765)) 2) &&& 858993459)) 4)) &&& 252645135) + (iush (((((a0 - ((iush a0 1) &&& 1431655765)) &&& 858993459) + ((iush (a0 - ((iush a0 1) &&& 1431655765)) 2) &&& 858993459)) + (iush (((a0 - ((iush a0 1) &&& 1431655765)) &&& 858993459) + ((iush (a0 - ((iush a0 1) &&& 1431655765)) 2) &&& 858993459)) 4)) &&& 252645135) 8)) 16)) &&& 63), σ)
set_option maxRecDepth 100000 in
set_option maxHeartbeats 4000000 in
theorem c_J6_bitCount_0f7a4 (l : Launch) (D : va_G) (ca : Nat → ClassId) (ad : Nat → Nat) (N : Nat) (a0 : Int32) (σ : St) (r : Int32) (τ : St) (hf : f_J6_bitCount_0f7a4 N a0 σ = some (r, τ)) : cM l yJ6_bitCount_0f7a4 (.code yJ6_bitCount_0f7a4 cJ6_bitCount_0f7a4 1 (some .int)) (rmk 0) D ca ad SH [.int a0] σ (some (.int r)) τ := by
  refine cM.intro2 (own := RJ6) (lo := [some (.int a0)]) (by decide) rfl (ccI cc0) (Nat.le_of_ble_eq_true rfl) rfl ?_
  intro p e s m args below meth c A C hr hlk
  unfold f_J6_bitCount_0f7a4 at hf
  refine s_iloadn (pc := 0) C dJ6_bitCount_0f7a4_0 rfl ?_
  refine s_iloadn (pc := 1) C dJ6_bitCount_0f7a4_1 rfl ?_
  refine s_iconst (pc := 2) (v := 1) C dJ6_bitCount_0f7a4_2 (by decide) ?_
  refine s_ush (pc := 3) C dJ6_bitCount_0f7a4_3 ?_
  refine s_ldcw (pc := 4) (v := 1431655765) C hc_J6_265 dJ6_bitCount_0f7a4_4 ?_
  refine s_iand (pc := 7) C dJ6_bitCount_0f7a4_7 ?_
  refine s_isub (pc := 8) C dJ6_bitCount_0f7a4_8 ?_
  refine s_istoren (pc := 9) (lo' := [some (.int (a0 - ((iush a0 1) &&& 1431655765)))]) C dJ6_bitCount_0f7a4_9 (Nat.le_of_ble_eq_true rfl) rfl ?_
  refine s_iloadn (pc := 10) C dJ6_bitCount_0f7a4_10 rfl ?_
  refine s_ldcw (pc := 11) (v := 858993459) C hc_J6_266 dJ6_bitCount_0f7a4_11 ?_
  refine s_iand (pc := 14) C dJ6_bitCount_0f7a4_14 ?_
  refine s_iloadn (pc := 15) C dJ6_bitCount_0f7a4_15 rfl ?_
  refine s_iconst (pc := 16) (v := 2) C dJ6_bitCount_0f7a4_16 (by decide) ?_
  refine s_ush (pc := 17) C dJ6_bitCount_0f7a4_17 ?_
  refine s_ldcw (pc := 18) (v := 858993459) C hc_J6_266 dJ6_bitCount_0f7a4_18 ?_
  refine s_iand (pc := 21) C dJ6_bitCount_0f7a4_21 ?_
  refine s_iadd (pc := 22) C dJ6_bitCount_0f7a4_22 ?_
  refine s_istoren (pc := 23) (lo' := [some (.int (((a0 - ((iush a0 1) &&& 1431655765)) &&& 858993459) + ((iush (a0 - ((iush a0 1) &&& 1431655765)) 2) &&& 858993459)))]) C dJ6_bitCount_0f7a4_23 (Nat.le_of_ble_eq_true rfl) rfl ?_
  refine s_iloadn (pc := 24) C dJ6_bitCount_0f7a4_24 rfl ?_
  refine s_iloadn (pc := 25) C dJ6_bitCount_0f7a4_25 rfl ?_
  refine s_iconst (pc := 26) (v := 4) C dJ6_bitCount_0f7a4_26 (by decide) ?_
  refine s_ush (pc := 27) C dJ6_bitCount_0f7a4_27 ?_
  refine s_iadd (pc := 28) C dJ6_bitCount_0f7a4_28 ?_
  refine s_ldcw (pc := 29) (v := 252645135) C hc_J6_267 dJ6_bitCount_0f7a4_29 ?_
  refine s_iand (pc := 32) C dJ6_bitCount_0f7a4_32 ?_
  refine s_istoren (pc := 33) (lo' := [some (.int (((((a0 - ((iush a0 1) &&& 1431655765)) &&& 858993459) + ((iush (a0 - ((iush a0 1) &&& 1431655765)) 2) &&& 858993459)) + (iush (((a0 - ((iush a0 1) &&& 1431655765)) &&& 858993459) + ((iush (a0 - ((iush a0 1) &&& 1431655765)) 2) &&& 858993459)) 4)) &&& 252645135))]) C dJ6_bitCount_0f7a4_33 (Nat.le_of_ble_eq_true rfl) rfl ?_
  refine s_iloadn (pc := 34) C dJ6_bitCount_0f7a4_34 rfl ?_
  refine s_iloadn (pc := 35) C dJ6_bitCount_0f7a4_35 rfl ?_
  refine s_bipush (pc := 36) (v := 8) C dJ6_bitCount_0f7a4_36 (by decide) ?_
  refine s_ush (pc := 38) C dJ6_bitCount_0f7a4_38 ?_
  refine s_iadd (pc := 39) C dJ6_bitCount_0f7a4_39 ?_
  refine s_istoren (pc := 40) (lo' := [some (.int ((((((a0 - ((iush a0 1) &&& 1431655765)) &&& 858993459) + ((iush (a0 - ((iush a0 1) &&& 1431655765)) 2) &&& 858993459)) + (iush (((a0 - ((iush a0 1) &&& 1431655765)) &&& 858993459) + ((iush (a0 - ((iush a0 1) &&& 1431655765)) 2) &&& 858993459)) 4)) &&& 252645135) + (iush (((((a0 - ((iush a0 1) &&& 1431655765)) &&& 858993459) + ((iush (a0 - ((iush a0 1) &&& 1431655765)) 2) &&& 858993459)) + (iush (((a0 - ((iush a0 1) &&& 1431655765)) &&& 858993459) + ((iush (a0 - ((iush a0 1) &&& 1431655765)) 2) &&& 858993459)) 4)) &&& 252645135) 8)))]) C dJ6_bitCount_0f7a4_40 (Nat.le_of_ble_eq_true rfl) rfl ?_
  refine s_iloadn (pc := 41) C dJ6_bitCount_0f7a4_41 rfl ?_
  refine s_iloadn (pc := 42) C dJ6_bitCount_0f7a4_42 rfl ?_
  refine s_bipush (pc := 43) (v := 16) C dJ6_bitCount_0f7a4_43 (by decide) ?_
  refine s_ush (pc := 45) C dJ6_bitCount_0f7a4_45 ?_
  refine s_iadd (pc := 46) C dJ6_bitCount_0f7a4_46 ?_
  refine s_istoren (pc := 47) (lo' := [some (.int (((((((a0 - ((iush a0 1) &&& 1431655765)) &&& 858993459) + ((iush (a0 - ((iush a0 1) &&& 1431655765)) 2) &&& 858993459)) + (iush (((a0 - ((iush a0 1) &&& 1431655765)) &&& 858993459) + ((iush (a0 - ((iush a0 1) &&& 1431655765)) 2) &&& 858993459)) 4)) &&& 252645135) + (iush (((((a0 - ((iush a0 1) &&& 1431655765)) &&& 858993459) + ((iush (a0 - ((iush a0 1) &&& 1431655765)) 2) &&& 858993459)) + (iush (((a0 - ((iush a0 1) &&& 1431655765)) &&& 858993459) + ((iush (a0 - ((iush a0 1) &&& 1431655765)) 2) &&& 858993459)) 4)) &&& 252645135) 8)) + (iush ((((((a0 - ((iush a0 1) &&& 1431655765)) &&& 858993459) + ((iush (a0 - ((iush a0 1) &&& 1431655765)) 2) &&& 858993459)) + (iush (((a0 - ((iush a0 1) &&& 1431655765)) &&& 858993459) + ((iush (a0 - ((iush a0 1) &&& 1431655765)) 2) &&& 858993459)) 4)) &&& 252645135) + (iush (((((a0 - ((iush a0 1) &&& 1431655765)) &&& 858993459) + ((iush (a0 - ((iush a0 1) &&& 1431655765)) 2) &&& 858993459)) + (iush (((a0 - ((iush a0 1) &&& 1431655765)) &&& 858993459) + ((iush (a0 - ((iush a0 1) &&& 1431655765)) 2) &&& 858993459)) 4)) &&& 252645135) 8)) 16)))]) C dJ6_bitCount_0f7a4_47 (Nat.le_of_ble_eq_true rfl) rfl ?_
  refine s_iloadn (pc := 48) C dJ6_bitCount_0f7a4_48 rfl ?_
  refine s_bipush (pc := 49) (v := 63) C dJ6_bitCount_0f7a4_49 (by decide) ?_
  refine s_iand (pc := 51) C dJ6_bitCount_0f7a4_51 ?_
  exact s_iret (pc := 52) C hr hlk dJ6_bitCount_0f7a4_52 (congrArg (fun z => some (Value.int z)) (rt hf).1) (rt hf).2
