def f_X3_isIn (N : Nat) (a0 : Int32) (a1 : Int32) (σ : St) : Option (Int32 × St) :=
  if ((a0 >>> (a1 &&& 31)) &&& 1) = 1 then
    some (1, σ)
  else
    some (0, σ)
set_option maxRecDepth 100000 in
set_option maxHeartbeats 4000000 in
theorem c_X3_isIn (l : Launch) (D : va_G) (ca : Nat → ClassId) (ad : Nat → Nat) (N : Nat) (a0 : Int32) (a1 : Int32) (σ : St) (r : Int32) (τ : St) (hf : f_X3_isIn N a0 a1 σ = some (r, τ)) : cM l yX3_isIn (.code yX3_isIn cX3_isIn 2 (some .boolean)) (rmk 0) D ca ad SH [.int a0, .int a1] σ (some (.int r)) τ := by
  refine cM.intro2 (own := RX3) (lo := [some (.int a0), some (.int a1)]) (by decide) rfl (ccI (ccI cc0)) (Nat.le_of_ble_eq_true rfl) rfl ?_
  intro p e s m args below meth c A C hr hlk
  unfold f_X3_isIn at hf
  refine s_iloadn (pc := 0) C dX3_isIn_0 rfl ?_
  refine s_iloadn (pc := 1) C dX3_isIn_1 rfl ?_
  refine s_ishr (pc := 2) C dX3_isIn_2 ?_
  refine s_iconst (pc := 3) (v := 1) C dX3_isIn_3 (by decide) ?_
  refine s_iand (pc := 4) C dX3_isIn_4 ?_
  refine s_iconst (pc := 5) (v := 1) C dX3_isIn_5 (by decide) ?_
  refine s_icmp_ne (pc := 6) (tgt := 13) C dX3_isIn_6 (by decide) (fun h_1 => ?_) (fun h_1 => ?_)
  · replace hf := ifn h_1 hf
    refine s_iconst (pc := 13) (v := 0) C dX3_isIn_13 (by decide) ?_
    exact s_zret (pc := 14) C hr hlk dX3_isIn_14 (by decide) (congrArg (fun z => some (Value.int z)) (rt hf).1) (rt hf).2
  · replace hf := ifp h_1 hf
    refine s_iconst (pc := 9) (v := 1) C dX3_isIn_9 (by decide) ?_
    refine s_goto (pc := 10) (tgt := 14) C dX3_isIn_10 (by decide) ?_
    exact s_zret (pc := 14) C hr hlk dX3_isIn_14 (by decide) (congrArg (fun z => some (Value.int z)) (rt hf).1) (rt hf).2
def f_X0_become (N : Nat) (q0 : Nat) (a1 : Int32) (a2 : Int32) (a3 : Int32) (a4 : Int32) (σ : St) : Option (St) :=
  some (su (su (su (su σ q0 0 a1) q0 1 a2) q0 2 a3) q0 3 a4)
set_option maxRecDepth 100000 in
set_option maxHeartbeats 4000000 in
theorem c_X0_become (l : Launch) (D : va_G) (ca : Nat → ClassId) (ad : Nat → Nat) (N : Nat) (q0 : Nat) (hq0 : SH[q0]? = some oPiece) (a1 : Int32) (a2 : Int32) (a3 : Int32) (a4 : Int32) (σ : St) (τ : St) (hf : f_X0_become N q0 a1 a2 a3 a4 σ = some τ) : cM l yX0_become (.code yX0_become cX0_become 5 none) (rmk 0) D ca ad SH [.ref (ad q0), .int a1, .int a2, .int a3, .int a4] σ none τ := by
  refine cM.intro2 (own := RX0) (lo := [some (.ref (ad q0)), some (.int a1), some (.int a2), some (.int a3), some (.int a4)]) (by decide) rfl (ccR (ccI (ccI (ccI (ccI cc0))))) (Nat.le_of_ble_eq_true rfl) rfl ?_
  intro p e s m args below meth c A C hr hlk
  unfold f_X0_become at hf
  refine s_aloadn (pc := 0) C dX0_become_0 rfl ?_
  refine s_iloadn (pc := 1) C dX0_become_1 rfl ?_
  refine s_putI (pc := 2) C fp_X0_21 hq0 rfl dX0_become_2 ?_
  refine s_aloadn (pc := 5) C dX0_become_5 rfl ?_
  refine s_iloadn (pc := 6) C dX0_become_6 rfl ?_
  refine s_putI (pc := 7) C fp_X0_24 hq0 rfl dX0_become_7 ?_
  refine s_aloadn (pc := 10) C dX0_become_10 rfl ?_
  refine s_iloadn (pc := 11) C dX0_become_11 rfl ?_
  refine s_putI (pc := 12) C fp_X0_27 hq0 rfl dX0_become_12 ?_
  refine s_aloadn (pc := 15) C dX0_become_15 rfl ?_
  refine s_iload (pc := 16) C dX0_become_16 rfl ?_
  refine s_putI (pc := 18) C fp_X0_30 hq0 rfl dX0_become_18 ?_
  exact s_vret (pc := 21) C hr hlk dX0_become_21 rfl (rtv hf)
def f_X0_isPacked (N : Nat) (q0 : Nat) (σ : St) : Option (Int32 × St) :=
  if (σ q0 7) = (-1) then
    some (0, σ)
  else
    some (1, σ)
set_option maxRecDepth 100000 in
set_option maxHeartbeats 4000000 in
theorem c_X0_isPacked (l : Launch) (D : va_G) (ca : Nat → ClassId) (ad : Nat → Nat) (N : Nat) (q0 : Nat) (hq0 : SH[q0]? = some oPiece) (σ : St) (r : Int32) (τ : St) (hf : f_X0_isPacked N q0 σ = some (r, τ)) : cM l yX0_isPacked (.code yX0_isPacked cX0_isPacked 1 (some .boolean)) (rmk 0) D ca ad SH [.ref (ad q0)] σ (some (.int r)) τ := by
  refine cM.intro2 (own := RX0) (lo := [some (.ref (ad q0))]) (by decide) rfl (ccR cc0) (Nat.le_of_ble_eq_true rfl) rfl ?_
  intro p e s m args below meth c A C hr hlk
  unfold f_X0_isPacked at hf
  refine s_aloadn (pc := 0) C dX0_isPacked_0 rfl ?_
  refine s_getI (pc := 1) C fl_X0_18 hq0 rfl dX0_isPacked_1 ?_
  refine s_iconst (pc := 4) (v := (-1)) C dX0_isPacked_4 (by decide) ?_
  refine s_icmp_eq (pc := 5) (tgt := 12) C dX0_isPacked_5 (by decide) (fun h_1 => ?_) (fun h_1 => ?_)
  · replace hf := ifp h_1 hf
    refine s_iconst (pc := 12) (v := 0) C dX0_isPacked_12 (by decide) ?_
    exact s_zret (pc := 13) C hr hlk dX0_isPacked_13 (by decide) (congrArg (fun z => some (Value.int z)) (rt hf).1) (rt hf).2
  · replace hf := ifn h_1 hf
    refine s_iconst (pc := 8) (v := 1) C dX0_isPacked_8 (by decide) ?_
    refine s_goto (pc := 9) (tgt := 13) C dX0_isPacked_9 (by decide) ?_
    exact s_zret (pc := 13) C hr hlk dX0_isPacked_13 (by decide) (congrArg (fun z => some (Value.int z)) (rt hf).1) (rt hf).2
def f_X0_volume (N : Nat) (q0 : Nat) (σ : St) : Option (Int32 × St) :=
  some ((((σ q0 0) * (σ q0 1)) * (σ q0 2)), σ)
set_option maxRecDepth 100000 in
set_option maxHeartbeats 4000000 in
theorem c_X0_volume (l : Launch) (D : va_G) (ca : Nat → ClassId) (ad : Nat → Nat) (N : Nat) (q0 : Nat) (hq0 : SH[q0]? = some oPiece) (σ : St) (r : Int32) (τ : St) (hf : f_X0_volume N q0 σ = some (r, τ)) : cM l yX0_volume (.code yX0_volume cX0_volume 1 (some .int)) (rmk 0) D ca ad SH [.ref (ad q0)] σ (some (.int r)) τ := by
  refine cM.intro2 (own := RX0) (lo := [some (.ref (ad q0))]) (by decide) rfl (ccR cc0) (Nat.le_of_ble_eq_true rfl) rfl ?_
  intro p e s m args below meth c A C hr hlk
  unfold f_X0_volume at hf
  refine s_aloadn (pc := 0) C dX0_volume_0 rfl ?_
  refine s_getI (pc := 1) C fl_X0_21 hq0 rfl dX0_volume_1 ?_
  refine s_aloadn (pc := 4) C dX0_volume_4 rfl ?_
  refine s_getI (pc := 5) C fl_X0_24 hq0 rfl dX0_volume_5 ?_
  refine s_imul (pc := 8) C dX0_volume_8 ?_
  refine s_aloadn (pc := 9) C dX0_volume_9 rfl ?_
  refine s_getI (pc := 10) C fl_X0_27 hq0 rfl dX0_volume_10 ?_
  refine s_imul (pc := 13) C dX0_volume_13 ?_
  exact s_iret (pc := 14) C hr hlk dX0_volume_14 (congrArg (fun z => some (Value.int z)) (rt hf).1) (rt hf).2
def f_X0_lets (N : Nat) (q0 : Nat) (a1 : Int32) (σ : St) : Option (Int32 × St) :=
  bn (f_X3_isIn N (σ q0 4) a1 σ) fun r_1 τ_1 =>
  if r_1 = 0 ∨ r_1 = 1 then some (r_1, τ_1) else none
set_option maxRecDepth 100000 in
set_option maxHeartbeats 4000000 in
theorem c_X0_lets (l : Launch) (D : va_G) (ca : Nat → ClassId) (ad : Nat → Nat) (N : Nat) (q0 : Nat) (hq0 : SH[q0]? = some oPiece) (a1 : Int32) (σ : St) (r : Int32) (τ : St) (hf : f_X0_lets N q0 a1 σ = some (r, τ)) : cM l yX0_lets (.code yX0_lets cX0_lets 2 (some .boolean)) (rmk 1) D ca ad SH [.ref (ad q0), .int a1] σ (some (.int r)) τ := by
  refine cM.intro2 (own := RX0) (lo := [some (.ref (ad q0)), some (.int a1)]) (by decide) rfl (ccR (ccI cc0)) (Nat.le_of_ble_eq_true rfl) rfl ?_
  intro p e s m args below meth c A C hr hlk
  unfold f_X0_lets at hf
  refine s_aloadn (pc := 0) C dX0_lets_0 rfl ?_
  refine s_getI (pc := 1) C fl_X0_9 hq0 rfl dX0_lets_1 ?_
  refine s_iloadn (pc := 4) C dX0_lets_4 rfl ?_
  obtain ⟨r_1, τ_1, e_1, hf⟩ := bnd hf
  refine s_callN (pc := 5) (rest := []) C rfl (c_X3_isIn l D ca ad N (σ q0 4) a1 σ r_1 τ_1 e_1) kn_X0_33 ⟨rfl, rfl⟩ (by decide) rfl rfl (Nat.le_of_ble_eq_true rfl) dX0_lets_5 ⟨Nat.zero_le _, Nat.zero_le _⟩ ?_
  refine s_st (st' := [.int r_1]) rfl ?_
  obtain ⟨g_1, hf⟩ := gd hf
  exact s_zret (pc := 8) C hr hlk dX0_lets_8 g_1 (congrArg (fun z => some (Value.int z)) (rt hf).1) (rt hf).2
def f_X0_wayCount (N : Nat) (q0 : Nat) (σ : St) : Option (Int32 × St) :=
  bn (f_J6_bitCount_0f7a4 N (σ q0 4) σ) fun r_1 τ_1 =>
  some (r_1, τ_1)
set_option maxRecDepth 100000 in
set_option maxHeartbeats 4000000 in
theorem c_X0_wayCount (l : Launch) (D : va_G) (ca : Nat → ClassId) (ad : Nat → Nat) (N : Nat) (q0 : Nat) (hq0 : SH[q0]? = some oPiece) (σ : St) (r : Int32) (τ : St) (hf : f_X0_wayCount N q0 σ = some (r, τ)) : cM l yX0_wayCount (.code yX0_wayCount cX0_wayCount 1 (some .int)) (rmk 1) D ca ad SH [.ref (ad q0)] σ (some (.int r)) τ := by
  refine cM.intro2 (own := RX0) (lo := [some (.ref (ad q0))]) (by decide) rfl (ccR cc0) (Nat.le_of_ble_eq_true rfl) rfl ?_
  intro p e s m args below meth c A C hr hlk
  unfold f_X0_wayCount at hf
  refine s_aloadn (pc := 0) C dX0_wayCount_0 rfl ?_
  refine s_getI (pc := 1) C fl_X0_9 hq0 rfl dX0_wayCount_1 ?_
  obtain ⟨r_1, τ_1, e_1, hf⟩ := bnd hf
  refine s_callO (pc := 4) (rest := []) C rfl (c_J6_bitCount_0f7a4 l D ca ad N (σ q0 4) σ r_1 τ_1 e_1) ko_X0_37 ⟨rfl, rfl⟩ (by decide) rfl rfl (Nat.le_of_ble_eq_true rfl) dX0_wayCount_4 ⟨Nat.zero_le _, Nat.zero_le _⟩ ?_
  refine s_st (st' := [.int r_1]) rfl ?_
  exact s_iret (pc := 7) C hr hlk dX0_wayCount_7 (congrArg (fun z => some (Value.int z)) (rt hf).1) (rt hf).2
def f_X0_marksFor (N : Nat) (a0 : Int32) (σ : St) : Option (Int32 × St) :=
  if a0 = 0 then
    some (0, σ)
  else
    if a0 = 1 then
      some (1, σ)
    else
      if a0 = 2 then
        some (2, σ)
      else
        if a0 = 3 then
          some (3, σ)
        else
          if a0 = 4 then
            some (2, σ)
          else
            some (3, σ)
set_option maxRecDepth 100000 in
set_option maxHeartbeats 4000000 in
theorem c_X0_marksFor (l : Launch) (D : va_G) (ca : Nat → ClassId) (ad : Nat → Nat) (N : Nat) (a0 : Int32) (σ : St) (r : Int32) (τ : St) (hf : f_X0_marksFor N a0 σ = some (r, τ)) : cM l yX0_marksFor (.code yX0_marksFor cX0_marksFor 1 (some .int)) (rmk 0) D ca ad SH [.int a0] σ (some (.int r)) τ := by
  refine cM.intro2 (own := RX0) (lo := [some (.int a0)]) (by decide) rfl (ccI cc0) (Nat.le_of_ble_eq_true rfl) rfl ?_
  intro p e s m args below meth c A C hr hlk
  unfold f_X0_marksFor at hf
  refine s_iloadn (pc := 0) C dX0_marksFor_0 rfl ?_
  by_cases h_1 : a0 = 0
  · replace hf := ifp h_1 hf
    refine s_tsw (pc := 1) (off := 35) (tgt := 36) C h_1 dX0_marksFor_1 (by decide) ?_
    refine s_iconst (pc := 36) (v := 0) C dX0_marksFor_36 (by decide) ?_
    exact s_iret (pc := 37) C hr hlk dX0_marksFor_37 (congrArg (fun z => some (Value.int z)) (rt hf).1) (rt hf).2
  · replace hf := ifn h_1 hf
    by_cases h_2 : a0 = 1
    · replace hf := ifp h_2 hf
      refine s_tsw (pc := 1) (off := 37) (tgt := 38) C h_2 dX0_marksFor_1 (by decide) ?_
      refine s_iconst (pc := 38) (v := 1) C dX0_marksFor_38 (by decide) ?_
      exact s_iret (pc := 39) C hr hlk dX0_marksFor_39 (congrArg (fun z => some (Value.int z)) (rt hf).1) (rt hf).2
    · replace hf := ifn h_2 hf
      by_cases h_3 : a0 = 2
      · replace hf := ifp h_3 hf
        refine s_tsw (pc := 1) (off := 39) (tgt := 40) C h_3 dX0_marksFor_1 (by decide) ?_
        refine s_iconst (pc := 40) (v := 2) C dX0_marksFor_40 (by decide) ?_
        exact s_iret (pc := 41) C hr hlk dX0_marksFor_41 (congrArg (fun z => some (Value.int z)) (rt hf).1) (rt hf).2
      · replace hf := ifn h_3 hf
        by_cases h_4 : a0 = 3
        · replace hf := ifp h_4 hf
          refine s_tsw (pc := 1) (off := 41) (tgt := 42) C h_4 dX0_marksFor_1 (by decide) ?_
          refine s_iconst (pc := 42) (v := 3) C dX0_marksFor_42 (by decide) ?_
          exact s_iret (pc := 43) C hr hlk dX0_marksFor_43 (congrArg (fun z => some (Value.int z)) (rt hf).1) (rt hf).2
        · replace hf := ifn h_4 hf
          by_cases h_5 : a0 = 4
          · replace hf := ifp h_5 hf
            refine s_tsw (pc := 1) (off := 39) (tgt := 40) C h_5 dX0_marksFor_1 (by decide) ?_
            refine s_iconst (pc := 40) (v := 2) C dX0_marksFor_40 (by decide) ?_
            exact s_iret (pc := 41) C hr hlk dX0_marksFor_41 (congrArg (fun z => some (Value.int z)) (rt hf).1) (rt hf).2
          · replace hf := ifn h_5 hf
            have ho : (Int32.toInt a0) < 0 ∨ 4 < Int32.toInt a0 := by
              have z0 := lv_neT h_1 (a := 0) (by decide)
              have z1 := lv_neT h_2 (a := 1) (by decide)
              have z2 := lv_neT h_3 (a := 2) (by decide)
              have z3 := lv_neT h_4 (a := 3) (by decide)
              have z4 := lv_neT h_5 (a := 4) (by decide)
              omega
            refine s_tswD (pc := 1) (tgt := 42) C ho dX0_marksFor_1 (by decide) ?_
            refine s_iconst (pc := 42) (v := 3) C dX0_marksFor_42 (by decide) ?_
            exact s_iret (pc := 43) C hr hlk dX0_marksFor_43 (congrArg (fun z => some (Value.int z)) (rt hf).1) (rt hf).2
def f_X0_widthIn (N : Nat) (q0 : Nat) (a1 : Int32) (σ : St) : Option (Int32 × St) :=
  if a1 = 0 then
    some ((σ q0 0), σ)
  else
    if a1 = 1 then
      some ((σ q0 1), σ)
    else
      if a1 = 2 then
        some ((σ q0 0), σ)
      else
        if a1 = 3 then
          some ((σ q0 2), σ)
        else
          if a1 = 4 then
            some ((σ q0 1), σ)
          else
            some ((σ q0 2), σ)
set_option maxRecDepth 100000 in
set_option maxHeartbeats 4000000 in
theorem c_X0_widthIn (l : Launch) (D : va_G) (ca : Nat → ClassId) (ad : Nat → Nat) (N : Nat) (q0 : Nat) (hq0 : SH[q0]? = some oPiece) (a1 : Int32) (σ : St) (r : Int32) (τ : St) (hf : f_X0_widthIn N q0 a1 σ = some (r, τ)) : cM l yX0_widthIn (.code yX0_widthIn cX0_widthIn 2 (some .int)) (rmk 0) D ca ad SH [.ref (ad q0), .int a1] σ (some (.int r)) τ := by
  refine cM.intro2 (own := RX0) (lo := [some (.ref (ad q0)), some (.int a1)]) (by decide) rfl (ccR (ccI cc0)) (Nat.le_of_ble_eq_true rfl) rfl ?_
  intro p e s m args below meth c A C hr hlk
  unfold f_X0_widthIn at hf
  refine s_iloadn (pc := 0) C dX0_widthIn_0 rfl ?_
  by_cases h_1 : a1 = 0
  · replace hf := ifp h_1 hf
    refine s_tsw (pc := 1) (off := 35) (tgt := 36) C h_1 dX0_widthIn_1 (by decide) ?_
    refine s_aloadn (pc := 36) C dX0_widthIn_36 rfl ?_
    refine s_getI (pc := 37) C fl_X0_21 hq0 rfl dX0_widthIn_37 ?_
    exact s_iret (pc := 40) C hr hlk dX0_widthIn_40 (congrArg (fun z => some (Value.int z)) (rt hf).1) (rt hf).2
  · replace hf := ifn h_1 hf
    by_cases h_2 : a1 = 1
    · replace hf := ifp h_2 hf
      refine s_tsw (pc := 1) (off := 40) (tgt := 41) C h_2 dX0_widthIn_1 (by decide) ?_
      refine s_aloadn (pc := 41) C dX0_widthIn_41 rfl ?_
      refine s_getI (pc := 42) C fl_X0_24 hq0 rfl dX0_widthIn_42 ?_
      exact s_iret (pc := 45) C hr hlk dX0_widthIn_45 (congrArg (fun z => some (Value.int z)) (rt hf).1) (rt hf).2
    · replace hf := ifn h_2 hf
      by_cases h_3 : a1 = 2
      · replace hf := ifp h_3 hf
        refine s_tsw (pc := 1) (off := 35) (tgt := 36) C h_3 dX0_widthIn_1 (by decide) ?_
        refine s_aloadn (pc := 36) C dX0_widthIn_36 rfl ?_
        refine s_getI (pc := 37) C fl_X0_21 hq0 rfl dX0_widthIn_37 ?_
        exact s_iret (pc := 40) C hr hlk dX0_widthIn_40 (congrArg (fun z => some (Value.int z)) (rt hf).1) (rt hf).2
      · replace hf := ifn h_3 hf
        by_cases h_4 : a1 = 3
        · replace hf := ifp h_4 hf
          refine s_tsw (pc := 1) (off := 45) (tgt := 46) C h_4 dX0_widthIn_1 (by decide) ?_
          refine s_aloadn (pc := 46) C dX0_widthIn_46 rfl ?_
          refine s_getI (pc := 47) C fl_X0_27 hq0 rfl dX0_widthIn_47 ?_
          exact s_iret (pc := 50) C hr hlk dX0_widthIn_50 (congrArg (fun z => some (Value.int z)) (rt hf).1) (rt hf).2
        · replace hf := ifn h_4 hf
          by_cases h_5 : a1 = 4
          · replace hf := ifp h_5 hf
            refine s_tsw (pc := 1) (off := 40) (tgt := 41) C h_5 dX0_widthIn_1 (by decide) ?_
            refine s_aloadn (pc := 41) C dX0_widthIn_41 rfl ?_
            refine s_getI (pc := 42) C fl_X0_24 hq0 rfl dX0_widthIn_42 ?_
            exact s_iret (pc := 45) C hr hlk dX0_widthIn_45 (congrArg (fun z => some (Value.int z)) (rt hf).1) (rt hf).2
          · replace hf := ifn h_5 hf
            have ho : (Int32.toInt a1) < 0 ∨ 4 < Int32.toInt a1 := by
              have z0 := lv_neT h_1 (a := 0) (by decide)
              have z1 := lv_neT h_2 (a := 1) (by decide)
              have z2 := lv_neT h_3 (a := 2) (by decide)
              have z3 := lv_neT h_4 (a := 3) (by decide)
              have z4 := lv_neT h_5 (a := 4) (by decide)
              omega
            refine s_tswD (pc := 1) (tgt := 46) C ho dX0_widthIn_1 (by decide) ?_
            refine s_aloadn (pc := 46) C dX0_widthIn_46 rfl ?_
            refine s_getI (pc := 47) C fl_X0_27 hq0 rfl dX0_widthIn_47 ?_
            exact s_iret (pc := 50) C hr hlk dX0_widthIn_50 (congrArg (fun z => some (Value.int z)) (rt hf).1) (rt hf).2
def f_X0_depthIn (N : Nat) (q0 : Nat) (a1 : Int32) (σ : St) : Option (Int32 × St) :=
  if a1 = 0 then
    some ((σ q0 1), σ)
  else
    if a1 = 1 then
      some ((σ q0 0), σ)
    else
      if a1 = 2 then
        some ((σ q0 2), σ)
      else
        if a1 = 3 then
          some ((σ q0 0), σ)
        else
          if a1 = 4 then
            some ((σ q0 2), σ)
          else
            if a1 = 5 then
              some ((σ q0 1), σ)
            else
              some ((σ q0 2), σ)
set_option maxRecDepth 100000 in
set_option maxHeartbeats 4000000 in
theorem c_X0_depthIn (l : Launch) (D : va_G) (ca : Nat → ClassId) (ad : Nat → Nat) (N : Nat) (q0 : Nat) (hq0 : SH[q0]? = some oPiece) (a1 : Int32) (σ : St) (r : Int32) (τ : St) (hf : f_X0_depthIn N q0 a1 σ = some (r, τ)) : cM l yX0_depthIn (.code yX0_depthIn cX0_depthIn 2 (some .int)) (rmk 0) D ca ad SH [.ref (ad q0), .int a1] σ (some (.int r)) τ := by
  refine cM.intro2 (own := RX0) (lo := [some (.ref (ad q0)), some (.int a1)]) (by decide) rfl (ccR (ccI cc0)) (Nat.le_of_ble_eq_true rfl) rfl ?_
  intro p e s m args below meth c A C hr hlk
  unfold f_X0_depthIn at hf
  refine s_iloadn (pc := 0) C dX0_depthIn_0 rfl ?_
  by_cases h_1 : a1 = 0
  · replace hf := ifp h_1 hf
    refine s_tsw (pc := 1) (off := 44) (tgt := 45) C h_1 dX0_depthIn_1 (by decide) ?_
    refine s_aloadn (pc := 45) C dX0_depthIn_45 rfl ?_
    refine s_getI (pc := 46) C fl_X0_24 hq0 rfl dX0_depthIn_46 ?_
    exact s_iret (pc := 49) C hr hlk dX0_depthIn_49 (congrArg (fun z => some (Value.int z)) (rt hf).1) (rt hf).2
  · replace hf := ifn h_1 hf
    by_cases h_2 : a1 = 1
    · replace hf := ifp h_2 hf
      refine s_tsw (pc := 1) (off := 39) (tgt := 40) C h_2 dX0_depthIn_1 (by decide) ?_
      refine s_aloadn (pc := 40) C dX0_depthIn_40 rfl ?_
      refine s_getI (pc := 41) C fl_X0_21 hq0 rfl dX0_depthIn_41 ?_
      exact s_iret (pc := 44) C hr hlk dX0_depthIn_44 (congrArg (fun z => some (Value.int z)) (rt hf).1) (rt hf).2
    · replace hf := ifn h_2 hf
      by_cases h_3 : a1 = 2
      · replace hf := ifp h_3 hf
        refine s_tsw (pc := 1) (off := 49) (tgt := 50) C h_3 dX0_depthIn_1 (by decide) ?_
        refine s_aloadn (pc := 50) C dX0_depthIn_50 rfl ?_
        refine s_getI (pc := 51) C fl_X0_27 hq0 rfl dX0_depthIn_51 ?_
        exact s_iret (pc := 54) C hr hlk dX0_depthIn_54 (congrArg (fun z => some (Value.int z)) (rt hf).1) (rt hf).2
      · replace hf := ifn h_3 hf
        by_cases h_4 : a1 = 3
        · replace hf := ifp h_4 hf
          refine s_tsw (pc := 1) (off := 39) (tgt := 40) C h_4 dX0_depthIn_1 (by decide) ?_
          refine s_aloadn (pc := 40) C dX0_depthIn_40 rfl ?_
          refine s_getI (pc := 41) C fl_X0_21 hq0 rfl dX0_depthIn_41 ?_
          exact s_iret (pc := 44) C hr hlk dX0_depthIn_44 (congrArg (fun z => some (Value.int z)) (rt hf).1) (rt hf).2
        · replace hf := ifn h_4 hf
          by_cases h_5 : a1 = 4
          · replace hf := ifp h_5 hf
            refine s_tsw (pc := 1) (off := 49) (tgt := 50) C h_5 dX0_depthIn_1 (by decide) ?_
            refine s_aloadn (pc := 50) C dX0_depthIn_50 rfl ?_
            refine s_getI (pc := 51) C fl_X0_27 hq0 rfl dX0_depthIn_51 ?_
            exact s_iret (pc := 54) C hr hlk dX0_depthIn_54 (congrArg (fun z => some (Value.int z)) (rt hf).1) (rt hf).2
          · replace hf := ifn h_5 hf
            by_cases h_6 : a1 = 5
            · replace hf := ifp h_6 hf
              refine s_tsw (pc := 1) (off := 44) (tgt := 45) C h_6 dX0_depthIn_1 (by decide) ?_
              refine s_aloadn (pc := 45) C dX0_depthIn_45 rfl ?_
              refine s_getI (pc := 46) C fl_X0_24 hq0 rfl dX0_depthIn_46 ?_
              exact s_iret (pc := 49) C hr hlk dX0_depthIn_49 (congrArg (fun z => some (Value.int z)) (rt hf).1) (rt hf).2
            · replace hf := ifn h_6 hf
              have ho : (Int32.toInt a1) < 0 ∨ 5 < Int32.toInt a1 := by
                have z0 := lv_neT h_1 (a := 0) (by decide)
                have z1 := lv_neT h_2 (a := 1) (by decide)
                have z2 := lv_neT h_3 (a := 2) (by decide)
                have z3 := lv_neT h_4 (a := 3) (by decide)
                have z4 := lv_neT h_5 (a := 4) (by decide)
                have z5 := lv_neT h_6 (a := 5) (by decide)
                omega
              refine s_tswD (pc := 1) (tgt := 50) C ho dX0_depthIn_1 (by decide) ?_
              refine s_aloadn (pc := 50) C dX0_depthIn_50 rfl ?_
              refine s_getI (pc := 51) C fl_X0_27 hq0 rfl dX0_depthIn_51 ?_
              exact s_iret (pc := 54) C hr hlk dX0_depthIn_54 (congrArg (fun z => some (Value.int z)) (rt hf).1) (rt hf).2
def f_X0_heightIn (N : Nat) (q0 : Nat) (a1 : Int32) (σ : St) : Option (Int32 × St) :=
  if a1 = 2 then
    some ((σ q0 1), σ)
  else
    if a1 = 3 then
      some ((σ q0 1), σ)
    else
      if a1 = 4 then
        some ((σ q0 0), σ)
      else
        if a1 = 5 then
          some ((σ q0 0), σ)
        else
          some ((σ q0 2), σ)
set_option maxRecDepth 100000 in
set_option maxHeartbeats 4000000 in
theorem c_X0_heightIn (l : Launch) (D : va_G) (ca : Nat → ClassId) (ad : Nat → Nat) (N : Nat) (q0 : Nat) (hq0 : SH[q0]? = some oPiece) (a1 : Int32) (σ : St) (r : Int32) (τ : St) (hf : f_X0_heightIn N q0 a1 σ = some (r, τ)) : cM l yX0_heightIn (.code yX0_heightIn cX0_heightIn 2 (some .int)) (rmk 0) D ca ad SH [.ref (ad q0), .int a1] σ (some (.int r)) τ := by
  refine cM.intro2 (own := RX0) (lo := [some (.ref (ad q0)), some (.int a1)]) (by decide) rfl (ccR (ccI cc0)) (Nat.le_of_ble_eq_true rfl) rfl ?_
  intro p e s m args below meth c A C hr hlk
  unfold f_X0_heightIn at hf
  refine s_iloadn (pc := 0) C dX0_heightIn_0 rfl ?_
  by_cases h_1 : a1 = 2
  · replace hf := ifp h_1 hf
    refine s_tsw (pc := 1) (off := 36) (tgt := 37) C h_1 dX0_heightIn_1 (by decide) ?_
    refine s_aloadn (pc := 37) C dX0_heightIn_37 rfl ?_
    refine s_getI (pc := 38) C fl_X0_24 hq0 rfl dX0_heightIn_38 ?_
    exact s_iret (pc := 41) C hr hlk dX0_heightIn_41 (congrArg (fun z => some (Value.int z)) (rt hf).1) (rt hf).2
  · replace hf := ifn h_1 hf
    by_cases h_2 : a1 = 3
    · replace hf := ifp h_2 hf
      refine s_tsw (pc := 1) (off := 36) (tgt := 37) C h_2 dX0_heightIn_1 (by decide) ?_
      refine s_aloadn (pc := 37) C dX0_heightIn_37 rfl ?_
      refine s_getI (pc := 38) C fl_X0_24 hq0 rfl dX0_heightIn_38 ?_
      exact s_iret (pc := 41) C hr hlk dX0_heightIn_41 (congrArg (fun z => some (Value.int z)) (rt hf).1) (rt hf).2
    · replace hf := ifn h_2 hf
      by_cases h_3 : a1 = 4
      · replace hf := ifp h_3 hf
        refine s_tsw (pc := 1) (off := 31) (tgt := 32) C h_3 dX0_heightIn_1 (by decide) ?_
        refine s_aloadn (pc := 32) C dX0_heightIn_32 rfl ?_
        refine s_getI (pc := 33) C fl_X0_21 hq0 rfl dX0_heightIn_33 ?_
        exact s_iret (pc := 36) C hr hlk dX0_heightIn_36 (congrArg (fun z => some (Value.int z)) (rt hf).1) (rt hf).2
      · replace hf := ifn h_3 hf
        by_cases h_4 : a1 = 5
        · replace hf := ifp h_4 hf
          refine s_tsw (pc := 1) (off := 31) (tgt := 32) C h_4 dX0_heightIn_1 (by decide) ?_
          refine s_aloadn (pc := 32) C dX0_heightIn_32 rfl ?_
          refine s_getI (pc := 33) C fl_X0_21 hq0 rfl dX0_heightIn_33 ?_
          exact s_iret (pc := 36) C hr hlk dX0_heightIn_36 (congrArg (fun z => some (Value.int z)) (rt hf).1) (rt hf).2
        · replace hf := ifn h_4 hf
          have ho : (Int32.toInt a1) < 2 ∨ 5 < Int32.toInt a1 := by
            have z2 := lv_neT h_1 (a := 2) (by decide)
            have z3 := lv_neT h_2 (a := 3) (by decide)
            have z4 := lv_neT h_3 (a := 4) (by decide)
            have z5 := lv_neT h_4 (a := 5) (by decide)
            omega
          refine s_tswD (pc := 1) (tgt := 42) C ho dX0_heightIn_1 (by decide) ?_
          refine s_aloadn (pc := 42) C dX0_heightIn_42 rfl ?_
          refine s_getI (pc := 43) C fl_X0_27 hq0 rfl dX0_heightIn_43 ?_
          exact s_iret (pc := 46) C hr hlk dX0_heightIn_46 (congrArg (fun z => some (Value.int z)) (rt hf).1) (rt hf).2
def lp_X0_isLikeOneLet_2 (N : Nat) (q0 : Nat) (a1 : Int32) : Nat → Int32 → Int32 → St → Option (Int32 × St)
  | 0, _, _, _ => none
  | n + 1, v1, v2, σ =>
    if v1 ≤ v2 then
      some (0, σ)
    else
      bn (f_X0_lets N q0 v2 σ) fun r_1 τ_1 =>
      if r_1 = 0 then
        lp_X0_isLikeOneLet_2 N q0 a1  n v1 (v2 + 1) τ_1
      else
        bn (f_X0_widthIn N q0 v2 τ_1) fun r_2 τ_2 =>
        bn (f_X0_widthIn N q0 v1 τ_2) fun r_3 τ_3 =>
        if r_2 = r_3 then
          bn (f_X0_depthIn N q0 v2 τ_3) fun r_4 τ_4 =>
          bn (f_X0_depthIn N q0 v1 τ_4) fun r_5 τ_5 =>
          if r_4 = r_5 then
            bn (f_X0_heightIn N q0 v2 τ_5) fun r_6 τ_6 =>
            bn (f_X0_heightIn N q0 v1 τ_6) fun r_7 τ_7 =>
            if r_6 = r_7 then
              some (1, τ_7)
            else
              lp_X0_isLikeOneLet_2 N q0 a1  n v1 (v2 + 1) τ_7
          else
            lp_X0_isLikeOneLet_2 N q0 a1  n v1 (v2 + 1) τ_5
        else
          lp_X0_isLikeOneLet_2 N q0 a1  n v1 (v2 + 1) τ_3
set_option maxRecDepth 100000 in
set_option maxHeartbeats 4000000 in
theorem w_X0_isLikeOneLet_2 {l : Launch} {D : va_G} {ca : Nat → ClassId} {ad : Nat → Nat} {p : Program} {e : Env} {s : State} {m : MethodId} {args : Array Value} {below : List Frame} {meth : Method} {c : Code} {A : Nat → Prop} (C : CX p s m args c D ca A RX0 cX0_isLikeOneLet 3) (hr : meth.sig.returnType = (some .boolean)) (hlk : meth.locks = false) (N : Nat) (q0 : Nat) (hq0 : SH[q0]? = some oPiece) (a1 : Int32) (r : Int32) (τ : St)  : ∀ (n : Nat) (v1 v2 : Int32) (σ : St), lp_X0_isLikeOneLet_2 N q0 a1  n v1 v2 σ = some (r, τ) → WW p l e (rmk 2) s m args below meth c 0 0 (EQ D ca ad SH A below args s (some (.int r)) τ) A D ca ad SH 2 [some (.ref (ad q0)), some (.int v1), some (.int v2)] [] σ := by
  intro n
  induction n with
  | zero => intro v1 v2 σ hf; cases hf
  | succ n ih =>
    intro v1 v2 σ hf
    rw [lp_X0_isLikeOneLet_2] at hf
    refine s_iloadn (pc := 2) C dX0_isLikeOneLet_2 rfl ?_
    refine s_iloadn (pc := 3) C dX0_isLikeOneLet_3 rfl ?_
    refine s_icmp_ge (pc := 4) (tgt := 62) C dX0_isLikeOneLet_4 (by decide) (fun h_1 => ?_) (fun h_1 => ?_)
    · replace hf := ifp h_1 hf
      refine s_iconst (pc := 62) (v := 0) C dX0_isLikeOneLet_62 (by decide) ?_
      exact s_zret (pc := 63) C hr hlk dX0_isLikeOneLet_63 (by decide) (congrArg (fun z => some (Value.int z)) (rt hf).1) (rt hf).2
    · replace hf := ifn h_1 hf
      refine s_aloadn (pc := 7) C dX0_isLikeOneLet_7 rfl ?_
      refine s_iloadn (pc := 8) C dX0_isLikeOneLet_8 rfl ?_
      obtain ⟨r_1, τ_1, e_1, hf⟩ := bnd hf
      refine s_callV (pc := 9) (rest := []) C rfl (c_X0_lets l D ca ad N q0 hq0 v2 σ r_1 τ_1 e_1) kv_X0_50 ⟨rfl, rfl⟩ (by decide) hq0 ⟨_, rfl, rfl⟩ rfl rfl (Nat.le_of_ble_eq_true rfl) dX0_isLikeOneLet_9 ⟨Nat.zero_le _, Nat.zero_le _⟩ ?_
      refine s_st (st' := [.int r_1]) rfl ?_
      refine s_if_eq (pc := 12) (tgt := 56) C dX0_isLikeOneLet_12 (by decide) (fun h_2 => ?_) (fun h_2 => ?_)
      · replace hf := ifp h_2 hf
        refine s_iinc (pc := 56) (v := (v2 + 1)) (lo' := [some (.ref (ad q0)), some (.int v1), some (.int (v2 + 1))]) C dX0_isLikeOneLet_56 rfl rfl rfl ?_
        refine s_goto (pc := 59) (tgt := 2) C dX0_isLikeOneLet_59 (by decide) ?_
        refine s_few (lo' := [some (.ref (ad q0)), some (.int v1), some (.int (v2 + 1))]) (lfS (lfS (lfS lf0))) ?_
        exact ih v1 (v2 + 1) τ_1 hf
      · replace hf := ifn h_2 hf
        refine s_aloadn (pc := 15) C dX0_isLikeOneLet_15 rfl ?_
        refine s_iloadn (pc := 16) C dX0_isLikeOneLet_16 rfl ?_
        obtain ⟨r_2, τ_2, e_2, hf⟩ := bnd hf
        refine s_callV (pc := 17) (rest := []) C rfl (c_X0_widthIn l D ca ad N q0 hq0 v2 τ_1 r_2 τ_2 e_2) kv_X0_53 ⟨rfl, rfl⟩ (by decide) hq0 ⟨_, rfl, rfl⟩ rfl rfl (Nat.le_of_ble_eq_true rfl) dX0_isLikeOneLet_17 ⟨Nat.zero_le _, Nat.zero_le _⟩ ?_
        refine s_st (st' := [.int r_2]) rfl ?_
        refine s_aloadn (pc := 20) C dX0_isLikeOneLet_20 rfl ?_
        refine s_iloadn (pc := 21) C dX0_isLikeOneLet_21 rfl ?_
        obtain ⟨r_3, τ_3, e_3, hf⟩ := bnd hf
        refine s_callV (pc := 22) (rest := [.int r_2]) C rfl (c_X0_widthIn l D ca ad N q0 hq0 v1 τ_2 r_3 τ_3 e_3) kv_X0_53 ⟨rfl, rfl⟩ (by decide) hq0 ⟨_, rfl, rfl⟩ rfl rfl (Nat.le_of_ble_eq_true rfl) dX0_isLikeOneLet_22 ⟨Nat.zero_le _, Nat.zero_le _⟩ ?_
        refine s_st (st' := [.int r_3, .int r_2]) rfl ?_
        refine s_icmp_ne (pc := 25) (tgt := 56) C dX0_isLikeOneLet_25 (by decide) (fun h_3 => ?_) (fun h_3 => ?_)
        · replace hf := ifn h_3 hf
          refine s_iinc (pc := 56) (v := (v2 + 1)) (lo' := [some (.ref (ad q0)), some (.int v1), some (.int (v2 + 1))]) C dX0_isLikeOneLet_56 rfl rfl rfl ?_
          refine s_goto (pc := 59) (tgt := 2) C dX0_isLikeOneLet_59 (by decide) ?_
          refine s_few (lo' := [some (.ref (ad q0)), some (.int v1), some (.int (v2 + 1))]) (lfS (lfS (lfS lf0))) ?_
          exact ih v1 (v2 + 1) τ_3 hf
        · replace hf := ifp h_3 hf
          refine s_aloadn (pc := 28) C dX0_isLikeOneLet_28 rfl ?_
          refine s_iloadn (pc := 29) C dX0_isLikeOneLet_29 rfl ?_
          obtain ⟨r_4, τ_4, e_4, hf⟩ := bnd hf
          refine s_callV (pc := 30) (rest := []) C rfl (c_X0_depthIn l D ca ad N q0 hq0 v2 τ_3 r_4 τ_4 e_4) kv_X0_56 ⟨rfl, rfl⟩ (by decide) hq0 ⟨_, rfl, rfl⟩ rfl rfl (Nat.le_of_ble_eq_true rfl) dX0_isLikeOneLet_30 ⟨Nat.zero_le _, Nat.zero_le _⟩ ?_
          refine s_st (st' := [.int r_4]) rfl ?_
          refine s_aloadn (pc := 33) C dX0_isLikeOneLet_33 rfl ?_
          refine s_iloadn (pc := 34) C dX0_isLikeOneLet_34 rfl ?_
          obtain ⟨r_5, τ_5, e_5, hf⟩ := bnd hf
          refine s_callV (pc := 35) (rest := [.int r_4]) C rfl (c_X0_depthIn l D ca ad N q0 hq0 v1 τ_4 r_5 τ_5 e_5) kv_X0_56 ⟨rfl, rfl⟩ (by decide) hq0 ⟨_, rfl, rfl⟩ rfl rfl (Nat.le_of_ble_eq_true rfl) dX0_isLikeOneLet_35 ⟨Nat.zero_le _, Nat.zero_le _⟩ ?_
          refine s_st (st' := [.int r_5, .int r_4]) rfl ?_
          refine s_icmp_ne (pc := 38) (tgt := 56) C dX0_isLikeOneLet_38 (by decide) (fun h_4 => ?_) (fun h_4 => ?_)
          · replace hf := ifn h_4 hf
            refine s_iinc (pc := 56) (v := (v2 + 1)) (lo' := [some (.ref (ad q0)), some (.int v1), some (.int (v2 + 1))]) C dX0_isLikeOneLet_56 rfl rfl rfl ?_
            refine s_goto (pc := 59) (tgt := 2) C dX0_isLikeOneLet_59 (by decide) ?_
            refine s_few (lo' := [some (.ref (ad q0)), some (.int v1), some (.int (v2 + 1))]) (lfS (lfS (lfS lf0))) ?_
            exact ih v1 (v2 + 1) τ_5 hf
          · replace hf := ifp h_4 hf
            refine s_aloadn (pc := 41) C dX0_isLikeOneLet_41 rfl ?_
            refine s_iloadn (pc := 42) C dX0_isLikeOneLet_42 rfl ?_
            obtain ⟨r_6, τ_6, e_6, hf⟩ := bnd hf
            refine s_callV (pc := 43) (rest := []) C rfl (c_X0_heightIn l D ca ad N q0 hq0 v2 τ_5 r_6 τ_6 e_6) kv_X0_59 ⟨rfl, rfl⟩ (by decide) hq0 ⟨_, rfl, rfl⟩ rfl rfl (Nat.le_of_ble_eq_true rfl) dX0_isLikeOneLet_43 ⟨Nat.zero_le _, Nat.zero_le _⟩ ?_
            refine s_st (st' := [.int r_6]) rfl ?_
            refine s_aloadn (pc := 46) C dX0_isLikeOneLet_46 rfl ?_
            refine s_iloadn (pc := 47) C dX0_isLikeOneLet_47 rfl ?_
            obtain ⟨r_7, τ_7, e_7, hf⟩ := bnd hf
            refine s_callV (pc := 48) (rest := [.int r_6]) C rfl (c_X0_heightIn l D ca ad N q0 hq0 v1 τ_6 r_7 τ_7 e_7) kv_X0_59 ⟨rfl, rfl⟩ (by decide) hq0 ⟨_, rfl, rfl⟩ rfl rfl (Nat.le_of_ble_eq_true rfl) dX0_isLikeOneLet_48 ⟨Nat.zero_le _, Nat.zero_le _⟩ ?_
            refine s_st (st' := [.int r_7, .int r_6]) rfl ?_
            refine s_icmp_ne (pc := 51) (tgt := 56) C dX0_isLikeOneLet_51 (by decide) (fun h_5 => ?_) (fun h_5 => ?_)
            · replace hf := ifn h_5 hf
              refine s_iinc (pc := 56) (v := (v2 + 1)) (lo' := [some (.ref (ad q0)), some (.int v1), some (.int (v2 + 1))]) C dX0_isLikeOneLet_56 rfl rfl rfl ?_
              refine s_goto (pc := 59) (tgt := 2) C dX0_isLikeOneLet_59 (by decide) ?_
              refine s_few (lo' := [some (.ref (ad q0)), some (.int v1), some (.int (v2 + 1))]) (lfS (lfS (lfS lf0))) ?_
              exact ih v1 (v2 + 1) τ_7 hf
            · replace hf := ifp h_5 hf
              refine s_iconst (pc := 54) (v := 1) C dX0_isLikeOneLet_54 (by decide) ?_
              exact s_zret (pc := 55) C hr hlk dX0_isLikeOneLet_55 (by decide) (congrArg (fun z => some (Value.int z)) (rt hf).1) (rt hf).2
def f_X0_isLikeOneLet (N : Nat) (q0 : Nat) (a1 : Int32) (σ : St) : Option (Int32 × St) :=
  lp_X0_isLikeOneLet_2 N q0 a1 N a1 0 σ
set_option maxRecDepth 100000 in
set_option maxHeartbeats 4000000 in
theorem c_X0_isLikeOneLet (l : Launch) (D : va_G) (ca : Nat → ClassId) (ad : Nat → Nat) (N : Nat) (q0 : Nat) (hq0 : SH[q0]? = some oPiece) (a1 : Int32) (σ : St) (r : Int32) (τ : St) (hf : f_X0_isLikeOneLet N q0 a1 σ = some (r, τ)) : cM l yX0_isLikeOneLet (.code yX0_isLikeOneLet cX0_isLikeOneLet 3 (some .boolean)) (rmk 2) D ca ad SH [.ref (ad q0), .int a1] σ (some (.int r)) τ := by
  refine cM.intro2 (own := RX0) (lo := [some (.ref (ad q0)), some (.int a1), none]) (by decide) rfl (ccR (ccI cc0)) (Nat.le_of_ble_eq_true rfl) rfl ?_
  intro p e s m args below meth c A C hr hlk
  unfold f_X0_isLikeOneLet at hf
  refine s_iconst (pc := 0) (v := 0) C dX0_isLikeOneLet_0 (by decide) ?_
  refine s_istoren (pc := 1) (lo' := [some (.ref (ad q0)), some (.int a1), some (.int 0)]) C dX0_isLikeOneLet_1 (Nat.le_of_ble_eq_true rfl) rfl ?_
  refine s_few (lo' := [some (.ref (ad q0)), some (.int a1), some (.int 0)]) (lfS (lfS (lfS lf0))) ?_
  exact w_X0_isLikeOneLet_2 C hr hlk N q0 hq0 a1 r τ  N a1 0 σ hf
def lp_X0_mark_7 (N : Nat) (q0 : Nat) (a1 : Int32) : Nat → Int32 → Int32 → St → Option (St)
  | 0, _, _, _ => none
  | n + 1, v1, v2, σ =>
    if 6 ≤ v2 then
      some σ
    else
      bn (f_X0_marksFor N v2 σ) fun r_1 τ_1 =>
      if (v1 &&& r_1) = r_1 then
        bn (f_X0_isLikeOneLet N q0 v2 τ_1) fun r_2 τ_2 =>
        if r_2 = 0 then
          lp_X0_mark_7 N q0 a1  n v1 (v2 + 1) (su τ_2 q0 4 ((τ_2 q0 4) ||| (1 <<< (v2 &&& 31))))
        else
          lp_X0_mark_7 N q0 a1  n v1 (v2 + 1) τ_2
      else
        lp_X0_mark_7 N q0 a1  n v1 (v2 + 1) τ_1
set_option maxRecDepth 100000 in
set_option maxHeartbeats 4000000 in
theorem w_X0_mark_7 {l : Launch} {D : va_G} {ca : Nat → ClassId} {ad : Nat → Nat} {p : Program} {e : Env} {s : State} {m : MethodId} {args : Array Value} {below : List Frame} {meth : Method} {c : Code} {A : Nat → Prop} (C : CX p s m args c D ca A RX0 cX0_mark 4) (hr : meth.sig.returnType = none) (hlk : meth.locks = false) (N : Nat) (q0 : Nat) (hq0 : SH[q0]? = some oPiece) (a1 : Int32) (τ : St)  : ∀ (n : Nat) (v1 v2 : Int32) (σ : St), lp_X0_mark_7 N q0 a1  n v1 v2 σ = some τ → WW p l e (rmk 3) s m args below meth c 0 0 (EQ D ca ad SH A below args s none τ) A D ca ad SH 7 [some (.ref (ad q0)), some (.int v1), some (.int v2), none] [] σ := by
  intro n
  induction n with
  | zero => intro v1 v2 σ hf; cases hf
  | succ n ih =>
    intro v1 v2 σ hf
    rw [lp_X0_mark_7] at hf
    refine s_iloadn (pc := 7) C dX0_mark_7 rfl ?_
    refine s_bipush (pc := 8) (v := 6) C dX0_mark_8 (by decide) ?_
    refine s_icmp_ge (pc := 10) (tgt := 51) C dX0_mark_10 (by decide) (fun h_1 => ?_) (fun h_1 => ?_)
    · replace hf := ifp h_1 hf
      exact s_vret (pc := 51) C hr hlk dX0_mark_51 rfl (rtv hf)
    · replace hf := ifn h_1 hf
      refine s_iloadn (pc := 13) C dX0_mark_13 rfl ?_
      obtain ⟨r_1, τ_1, e_1, hf⟩ := bnd hf
      refine s_callO (pc := 14) (rest := []) C rfl (c_X0_marksFor l D ca ad N v2 σ r_1 τ_1 e_1) ko_X0_43 ⟨rfl, rfl⟩ (by decide) rfl rfl (Nat.le_of_ble_eq_true rfl) dX0_mark_14 ⟨Nat.zero_le _, Nat.zero_le _⟩ ?_
      refine s_st (st' := [.int r_1]) rfl ?_
      refine s_istoren (pc := 17) (lo' := [some (.ref (ad q0)), some (.int v1), some (.int v2), some (.int r_1)]) C dX0_mark_17 (Nat.le_of_ble_eq_true rfl) rfl ?_
      refine s_iloadn (pc := 18) C dX0_mark_18 rfl ?_
      refine s_iloadn (pc := 19) C dX0_mark_19 rfl ?_
      refine s_iand (pc := 20) C dX0_mark_20 ?_
      refine s_iloadn (pc := 21) C dX0_mark_21 rfl ?_
      refine s_icmp_ne (pc := 22) (tgt := 45) C dX0_mark_22 (by decide) (fun h_2 => ?_) (fun h_2 => ?_)
      · replace hf := ifn h_2 hf
        refine s_iinc (pc := 45) (v := (v2 + 1)) (lo' := [some (.ref (ad q0)), some (.int v1), some (.int (v2 + 1)), some (.int r_1)]) C dX0_mark_45 rfl rfl rfl ?_
        refine s_goto (pc := 48) (tgt := 7) C dX0_mark_48 (by decide) ?_
        refine s_few (lo' := [some (.ref (ad q0)), some (.int v1), some (.int (v2 + 1)), none]) (lfS (lfS (lfS (lfN lf0)))) ?_
        exact ih v1 (v2 + 1) τ_1 hf
      · replace hf := ifp h_2 hf
        refine s_aloadn (pc := 25) C dX0_mark_25 rfl ?_
        refine s_iloadn (pc := 26) C dX0_mark_26 rfl ?_
        obtain ⟨r_2, τ_2, e_2, hf⟩ := bnd hf
        refine s_callV (pc := 27) (rest := []) C rfl (c_X0_isLikeOneLet l D ca ad N q0 hq0 v2 τ_1 r_2 τ_2 e_2) kv_X0_46 ⟨rfl, rfl⟩ (by decide) hq0 ⟨_, rfl, rfl⟩ rfl rfl (Nat.le_of_ble_eq_true rfl) dX0_mark_27 ⟨Nat.zero_le _, Nat.zero_le _⟩ ?_
        refine s_st (st' := [.int r_2]) rfl ?_
        refine s_if_ne (pc := 30) (tgt := 45) C dX0_mark_30 (by decide) (fun h_3 => ?_) (fun h_3 => ?_)
        · replace hf := ifn h_3 hf
          refine s_iinc (pc := 45) (v := (v2 + 1)) (lo' := [some (.ref (ad q0)), some (.int v1), some (.int (v2 + 1)), some (.int r_1)]) C dX0_mark_45 rfl rfl rfl ?_
          refine s_goto (pc := 48) (tgt := 7) C dX0_mark_48 (by decide) ?_
          refine s_few (lo' := [some (.ref (ad q0)), some (.int v1), some (.int (v2 + 1)), none]) (lfS (lfS (lfS (lfN lf0)))) ?_
          exact ih v1 (v2 + 1) τ_2 hf
        · replace hf := ifp h_3 hf
          refine s_aloadn (pc := 33) C dX0_mark_33 rfl ?_
          refine s_dup (pc := 34) C dX0_mark_34 rfl ?_
          refine s_getI (pc := 35) C fl_X0_9 hq0 rfl dX0_mark_35 ?_
          refine s_iconst (pc := 38) (v := 1) C dX0_mark_38 (by decide) ?_
          refine s_iloadn (pc := 39) C dX0_mark_39 rfl ?_
          refine s_ishl (pc := 40) C dX0_mark_40 ?_
          refine s_ior (pc := 41) C dX0_mark_41 ?_
          refine s_putI (pc := 42) C fp_X0_9 hq0 rfl dX0_mark_42 ?_
          refine s_iinc (pc := 45) (v := (v2 + 1)) (lo' := [some (.ref (ad q0)), some (.int v1), some (.int (v2 + 1)), some (.int r_1)]) C dX0_mark_45 rfl rfl rfl ?_
          refine s_goto (pc := 48) (tgt := 7) C dX0_mark_48 (by decide) ?_
          refine s_few (lo' := [some (.ref (ad q0)), some (.int v1), some (.int (v2 + 1)), none]) (lfS (lfS (lfS (lfN lf0)))) ?_
          exact ih v1 (v2 + 1) (su τ_2 q0 4 ((τ_2 q0 4) ||| (1 <<< (v2 &&& 31)))) hf
def f_X0_mark (N : Nat) (q0 : Nat) (a1 : Int32) (σ : St) : Option (St) :=
  lp_X0_mark_7 N q0 a1 N a1 0 (su σ q0 4 0)
set_option maxRecDepth 100000 in
set_option maxHeartbeats 4000000 in
theorem c_X0_mark (l : Launch) (D : va_G) (ca : Nat → ClassId) (ad : Nat → Nat) (N : Nat) (q0 : Nat) (hq0 : SH[q0]? = some oPiece) (a1 : Int32) (σ : St) (τ : St) (hf : f_X0_mark N q0 a1 σ = some τ) : cM l yX0_mark (.code yX0_mark cX0_mark 4 none) (rmk 3) D ca ad SH [.ref (ad q0), .int a1] σ none τ := by
  refine cM.intro2 (own := RX0) (lo := [some (.ref (ad q0)), some (.int a1), none, none]) (by decide) rfl (ccR (ccI cc0)) (Nat.le_of_ble_eq_true rfl) rfl ?_
  intro p e s m args below meth c A C hr hlk
  unfold f_X0_mark at hf
  refine s_aloadn (pc := 0) C dX0_mark_0 rfl ?_
  refine s_iconst (pc := 1) (v := 0) C dX0_mark_1 (by decide) ?_
  refine s_putI (pc := 2) C fp_X0_9 hq0 rfl dX0_mark_2 ?_
  refine s_iconst (pc := 5) (v := 0) C dX0_mark_5 (by decide) ?_
  refine s_istoren (pc := 6) (lo' := [some (.ref (ad q0)), some (.int a1), some (.int 0), none]) C dX0_mark_6 (Nat.le_of_ble_eq_true rfl) rfl ?_
  refine s_few (lo' := [some (.ref (ad q0)), some (.int a1), some (.int 0), none]) (lfS (lfS (lfS (lfN lf0)))) ?_
  exact w_X0_mark_7 C hr hlk N q0 hq0 a1 τ  N a1 0 (su σ q0 4 0) hf
