def f_X4_held (N : Nat) (a0 : Int32) (σ : St) : Option (Int32 × St) :=
  if 1 ≤ a0 then
    if a0 ≤ 8 then
      some (a0, σ)
    else
      some (8, σ)
  else
    some (1, σ)
set_option maxRecDepth 100000 in
set_option maxHeartbeats 4000000 in
theorem c_X4_held (l : Launch) (D : va_G) (ca : Nat → ClassId) (ad : Nat → Nat) (N : Nat) (a0 : Int32) (σ : St) (r : Int32) (τ : St) (hf : f_X4_held N a0 σ = some (r, τ)) : cM l yX4_held (.code yX4_held cX4_held 1 (some .int)) (rmk 0) D ca ad SH [.int a0] σ (some (.int r)) τ := by
  refine cM.intro2 (own := RX4) (lo := [some (.int a0)]) (by decide) rfl (ccI cc0) (Nat.le_of_ble_eq_true rfl) rfl ?_
  intro p e s m args below meth c A C hr hlk
  unfold f_X4_held at hf
  refine s_iloadn (pc := 0) C dX4_held_0 rfl ?_
  refine s_iconst (pc := 1) (v := 1) C dX4_held_1 (by decide) ?_
  refine s_icmp_ge (pc := 2) (tgt := 9) C dX4_held_2 (by decide) (fun h_1 => ?_) (fun h_1 => ?_)
  · replace hf := ifp h_1 hf
    refine s_iloadn (pc := 9) C dX4_held_9 rfl ?_
    refine s_bipush (pc := 10) (v := 8) C dX4_held_10 (by decide) ?_
    refine s_icmp_le (pc := 12) (tgt := 20) C dX4_held_12 (by decide) (fun h_2 => ?_) (fun h_2 => ?_)
    · replace hf := ifp h_2 hf
      refine s_iloadn (pc := 20) C dX4_held_20 rfl ?_
      exact s_iret (pc := 21) C hr hlk dX4_held_21 (congrArg (fun z => some (Value.int z)) (rt hf).1) (rt hf).2
    · replace hf := ifn h_2 hf
      refine s_bipush (pc := 15) (v := 8) C dX4_held_15 (by decide) ?_
      refine s_goto (pc := 17) (tgt := 21) C dX4_held_17 (by decide) ?_
      exact s_iret (pc := 21) C hr hlk dX4_held_21 (congrArg (fun z => some (Value.int z)) (rt hf).1) (rt hf).2
  · replace hf := ifn h_1 hf
    refine s_iconst (pc := 5) (v := 1) C dX4_held_5 (by decide) ?_
    refine s_goto (pc := 6) (tgt := 21) C dX4_held_6 (by decide) ?_
    exact s_iret (pc := 21) C hr hlk dX4_held_21 (congrArg (fun z => some (Value.int z)) (rt hf).1) (rt hf).2
def f_X4_not (N : Nat) (a0 : Int32) (a1 : Int32) (a2 : Int32) (σ : St) : Option (Int32 × St) :=
  if a0 < a1 then
    some (1, σ)
  else
    if a0 ≤ a2 then
      some (0, σ)
    else
      some (1, σ)
set_option maxRecDepth 100000 in
set_option maxHeartbeats 4000000 in
theorem c_X4_not (l : Launch) (D : va_G) (ca : Nat → ClassId) (ad : Nat → Nat) (N : Nat) (a0 : Int32) (a1 : Int32) (a2 : Int32) (σ : St) (r : Int32) (τ : St) (hf : f_X4_not N a0 a1 a2 σ = some (r, τ)) : cM l yX4_not (.code yX4_not cX4_not 3 (some .boolean)) (rmk 0) D ca ad SH [.int a0, .int a1, .int a2] σ (some (.int r)) τ := by
  refine cM.intro2 (own := RX4) (lo := [some (.int a0), some (.int a1), some (.int a2)]) (by decide) rfl (ccI (ccI (ccI cc0))) (Nat.le_of_ble_eq_true rfl) rfl ?_
  intro p e s m args below meth c A C hr hlk
  unfold f_X4_not at hf
  refine s_iloadn (pc := 0) C dX4_not_0 rfl ?_
  refine s_iloadn (pc := 1) C dX4_not_1 rfl ?_
  refine s_icmp_lt (pc := 2) (tgt := 10) C dX4_not_2 (by decide) (fun h_1 => ?_) (fun h_1 => ?_)
  · replace hf := ifp h_1 hf
    refine s_iconst (pc := 10) (v := 1) C dX4_not_10 (by decide) ?_
    refine s_goto (pc := 11) (tgt := 15) C dX4_not_11 (by decide) ?_
    exact s_zret (pc := 15) C hr hlk dX4_not_15 (by decide) (congrArg (fun z => some (Value.int z)) (rt hf).1) (rt hf).2
  · replace hf := ifn h_1 hf
    refine s_iloadn (pc := 5) C dX4_not_5 rfl ?_
    refine s_iloadn (pc := 6) C dX4_not_6 rfl ?_
    refine s_icmp_le (pc := 7) (tgt := 14) C dX4_not_7 (by decide) (fun h_2 => ?_) (fun h_2 => ?_)
    · replace hf := ifp h_2 hf
      refine s_iconst (pc := 14) (v := 0) C dX4_not_14 (by decide) ?_
      exact s_zret (pc := 15) C hr hlk dX4_not_15 (by decide) (congrArg (fun z => some (Value.int z)) (rt hf).1) (rt hf).2
    · replace hf := ifn h_2 hf
      refine s_iconst (pc := 10) (v := 1) C dX4_not_10 (by decide) ?_
      refine s_goto (pc := 11) (tgt := 15) C dX4_not_11 (by decide) ?_
      exact s_zret (pc := 15) C hr hlk dX4_not_15 (by decide) (congrArg (fun z => some (Value.int z)) (rt hf).1) (rt hf).2
def f_X4_noPiece (N : Nat) (a1 : Int32) (σ : St) : Option (Int32 × St) :=
  if a1 < 0 then
    some (1, σ)
  else
    if a1 < (σ 25 4) then
      some (0, σ)
    else
      some (1, σ)
set_option maxRecDepth 100000 in
set_option maxHeartbeats 4000000 in
theorem c_X4_noPiece (l : Launch) (D : va_G) (ca : Nat → ClassId) (ad : Nat → Nat) (N : Nat) (a1 : Int32) (σ : St) (r : Int32) (τ : St) (hf : f_X4_noPiece N a1 σ = some (r, τ)) : cM l yX4_noPiece (.code yX4_noPiece cX4_noPiece 2 (some .boolean)) (rmk 0) D ca ad SH [.ref (ad 25), .int a1] σ (some (.int r)) τ := by
  refine cM.intro2 (own := RX4) (lo := [some (.ref (ad 25)), some (.int a1)]) (by decide) rfl (ccR (ccI cc0)) (Nat.le_of_ble_eq_true rfl) rfl ?_
  intro p e s m args below meth c A C hr hlk
  unfold f_X4_noPiece at hf
  refine s_iloadn (pc := 0) C dX4_noPiece_0 rfl ?_
  refine s_if_lt (pc := 1) (tgt := 12) C dX4_noPiece_1 (by decide) (fun h_1 => ?_) (fun h_1 => ?_)
  · replace hf := ifp h_1 hf
    refine s_iconst (pc := 12) (v := 1) C dX4_noPiece_12 (by decide) ?_
    refine s_goto (pc := 13) (tgt := 17) C dX4_noPiece_13 (by decide) ?_
    exact s_zret (pc := 17) C hr hlk dX4_noPiece_17 (by decide) (congrArg (fun z => some (Value.int z)) (rt hf).1) (rt hf).2
  · replace hf := ifn h_1 hf
    refine s_iloadn (pc := 4) C dX4_noPiece_4 rfl ?_
    refine s_aloadn (pc := 5) C dX4_noPiece_5 rfl ?_
    refine s_getI (pc := 6) C fl_X4_13 SH_25 rfl dX4_noPiece_6 ?_
    refine s_icmp_lt (pc := 9) (tgt := 16) C dX4_noPiece_9 (by decide) (fun h_2 => ?_) (fun h_2 => ?_)
    · replace hf := ifp h_2 hf
      refine s_iconst (pc := 16) (v := 0) C dX4_noPiece_16 (by decide) ?_
      exact s_zret (pc := 17) C hr hlk dX4_noPiece_17 (by decide) (congrArg (fun z => some (Value.int z)) (rt hf).1) (rt hf).2
    · replace hf := ifn h_2 hf
      refine s_iconst (pc := 12) (v := 1) C dX4_noPiece_12 (by decide) ?_
      refine s_goto (pc := 13) (tgt := 17) C dX4_noPiece_13 (by decide) ?_
      exact s_zret (pc := 17) C hr hlk dX4_noPiece_17 (by decide) (congrArg (fun z => some (Value.int z)) (rt hf).1) (rt hf).2
def f_X4_thrown (N : Nat)  (σ : St) : Option (Int32 × St) :=
  some ((σ 25 0), σ)
set_option maxRecDepth 100000 in
set_option maxHeartbeats 4000000 in
theorem c_X4_thrown (l : Launch) (D : va_G) (ca : Nat → ClassId) (ad : Nat → Nat) (N : Nat)  (σ : St) (r : Int32) (τ : St) (hf : f_X4_thrown N  σ = some (r, τ)) : cM l yX4_thrown (.code yX4_thrown cX4_thrown 1 (some .int)) (rmk 0) D ca ad SH [.ref (ad 25)] σ (some (.int r)) τ := by
  refine cM.intro2 (own := RX4) (lo := [some (.ref (ad 25))]) (by decide) rfl (ccR cc0) (Nat.le_of_ble_eq_true rfl) rfl ?_
  intro p e s m args below meth c A C hr hlk
  unfold f_X4_thrown at hf
  refine s_aloadn (pc := 0) C dX4_thrown_0 rfl ?_
  refine s_getI (pc := 1) C fl_X4_7 SH_25 rfl dX4_thrown_1 ?_
  exact s_iret (pc := 4) C hr hlk dX4_thrown_4 (congrArg (fun z => some (Value.int z)) (rt hf).1) (rt hf).2
def f_X4_from (N : Nat) (a0 : Int32) (a1 : Int32) (σ : St) : Option (Int32 × St) :=
  if a0 = 0 then
    some (a1, σ)
  else
    if a0 = 1 then
      if a1 = 0 then
        some (1, σ)
      else
        if a1 = 1 then
          some (0, σ)
        else
          some (2, σ)
    else
      if a0 = 2 then
        if a1 = 0 then
          some (0, σ)
        else
          if a1 = 1 then
            some (2, σ)
          else
            some (1, σ)
      else
        if a0 = 3 then
          if a1 = 0 then
            some (2, σ)
          else
            if a1 = 1 then
              some (0, σ)
            else
              some (1, σ)
        else
          if a0 = 4 then
            if a1 = 0 then
              some (1, σ)
            else
              if a1 = 1 then
                some (2, σ)
              else
                some (0, σ)
          else
            some ((2 - a1), σ)
set_option maxRecDepth 100000 in
set_option maxHeartbeats 4000000 in
theorem c_X4_from (l : Launch) (D : va_G) (ca : Nat → ClassId) (ad : Nat → Nat) (N : Nat) (a0 : Int32) (a1 : Int32) (σ : St) (r : Int32) (τ : St) (hf : f_X4_from N a0 a1 σ = some (r, τ)) : cM l yX4_from (.code yX4_from cX4_from 2 (some .int)) (rmk 0) D ca ad SH [.int a0, .int a1] σ (some (.int r)) τ := by
  refine cM.intro2 (own := RX4) (lo := [some (.int a0), some (.int a1)]) (by decide) rfl (ccI (ccI cc0)) (Nat.le_of_ble_eq_true rfl) rfl ?_
  intro p e s m args below meth c A C hr hlk
  unfold f_X4_from at hf
  refine s_iloadn (pc := 0) C dX4_from_0 rfl ?_
  by_cases h_1 : a0 = 0
  · replace hf := ifp h_1 hf
    refine s_tsw (pc := 1) (off := 35) (tgt := 36) C h_1 dX4_from_1 (by decide) ?_
    refine s_iloadn (pc := 36) C dX4_from_36 rfl ?_
    exact s_iret (pc := 37) C hr hlk dX4_from_37 (congrArg (fun z => some (Value.int z)) (rt hf).1) (rt hf).2
  · replace hf := ifn h_1 hf
    by_cases h_2 : a0 = 1
    · replace hf := ifp h_2 hf
      refine s_tsw (pc := 1) (off := 37) (tgt := 38) C h_2 dX4_from_1 (by decide) ?_
      refine s_iloadn (pc := 38) C dX4_from_38 rfl ?_
      refine s_if_ne (pc := 39) (tgt := 46) C dX4_from_39 (by decide) (fun h_3 => ?_) (fun h_3 => ?_)
      · replace hf := ifn h_3 hf
        refine s_iloadn (pc := 46) C dX4_from_46 rfl ?_
        refine s_iconst (pc := 47) (v := 1) C dX4_from_47 (by decide) ?_
        refine s_icmp_ne (pc := 48) (tgt := 55) C dX4_from_48 (by decide) (fun h_4 => ?_) (fun h_4 => ?_)
        · replace hf := ifn h_4 hf
          refine s_iconst (pc := 55) (v := 2) C dX4_from_55 (by decide) ?_
          exact s_iret (pc := 56) C hr hlk dX4_from_56 (congrArg (fun z => some (Value.int z)) (rt hf).1) (rt hf).2
        · replace hf := ifp h_4 hf
          refine s_iconst (pc := 51) (v := 0) C dX4_from_51 (by decide) ?_
          refine s_goto (pc := 52) (tgt := 56) C dX4_from_52 (by decide) ?_
          exact s_iret (pc := 56) C hr hlk dX4_from_56 (congrArg (fun z => some (Value.int z)) (rt hf).1) (rt hf).2
      · replace hf := ifp h_3 hf
        refine s_iconst (pc := 42) (v := 1) C dX4_from_42 (by decide) ?_
        refine s_goto (pc := 43) (tgt := 56) C dX4_from_43 (by decide) ?_
        exact s_iret (pc := 56) C hr hlk dX4_from_56 (congrArg (fun z => some (Value.int z)) (rt hf).1) (rt hf).2
    · replace hf := ifn h_2 hf
      by_cases h_5 : a0 = 2
      · replace hf := ifp h_5 hf
        refine s_tsw (pc := 1) (off := 56) (tgt := 57) C h_5 dX4_from_1 (by decide) ?_
        refine s_iloadn (pc := 57) C dX4_from_57 rfl ?_
        refine s_if_ne (pc := 58) (tgt := 65) C dX4_from_58 (by decide) (fun h_6 => ?_) (fun h_6 => ?_)
        · replace hf := ifn h_6 hf
          refine s_iloadn (pc := 65) C dX4_from_65 rfl ?_
          refine s_iconst (pc := 66) (v := 1) C dX4_from_66 (by decide) ?_
          refine s_icmp_ne (pc := 67) (tgt := 74) C dX4_from_67 (by decide) (fun h_7 => ?_) (fun h_7 => ?_)
          · replace hf := ifn h_7 hf
            refine s_iconst (pc := 74) (v := 1) C dX4_from_74 (by decide) ?_
            exact s_iret (pc := 75) C hr hlk dX4_from_75 (congrArg (fun z => some (Value.int z)) (rt hf).1) (rt hf).2
          · replace hf := ifp h_7 hf
            refine s_iconst (pc := 70) (v := 2) C dX4_from_70 (by decide) ?_
            refine s_goto (pc := 71) (tgt := 75) C dX4_from_71 (by decide) ?_
            exact s_iret (pc := 75) C hr hlk dX4_from_75 (congrArg (fun z => some (Value.int z)) (rt hf).1) (rt hf).2
        · replace hf := ifp h_6 hf
          refine s_iconst (pc := 61) (v := 0) C dX4_from_61 (by decide) ?_
          refine s_goto (pc := 62) (tgt := 75) C dX4_from_62 (by decide) ?_
          exact s_iret (pc := 75) C hr hlk dX4_from_75 (congrArg (fun z => some (Value.int z)) (rt hf).1) (rt hf).2
      · replace hf := ifn h_5 hf
        by_cases h_8 : a0 = 3
        · replace hf := ifp h_8 hf
          refine s_tsw (pc := 1) (off := 75) (tgt := 76) C h_8 dX4_from_1 (by decide) ?_
          refine s_iloadn (pc := 76) C dX4_from_76 rfl ?_
          refine s_if_ne (pc := 77) (tgt := 84) C dX4_from_77 (by decide) (fun h_9 => ?_) (fun h_9 => ?_)
          · replace hf := ifn h_9 hf
            refine s_iloadn (pc := 84) C dX4_from_84 rfl ?_
            refine s_iconst (pc := 85) (v := 1) C dX4_from_85 (by decide) ?_
            refine s_icmp_ne (pc := 86) (tgt := 93) C dX4_from_86 (by decide) (fun h_10 => ?_) (fun h_10 => ?_)
            · replace hf := ifn h_10 hf
              refine s_iconst (pc := 93) (v := 1) C dX4_from_93 (by decide) ?_
              exact s_iret (pc := 94) C hr hlk dX4_from_94 (congrArg (fun z => some (Value.int z)) (rt hf).1) (rt hf).2
            · replace hf := ifp h_10 hf
              refine s_iconst (pc := 89) (v := 0) C dX4_from_89 (by decide) ?_
              refine s_goto (pc := 90) (tgt := 94) C dX4_from_90 (by decide) ?_
              exact s_iret (pc := 94) C hr hlk dX4_from_94 (congrArg (fun z => some (Value.int z)) (rt hf).1) (rt hf).2
          · replace hf := ifp h_9 hf
            refine s_iconst (pc := 80) (v := 2) C dX4_from_80 (by decide) ?_
            refine s_goto (pc := 81) (tgt := 94) C dX4_from_81 (by decide) ?_
            exact s_iret (pc := 94) C hr hlk dX4_from_94 (congrArg (fun z => some (Value.int z)) (rt hf).1) (rt hf).2
        · replace hf := ifn h_8 hf
          by_cases h_11 : a0 = 4
          · replace hf := ifp h_11 hf
            refine s_tsw (pc := 1) (off := 94) (tgt := 95) C h_11 dX4_from_1 (by decide) ?_
            refine s_iloadn (pc := 95) C dX4_from_95 rfl ?_
            refine s_if_ne (pc := 96) (tgt := 103) C dX4_from_96 (by decide) (fun h_12 => ?_) (fun h_12 => ?_)
            · replace hf := ifn h_12 hf
              refine s_iloadn (pc := 103) C dX4_from_103 rfl ?_
              refine s_iconst (pc := 104) (v := 1) C dX4_from_104 (by decide) ?_
              refine s_icmp_ne (pc := 105) (tgt := 112) C dX4_from_105 (by decide) (fun h_13 => ?_) (fun h_13 => ?_)
              · replace hf := ifn h_13 hf
                refine s_iconst (pc := 112) (v := 0) C dX4_from_112 (by decide) ?_
                exact s_iret (pc := 113) C hr hlk dX4_from_113 (congrArg (fun z => some (Value.int z)) (rt hf).1) (rt hf).2
              · replace hf := ifp h_13 hf
                refine s_iconst (pc := 108) (v := 2) C dX4_from_108 (by decide) ?_
                refine s_goto (pc := 109) (tgt := 113) C dX4_from_109 (by decide) ?_
                exact s_iret (pc := 113) C hr hlk dX4_from_113 (congrArg (fun z => some (Value.int z)) (rt hf).1) (rt hf).2
            · replace hf := ifp h_12 hf
              refine s_iconst (pc := 99) (v := 1) C dX4_from_99 (by decide) ?_
              refine s_goto (pc := 100) (tgt := 113) C dX4_from_100 (by decide) ?_
              exact s_iret (pc := 113) C hr hlk dX4_from_113 (congrArg (fun z => some (Value.int z)) (rt hf).1) (rt hf).2
          · replace hf := ifn h_11 hf
            have ho : (Int32.toInt a0) < 0 ∨ 4 < Int32.toInt a0 := by
              have z0 := lv_neT h_1 (a := 0) (by decide)
              have z1 := lv_neT h_2 (a := 1) (by decide)
              have z2 := lv_neT h_5 (a := 2) (by decide)
              have z3 := lv_neT h_8 (a := 3) (by decide)
              have z4 := lv_neT h_11 (a := 4) (by decide)
              omega
            refine s_tswD (pc := 1) (tgt := 114) C ho dX4_from_1 (by decide) ?_
            refine s_iconst (pc := 114) (v := 2) C dX4_from_114 (by decide) ?_
            refine s_iloadn (pc := 115) C dX4_from_115 rfl ?_
            refine s_isub (pc := 116) C dX4_from_116 ?_
            exact s_iret (pc := 117) C hr hlk dX4_from_117 (congrArg (fun z => some (Value.int z)) (rt hf).1) (rt hf).2
def f_X4_measure (N : Nat) (a1 : Int32) (a2 : Int32) (a3 : Int32) (σ : St) : Option (Int32 × St) :=
  bn (f_X4_from N a2 a3 σ) fun r_1 τ_1 =>
  if inb ((3 * a1) + r_1) 18 = true then
  some ((τ_1 26 (ix ((3 * a1) + r_1))), τ_1)
  else none
set_option maxRecDepth 100000 in
set_option maxHeartbeats 4000000 in
theorem c_X4_measure (l : Launch) (D : va_G) (ca : Nat → ClassId) (ad : Nat → Nat) (N : Nat) (a1 : Int32) (a2 : Int32) (a3 : Int32) (σ : St) (r : Int32) (τ : St) (hf : f_X4_measure N a1 a2 a3 σ = some (r, τ)) : cM l yX4_measure (.code yX4_measure cX4_measure 4 (some .int)) (rmk 1) D ca ad SH [.ref (ad 25), .int a1, .int a2, .int a3] σ (some (.int r)) τ := by
  refine cM.intro2 (own := RX4) (lo := [some (.ref (ad 25)), some (.int a1), some (.int a2), some (.int a3)]) (by decide) rfl (ccR (ccI (ccI (ccI cc0)))) (Nat.le_of_ble_eq_true rfl) rfl ?_
  intro p e s m args below meth c A C hr hlk
  unfold f_X4_measure at hf
  refine s_aloadn (pc := 0) C dX4_measure_0 rfl ?_
  refine s_getR (pc := 1) (r := 26) C fl_X4_16 SH_25 rfl dX4_measure_1 ?_
  refine s_iconst (pc := 4) (v := 3) C dX4_measure_4 (by decide) ?_
  refine s_iloadn (pc := 5) C dX4_measure_5 rfl ?_
  refine s_imul (pc := 6) C dX4_measure_6 ?_
  refine s_iloadn (pc := 7) C dX4_measure_7 rfl ?_
  refine s_iloadn (pc := 8) C dX4_measure_8 rfl ?_
  obtain ⟨r_1, τ_1, e_1, hf⟩ := bnd hf
  refine s_callO (pc := 9) (rest := [.int (3 * a1), .ref (ad 26)]) C rfl (c_X4_from l D ca ad N a2 a3 σ r_1 τ_1 e_1) ko_X4_127 ⟨rfl, rfl⟩ (by decide) rfl rfl (Nat.le_of_ble_eq_true rfl) dX4_measure_9 ⟨Nat.zero_le _, Nat.zero_le _⟩ ?_
  refine s_st (st' := [.int r_1, .int (3 * a1), .ref (ad 26)]) rfl ?_
  refine s_iadd (pc := 12) C dX4_measure_12 ?_
  obtain ⟨g_1, hf⟩ := gd hf
  refine s_iald (pc := 13) C SH_26 (ty0 ca) g_1 dX4_measure_13 ?_
  exact s_iret (pc := 14) C hr hlk dX4_measure_14 (congrArg (fun z => some (Value.int z)) (rt hf).1) (rt hf).2
def f_X4_byMarks (N : Nat) (a1 : Int32) (a2 : Int32) (σ : St) : Option (Int32 × St) :=
  if a2 = 0 then
    some (1, σ)
  else
    if a2 = 1 then
      if inb a1 6 = true then
      if ((σ 28 (ix a1)) &&& 1) = 1 then
        some (1, σ)
      else
        some (0, σ)
      else none
    else
      if a2 = 2 then
        if inb a1 6 = true then
        if ((σ 28 (ix a1)) &&& 2) = 2 then
          some (1, σ)
        else
          some (0, σ)
        else none
      else
        if a2 = 4 then
          if inb a1 6 = true then
          if ((σ 28 (ix a1)) &&& 2) = 2 then
            some (1, σ)
          else
            some (0, σ)
          else none
        else
          if inb a1 6 = true then
          if (σ 28 (ix a1)) = 3 then
            some (1, σ)
          else
            some (0, σ)
          else none
set_option maxRecDepth 100000 in
set_option maxHeartbeats 4000000 in
theorem c_X4_byMarks (l : Launch) (D : va_G) (ca : Nat → ClassId) (ad : Nat → Nat) (N : Nat) (a1 : Int32) (a2 : Int32) (σ : St) (r : Int32) (τ : St) (hf : f_X4_byMarks N a1 a2 σ = some (r, τ)) : cM l yX4_byMarks (.code yX4_byMarks cX4_byMarks 3 (some .boolean)) (rmk 0) D ca ad SH [.ref (ad 25), .int a1, .int a2] σ (some (.int r)) τ := by
  refine cM.intro2 (own := RX4) (lo := [some (.ref (ad 25)), some (.int a1), some (.int a2)]) (by decide) rfl (ccR (ccI (ccI cc0))) (Nat.le_of_ble_eq_true rfl) rfl ?_
  intro p e s m args below meth c A C hr hlk
  unfold f_X4_byMarks at hf
  refine s_iloadn (pc := 0) C dX4_byMarks_0 rfl ?_
  refine s_if_ne (pc := 1) (tgt := 6) C dX4_byMarks_1 (by decide) (fun h_1 => ?_) (fun h_1 => ?_)
  · replace hf := ifn h_1 hf
    refine s_iloadn (pc := 6) C dX4_byMarks_6 rfl ?_
    refine s_iconst (pc := 7) (v := 1) C dX4_byMarks_7 (by decide) ?_
    refine s_icmp_ne (pc := 8) (tgt := 29) C dX4_byMarks_8 (by decide) (fun h_2 => ?_) (fun h_2 => ?_)
    · replace hf := ifn h_2 hf
      refine s_iloadn (pc := 29) C dX4_byMarks_29 rfl ?_
      refine s_iconst (pc := 30) (v := 2) C dX4_byMarks_30 (by decide) ?_
      refine s_icmp_eq (pc := 31) (tgt := 39) C dX4_byMarks_31 (by decide) (fun h_3 => ?_) (fun h_3 => ?_)
      · replace hf := ifp h_3 hf
        refine s_aloadn (pc := 39) C dX4_byMarks_39 rfl ?_
        refine s_getR (pc := 40) (r := 28) C fl_X4_23 SH_25 rfl dX4_byMarks_40 ?_
        refine s_iloadn (pc := 43) C dX4_byMarks_43 rfl ?_
        obtain ⟨g_1, hf⟩ := gd hf
        refine s_iald (pc := 44) C SH_28 (ty0 ca) g_1 dX4_byMarks_44 ?_
        refine s_iconst (pc := 45) (v := 2) C dX4_byMarks_45 (by decide) ?_
        refine s_iand (pc := 46) C dX4_byMarks_46 ?_
        refine s_iconst (pc := 47) (v := 2) C dX4_byMarks_47 (by decide) ?_
        refine s_icmp_ne (pc := 48) (tgt := 55) C dX4_byMarks_48 (by decide) (fun h_4 => ?_) (fun h_4 => ?_)
        · replace hf := ifn h_4 hf
          refine s_iconst (pc := 55) (v := 0) C dX4_byMarks_55 (by decide) ?_
          exact s_zret (pc := 56) C hr hlk dX4_byMarks_56 (by decide) (congrArg (fun z => some (Value.int z)) (rt hf).1) (rt hf).2
        · replace hf := ifp h_4 hf
          refine s_iconst (pc := 51) (v := 1) C dX4_byMarks_51 (by decide) ?_
          refine s_goto (pc := 52) (tgt := 56) C dX4_byMarks_52 (by decide) ?_
          exact s_zret (pc := 56) C hr hlk dX4_byMarks_56 (by decide) (congrArg (fun z => some (Value.int z)) (rt hf).1) (rt hf).2
      · replace hf := ifn h_3 hf
        refine s_iloadn (pc := 34) C dX4_byMarks_34 rfl ?_
        refine s_iconst (pc := 35) (v := 4) C dX4_byMarks_35 (by decide) ?_
        refine s_icmp_ne (pc := 36) (tgt := 57) C dX4_byMarks_36 (by decide) (fun h_5 => ?_) (fun h_5 => ?_)
        · replace hf := ifn h_5 hf
          refine s_aloadn (pc := 57) C dX4_byMarks_57 rfl ?_
          refine s_getR (pc := 58) (r := 28) C fl_X4_23 SH_25 rfl dX4_byMarks_58 ?_
          refine s_iloadn (pc := 61) C dX4_byMarks_61 rfl ?_
          obtain ⟨g_2, hf⟩ := gd hf
          refine s_iald (pc := 62) C SH_28 (ty0 ca) g_2 dX4_byMarks_62 ?_
          refine s_iconst (pc := 63) (v := 3) C dX4_byMarks_63 (by decide) ?_
          refine s_icmp_ne (pc := 64) (tgt := 71) C dX4_byMarks_64 (by decide) (fun h_6 => ?_) (fun h_6 => ?_)
          · replace hf := ifn h_6 hf
            refine s_iconst (pc := 71) (v := 0) C dX4_byMarks_71 (by decide) ?_
            exact s_zret (pc := 72) C hr hlk dX4_byMarks_72 (by decide) (congrArg (fun z => some (Value.int z)) (rt hf).1) (rt hf).2
          · replace hf := ifp h_6 hf
            refine s_iconst (pc := 67) (v := 1) C dX4_byMarks_67 (by decide) ?_
            refine s_goto (pc := 68) (tgt := 72) C dX4_byMarks_68 (by decide) ?_
            exact s_zret (pc := 72) C hr hlk dX4_byMarks_72 (by decide) (congrArg (fun z => some (Value.int z)) (rt hf).1) (rt hf).2
        · replace hf := ifp h_5 hf
          refine s_aloadn (pc := 39) C dX4_byMarks_39 rfl ?_
          refine s_getR (pc := 40) (r := 28) C fl_X4_23 SH_25 rfl dX4_byMarks_40 ?_
          refine s_iloadn (pc := 43) C dX4_byMarks_43 rfl ?_
          obtain ⟨g_3, hf⟩ := gd hf
          refine s_iald (pc := 44) C SH_28 (ty0 ca) g_3 dX4_byMarks_44 ?_
          refine s_iconst (pc := 45) (v := 2) C dX4_byMarks_45 (by decide) ?_
          refine s_iand (pc := 46) C dX4_byMarks_46 ?_
          refine s_iconst (pc := 47) (v := 2) C dX4_byMarks_47 (by decide) ?_
          refine s_icmp_ne (pc := 48) (tgt := 55) C dX4_byMarks_48 (by decide) (fun h_7 => ?_) (fun h_7 => ?_)
          · replace hf := ifn h_7 hf
            refine s_iconst (pc := 55) (v := 0) C dX4_byMarks_55 (by decide) ?_
            exact s_zret (pc := 56) C hr hlk dX4_byMarks_56 (by decide) (congrArg (fun z => some (Value.int z)) (rt hf).1) (rt hf).2
          · replace hf := ifp h_7 hf
            refine s_iconst (pc := 51) (v := 1) C dX4_byMarks_51 (by decide) ?_
            refine s_goto (pc := 52) (tgt := 56) C dX4_byMarks_52 (by decide) ?_
            exact s_zret (pc := 56) C hr hlk dX4_byMarks_56 (by decide) (congrArg (fun z => some (Value.int z)) (rt hf).1) (rt hf).2
    · replace hf := ifp h_2 hf
      refine s_aloadn (pc := 11) C dX4_byMarks_11 rfl ?_
      refine s_getR (pc := 12) (r := 28) C fl_X4_23 SH_25 rfl dX4_byMarks_12 ?_
      refine s_iloadn (pc := 15) C dX4_byMarks_15 rfl ?_
      obtain ⟨g_4, hf⟩ := gd hf
      refine s_iald (pc := 16) C SH_28 (ty0 ca) g_4 dX4_byMarks_16 ?_
      refine s_iconst (pc := 17) (v := 1) C dX4_byMarks_17 (by decide) ?_
      refine s_iand (pc := 18) C dX4_byMarks_18 ?_
      refine s_iconst (pc := 19) (v := 1) C dX4_byMarks_19 (by decide) ?_
      refine s_icmp_ne (pc := 20) (tgt := 27) C dX4_byMarks_20 (by decide) (fun h_8 => ?_) (fun h_8 => ?_)
      · replace hf := ifn h_8 hf
        refine s_iconst (pc := 27) (v := 0) C dX4_byMarks_27 (by decide) ?_
        exact s_zret (pc := 28) C hr hlk dX4_byMarks_28 (by decide) (congrArg (fun z => some (Value.int z)) (rt hf).1) (rt hf).2
      · replace hf := ifp h_8 hf
        refine s_iconst (pc := 23) (v := 1) C dX4_byMarks_23 (by decide) ?_
        refine s_goto (pc := 24) (tgt := 28) C dX4_byMarks_24 (by decide) ?_
        exact s_zret (pc := 28) C hr hlk dX4_byMarks_28 (by decide) (congrArg (fun z => some (Value.int z)) (rt hf).1) (rt hf).2
  · replace hf := ifp h_1 hf
    refine s_iconst (pc := 4) (v := 1) C dX4_byMarks_4 (by decide) ?_
    exact s_zret (pc := 5) C hr hlk dX4_byMarks_5 (by decide) (congrArg (fun z => some (Value.int z)) (rt hf).1) (rt hf).2
def lp_X4_let_29 (N : Nat) (a1 : Int32) (a2 : Int32) (k13 : Int32 → Int32 → Int32 → St → Option (Int32 × St)) : Nat → Int32 → Int32 → Int32 → Int32 → Int32 → St → Option (Int32 × St)
  | 0, _, _, _, _, _, _ => none
  | n + 1, v1, v2, v3, v4, v5, σ =>
    if 3 ≤ v5 then
      if v4 = 0 then
        k13 v1 v2 (v3 + 1) σ
      else
        some (0, σ)
    else
      if v4 = 0 then
        lp_X4_let_29 N a1 a2 k13 n v1 v2 v3 0 (v5 + 1) σ
      else
        bn (f_X4_measure N v1 v3 v5 σ) fun r_1 τ_1 =>
        bn (f_X4_measure N v1 v2 v5 τ_1) fun r_2 τ_2 =>
        if r_1 = r_2 then
          lp_X4_let_29 N a1 a2 k13 n v1 v2 v3 1 (v5 + 1) τ_2
        else
          lp_X4_let_29 N a1 a2 k13 n v1 v2 v3 0 (v5 + 1) τ_2
set_option maxRecDepth 100000 in
set_option maxHeartbeats 4000000 in
theorem w_X4_let_29 {l : Launch} {D : va_G} {ca : Nat → ClassId} {ad : Nat → Nat} {p : Program} {e : Env} {s : State} {m : MethodId} {args : Array Value} {below : List Frame} {meth : Method} {c : Code} {A : Nat → Prop} (C : CX p s m args c D ca A RX4 cX4_let 6) (hr : meth.sig.returnType = (some .boolean)) (hlk : meth.locks = false) (N : Nat) (a1 : Int32) (a2 : Int32) (r : Int32) (τ : St) (k13 : Int32 → Int32 → Int32 → St → Option (Int32 × St))  (hk13 : ∀ (w1 w2 w3 : Int32) (σ : St), k13 w1 w2 w3 σ = some (r, τ) → WW p l e (rmk 2) s m args below meth c 0 0 (EQ D ca ad SH A below args s (some (.int r)) τ) A D ca ad SH 13 [some (.ref (ad 25)), some (.int w1), some (.int w2), some (.int w3), none, none] [] σ) : ∀ (n : Nat) (v1 v2 v3 v4 v5 : Int32) (σ : St), lp_X4_let_29 N a1 a2 k13 n v1 v2 v3 v4 v5 σ = some (r, τ) → WW p l e (rmk 2) s m args below meth c 0 0 (EQ D ca ad SH A below args s (some (.int r)) τ) A D ca ad SH 29 [some (.ref (ad 25)), some (.int v1), some (.int v2), some (.int v3), some (.int v4), some (.int v5)] [] σ := by
  intro n
  induction n with
  | zero => intro v1 v2 v3 v4 v5 σ hf; cases hf
  | succ n ih =>
    intro v1 v2 v3 v4 v5 σ hf
    rw [lp_X4_let_29] at hf
    refine s_iload (pc := 29) C dX4_let_29 rfl ?_
    refine s_iconst (pc := 31) (v := 3) C dX4_let_31 (by decide) ?_
    refine s_icmp_ge (pc := 32) (tgt := 72) C dX4_let_32 (by decide) (fun h_1 => ?_) (fun h_1 => ?_)
    · replace hf := ifp h_1 hf
      refine s_iload (pc := 72) C dX4_let_72 rfl ?_
      refine s_if_eq (pc := 74) (tgt := 79) C dX4_let_74 (by decide) (fun h_2 => ?_) (fun h_2 => ?_)
      · replace hf := ifp h_2 hf
        refine s_iinc (pc := 79) (v := (v3 + 1)) (lo' := [some (.ref (ad 25)), some (.int v1), some (.int v2), some (.int (v3 + 1)), some (.int v4), some (.int v5)]) C dX4_let_79 rfl rfl rfl ?_
        refine s_goto (pc := 82) (tgt := 13) C dX4_let_82 (by decide) ?_
        refine s_few (lo' := [some (.ref (ad 25)), some (.int v1), some (.int v2), some (.int (v3 + 1)), none, none]) (lfS (lfS (lfS (lfS (lfN (lfN lf0)))))) ?_
        exact hk13 v1 v2 (v3 + 1) σ hf
      · replace hf := ifn h_2 hf
        refine s_iconst (pc := 77) (v := 0) C dX4_let_77 (by decide) ?_
        exact s_zret (pc := 78) C hr hlk dX4_let_78 (by decide) (congrArg (fun z => some (Value.int z)) (rt hf).1) (rt hf).2
    · replace hf := ifn h_1 hf
      refine s_iload (pc := 35) C dX4_let_35 rfl ?_
      refine s_if_eq (pc := 37) (tgt := 63) C dX4_let_37 (by decide) (fun h_3 => ?_) (fun h_3 => ?_)
      · replace hf := ifp h_3 hf
        refine s_iconst (pc := 63) (v := 0) C dX4_let_63 (by decide) ?_
        refine s_istore (pc := 64) (lo' := [some (.ref (ad 25)), some (.int v1), some (.int v2), some (.int v3), some (.int 0), some (.int v5)]) C dX4_let_64 (Nat.le_of_ble_eq_true rfl) rfl ?_
        refine s_iinc (pc := 66) (v := (v5 + 1)) (lo' := [some (.ref (ad 25)), some (.int v1), some (.int v2), some (.int v3), some (.int 0), some (.int (v5 + 1))]) C dX4_let_66 rfl rfl rfl ?_
        refine s_goto (pc := 69) (tgt := 29) C dX4_let_69 (by decide) ?_
        refine s_few (lo' := [some (.ref (ad 25)), some (.int v1), some (.int v2), some (.int v3), some (.int 0), some (.int (v5 + 1))]) (lfS (lfS (lfS (lfS (lfS (lfS lf0)))))) ?_
        exact ih v1 v2 v3 0 (v5 + 1) σ hf
      · replace hf := ifn h_3 hf
        refine s_aloadn (pc := 40) C dX4_let_40 rfl ?_
        refine s_iloadn (pc := 41) C dX4_let_41 rfl ?_
        refine s_iloadn (pc := 42) C dX4_let_42 rfl ?_
        refine s_iload (pc := 43) C dX4_let_43 rfl ?_
        obtain ⟨r_1, τ_1, e_1, hf⟩ := bnd hf
        refine s_callV (pc := 45) (rest := []) C rfl (c_X4_measure l D ca ad N v1 v3 v5 σ r_1 τ_1 e_1) kv_X4_135 ⟨rfl, rfl⟩ (by decide) SH_25 ⟨_, rfl, rfl⟩ rfl rfl (Nat.le_of_ble_eq_true rfl) dX4_let_45 ⟨Nat.zero_le _, Nat.zero_le _⟩ ?_
        refine s_st (st' := [.int r_1]) rfl ?_
        refine s_aloadn (pc := 48) C dX4_let_48 rfl ?_
        refine s_iloadn (pc := 49) C dX4_let_49 rfl ?_
        refine s_iloadn (pc := 50) C dX4_let_50 rfl ?_
        refine s_iload (pc := 51) C dX4_let_51 rfl ?_
        obtain ⟨r_2, τ_2, e_2, hf⟩ := bnd hf
        refine s_callV (pc := 53) (rest := [.int r_1]) C rfl (c_X4_measure l D ca ad N v1 v2 v5 τ_1 r_2 τ_2 e_2) kv_X4_135 ⟨rfl, rfl⟩ (by decide) SH_25 ⟨_, rfl, rfl⟩ rfl rfl (Nat.le_of_ble_eq_true rfl) dX4_let_53 ⟨Nat.zero_le _, Nat.zero_le _⟩ ?_
        refine s_st (st' := [.int r_2, .int r_1]) rfl ?_
        refine s_icmp_ne (pc := 56) (tgt := 63) C dX4_let_56 (by decide) (fun h_4 => ?_) (fun h_4 => ?_)
        · replace hf := ifn h_4 hf
          refine s_iconst (pc := 63) (v := 0) C dX4_let_63 (by decide) ?_
          refine s_istore (pc := 64) (lo' := [some (.ref (ad 25)), some (.int v1), some (.int v2), some (.int v3), some (.int 0), some (.int v5)]) C dX4_let_64 (Nat.le_of_ble_eq_true rfl) rfl ?_
          refine s_iinc (pc := 66) (v := (v5 + 1)) (lo' := [some (.ref (ad 25)), some (.int v1), some (.int v2), some (.int v3), some (.int 0), some (.int (v5 + 1))]) C dX4_let_66 rfl rfl rfl ?_
          refine s_goto (pc := 69) (tgt := 29) C dX4_let_69 (by decide) ?_
          refine s_few (lo' := [some (.ref (ad 25)), some (.int v1), some (.int v2), some (.int v3), some (.int 0), some (.int (v5 + 1))]) (lfS (lfS (lfS (lfS (lfS (lfS lf0)))))) ?_
          exact ih v1 v2 v3 0 (v5 + 1) τ_2 hf
        · replace hf := ifp h_4 hf
          refine s_iconst (pc := 59) (v := 1) C dX4_let_59 (by decide) ?_
          refine s_goto (pc := 60) (tgt := 64) C dX4_let_60 (by decide) ?_
          refine s_istore (pc := 64) (lo' := [some (.ref (ad 25)), some (.int v1), some (.int v2), some (.int v3), some (.int 1), some (.int v5)]) C dX4_let_64 (Nat.le_of_ble_eq_true rfl) rfl ?_
          refine s_iinc (pc := 66) (v := (v5 + 1)) (lo' := [some (.ref (ad 25)), some (.int v1), some (.int v2), some (.int v3), some (.int 1), some (.int (v5 + 1))]) C dX4_let_66 rfl rfl rfl ?_
          refine s_goto (pc := 69) (tgt := 29) C dX4_let_69 (by decide) ?_
          refine s_few (lo' := [some (.ref (ad 25)), some (.int v1), some (.int v2), some (.int v3), some (.int 1), some (.int (v5 + 1))]) (lfS (lfS (lfS (lfS (lfS (lfS lf0)))))) ?_
          exact ih v1 v2 v3 1 (v5 + 1) τ_2 hf
def lp_X4_let_13 (N : Nat) (a1 : Int32) (a2 : Int32) : Nat → Int32 → Int32 → Int32 → St → Option (Int32 × St)
  | 0, _, _, _, _ => none
  | n + 1, v1, v2, v3, σ =>
    if v2 ≤ v3 then
      some (1, σ)
    else
      bn (f_X4_byMarks N v1 v3 σ) fun r_1 τ_1 =>
      lp_X4_let_29 N a1 a2 (fun w1 w2 w3 σ => lp_X4_let_13 N a1 a2  n w1 w2 w3 σ) N v1 v2 v3 r_1 0 τ_1
set_option maxRecDepth 100000 in
set_option maxHeartbeats 4000000 in
theorem w_X4_let_13 {l : Launch} {D : va_G} {ca : Nat → ClassId} {ad : Nat → Nat} {p : Program} {e : Env} {s : State} {m : MethodId} {args : Array Value} {below : List Frame} {meth : Method} {c : Code} {A : Nat → Prop} (C : CX p s m args c D ca A RX4 cX4_let 6) (hr : meth.sig.returnType = (some .boolean)) (hlk : meth.locks = false) (N : Nat) (a1 : Int32) (a2 : Int32) (r : Int32) (τ : St)  : ∀ (n : Nat) (v1 v2 v3 : Int32) (σ : St), lp_X4_let_13 N a1 a2  n v1 v2 v3 σ = some (r, τ) → WW p l e (rmk 2) s m args below meth c 0 0 (EQ D ca ad SH A below args s (some (.int r)) τ) A D ca ad SH 13 [some (.ref (ad 25)), some (.int v1), some (.int v2), some (.int v3), none, none] [] σ := by
  intro n
  induction n with
  | zero => intro v1 v2 v3 σ hf; cases hf
  | succ n ih =>
    intro v1 v2 v3 σ hf
    rw [lp_X4_let_13] at hf
    refine s_iloadn (pc := 13) C dX4_let_13 rfl ?_
    refine s_iloadn (pc := 14) C dX4_let_14 rfl ?_
    refine s_icmp_ge (pc := 15) (tgt := 85) C dX4_let_15 (by decide) (fun h_1 => ?_) (fun h_1 => ?_)
    · replace hf := ifp h_1 hf
      refine s_iconst (pc := 85) (v := 1) C dX4_let_85 (by decide) ?_
      exact s_zret (pc := 86) C hr hlk dX4_let_86 (by decide) (congrArg (fun z => some (Value.int z)) (rt hf).1) (rt hf).2
    · replace hf := ifn h_1 hf
      refine s_aloadn (pc := 18) C dX4_let_18 rfl ?_
      refine s_iloadn (pc := 19) C dX4_let_19 rfl ?_
      refine s_iloadn (pc := 20) C dX4_let_20 rfl ?_
      obtain ⟨r_1, τ_1, e_1, hf⟩ := bnd hf
      refine s_callV (pc := 21) (rest := []) C rfl (c_X4_byMarks l D ca ad N v1 v3 σ r_1 τ_1 e_1) kv_X4_131 ⟨rfl, rfl⟩ (by decide) SH_25 ⟨_, rfl, rfl⟩ rfl rfl (Nat.le_of_ble_eq_true rfl) dX4_let_21 ⟨Nat.zero_le _, Nat.zero_le _⟩ ?_
      refine s_st (st' := [.int r_1]) rfl ?_
      refine s_istore (pc := 24) (lo' := [some (.ref (ad 25)), some (.int v1), some (.int v2), some (.int v3), some (.int r_1), none]) C dX4_let_24 (Nat.le_of_ble_eq_true rfl) rfl ?_
      refine s_iconst (pc := 26) (v := 0) C dX4_let_26 (by decide) ?_
      refine s_istore (pc := 27) (lo' := [some (.ref (ad 25)), some (.int v1), some (.int v2), some (.int v3), some (.int r_1), some (.int 0)]) C dX4_let_27 (Nat.le_of_ble_eq_true rfl) rfl ?_
      refine s_few (lo' := [some (.ref (ad 25)), some (.int v1), some (.int v2), some (.int v3), some (.int r_1), some (.int 0)]) (lfS (lfS (lfS (lfS (lfS (lfS lf0)))))) ?_
      exact w_X4_let_29 C hr hlk N a1 a2 r τ (fun w1 w2 w3 σ => lp_X4_let_13 N a1 a2  n w1 w2 w3 σ) (fun w1 w2 w3 σ h => ih w1 w2 w3 σ h) N v1 v2 v3 r_1 0 τ_1 hf
def f_X4_let (N : Nat) (a1 : Int32) (a2 : Int32) (σ : St) : Option (Int32 × St) :=
  bn (f_X4_byMarks N a1 a2 σ) fun r_1 τ_1 =>
  if r_1 = 0 then
    some (0, τ_1)
  else
    lp_X4_let_13 N a1 a2 N a1 a2 0 τ_1
set_option maxRecDepth 100000 in
set_option maxHeartbeats 4000000 in
theorem c_X4_let (l : Launch) (D : va_G) (ca : Nat → ClassId) (ad : Nat → Nat) (N : Nat) (a1 : Int32) (a2 : Int32) (σ : St) (r : Int32) (τ : St) (hf : f_X4_let N a1 a2 σ = some (r, τ)) : cM l yX4_let (.code yX4_let cX4_let 6 (some .boolean)) (rmk 2) D ca ad SH [.ref (ad 25), .int a1, .int a2] σ (some (.int r)) τ := by
  refine cM.intro2 (own := RX4) (lo := [some (.ref (ad 25)), some (.int a1), some (.int a2), none, none, none]) (by decide) rfl (ccR (ccI (ccI cc0))) (Nat.le_of_ble_eq_true rfl) rfl ?_
  intro p e s m args below meth c A C hr hlk
  unfold f_X4_let at hf
  refine s_aloadn (pc := 0) C dX4_let_0 rfl ?_
  refine s_iloadn (pc := 1) C dX4_let_1 rfl ?_
  refine s_iloadn (pc := 2) C dX4_let_2 rfl ?_
  obtain ⟨r_1, τ_1, e_1, hf⟩ := bnd hf
  refine s_callV (pc := 3) (rest := []) C rfl (c_X4_byMarks l D ca ad N a1 a2 σ r_1 τ_1 e_1) kv_X4_131 ⟨rfl, rfl⟩ (by decide) SH_25 ⟨_, rfl, rfl⟩ rfl rfl (Nat.le_of_ble_eq_true rfl) dX4_let_3 ⟨Nat.zero_le _, Nat.zero_le _⟩ ?_
  refine s_st (st' := [.int r_1]) rfl ?_
  refine s_if_ne (pc := 6) (tgt := 11) C dX4_let_6 (by decide) (fun h_1 => ?_) (fun h_1 => ?_)
  · replace hf := ifn h_1 hf
    refine s_iconst (pc := 11) (v := 0) C dX4_let_11 (by decide) ?_
    refine s_istoren (pc := 12) (lo' := [some (.ref (ad 25)), some (.int a1), some (.int a2), some (.int 0), none, none]) C dX4_let_12 (Nat.le_of_ble_eq_true rfl) rfl ?_
    refine s_few (lo' := [some (.ref (ad 25)), some (.int a1), some (.int a2), some (.int 0), none, none]) (lfS (lfS (lfS (lfS (lfN (lfN lf0)))))) ?_
    exact w_X4_let_13 C hr hlk N a1 a2 r τ  N a1 a2 0 τ_1 hf
  · replace hf := ifp h_1 hf
    refine s_iconst (pc := 9) (v := 0) C dX4_let_9 (by decide) ?_
    exact s_zret (pc := 10) C hr hlk dX4_let_10 (by decide) (congrArg (fun z => some (Value.int z)) (rt hf).1) (rt hf).2
def f_X4_stand (N : Nat) (a1 : Int32) (a2 : Int32) (a3 : Int32) (a4 : Int32) (a5 : Int32) (σ : St) : Option (St) :=
  if inb a1 6 = true then
  if inb a1 6 = true then
  if inb a1 6 = true then
  if inb a1 6 = true then
  bn (f_X4_measure N a1 a2 0 (su (su (su (su σ 32 (ix a1) a2) 33 (ix a1) a3) 34 (ix a1) a4) 35 (ix a1) a5)) fun r_1 τ_1 =>
  if inb a1 6 = true then
  bn (f_X4_measure N a1 a2 1 (su τ_1 36 (ix a1) r_1)) fun r_2 τ_2 =>
  if inb a1 6 = true then
  bn (f_X4_measure N a1 a2 2 (su τ_2 37 (ix a1) r_2)) fun r_3 τ_3 =>
  if inb a1 6 = true then
  some (su τ_3 38 (ix a1) r_3)
  else none
  else none
  else none
  else none
  else none
  else none
  else none
set_option maxRecDepth 100000 in
set_option maxHeartbeats 4000000 in
theorem c_X4_stand (l : Launch) (D : va_G) (ca : Nat → ClassId) (ad : Nat → Nat) (N : Nat) (a1 : Int32) (a2 : Int32) (a3 : Int32) (a4 : Int32) (a5 : Int32) (σ : St) (τ : St) (hf : f_X4_stand N a1 a2 a3 a4 a5 σ = some τ) : cM l yX4_stand (.code yX4_stand cX4_stand 6 none) (rmk 2) D ca ad SH [.ref (ad 25), .int a1, .int a2, .int a3, .int a4, .int a5] σ none τ := by
  refine cM.intro2 (own := RX4) (lo := [some (.ref (ad 25)), some (.int a1), some (.int a2), some (.int a3), some (.int a4), some (.int a5)]) (by decide) rfl (ccR (ccI (ccI (ccI (ccI (ccI cc0)))))) (Nat.le_of_ble_eq_true rfl) rfl ?_
  intro p e s m args below meth c A C hr hlk
  unfold f_X4_stand at hf
  refine s_aloadn (pc := 0) C dX4_stand_0 rfl ?_
  refine s_getR (pc := 1) (r := 32) C fl_X4_41 SH_25 rfl dX4_stand_1 ?_
  refine s_iloadn (pc := 4) C dX4_stand_4 rfl ?_
  refine s_iloadn (pc := 5) C dX4_stand_5 rfl ?_
  obtain ⟨g_1, hf⟩ := gd hf
  refine s_iast (pc := 6) C SH_32 (ty0 ca) g_1 dX4_stand_6 ?_
  refine s_aloadn (pc := 7) C dX4_stand_7 rfl ?_
  refine s_getR (pc := 8) (r := 33) C fl_X4_44 SH_25 rfl dX4_stand_8 ?_
  refine s_iloadn (pc := 11) C dX4_stand_11 rfl ?_
  refine s_iloadn (pc := 12) C dX4_stand_12 rfl ?_
  obtain ⟨g_2, hf⟩ := gd hf
  refine s_iast (pc := 13) C SH_33 (ty0 ca) g_2 dX4_stand_13 ?_
  refine s_aloadn (pc := 14) C dX4_stand_14 rfl ?_
  refine s_getR (pc := 15) (r := 34) C fl_X4_47 SH_25 rfl dX4_stand_15 ?_
  refine s_iloadn (pc := 18) C dX4_stand_18 rfl ?_
  refine s_iload (pc := 19) C dX4_stand_19 rfl ?_
  obtain ⟨g_3, hf⟩ := gd hf
  refine s_iast (pc := 21) C SH_34 (ty0 ca) g_3 dX4_stand_21 ?_
  refine s_aloadn (pc := 22) C dX4_stand_22 rfl ?_
  refine s_getR (pc := 23) (r := 35) C fl_X4_50 SH_25 rfl dX4_stand_23 ?_
  refine s_iloadn (pc := 26) C dX4_stand_26 rfl ?_
  refine s_iload (pc := 27) C dX4_stand_27 rfl ?_
  obtain ⟨g_4, hf⟩ := gd hf
  refine s_iast (pc := 29) C SH_35 (ty0 ca) g_4 dX4_stand_29 ?_
  refine s_aloadn (pc := 30) C dX4_stand_30 rfl ?_
  refine s_getR (pc := 31) (r := 36) C fl_X4_53 SH_25 rfl dX4_stand_31 ?_
  refine s_iloadn (pc := 34) C dX4_stand_34 rfl ?_
  refine s_aloadn (pc := 35) C dX4_stand_35 rfl ?_
  refine s_iloadn (pc := 36) C dX4_stand_36 rfl ?_
  refine s_iloadn (pc := 37) C dX4_stand_37 rfl ?_
  refine s_iconst (pc := 38) (v := 0) C dX4_stand_38 (by decide) ?_
  obtain ⟨r_1, τ_1, e_1, hf⟩ := bnd hf
  refine s_callV (pc := 39) (rest := [.int a1, .ref (ad 36)]) C rfl (c_X4_measure l D ca ad N a1 a2 0 (su (su (su (su σ 32 (ix a1) a2) 33 (ix a1) a3) 34 (ix a1) a4) 35 (ix a1) a5) r_1 τ_1 e_1) kv_X4_135 ⟨rfl, rfl⟩ (by decide) SH_25 ⟨_, rfl, rfl⟩ rfl rfl (Nat.le_of_ble_eq_true rfl) dX4_stand_39 ⟨Nat.zero_le _, Nat.zero_le _⟩ ?_
  refine s_st (st' := [.int r_1, .int a1, .ref (ad 36)]) rfl ?_
  obtain ⟨g_5, hf⟩ := gd hf
  refine s_iast (pc := 42) C SH_36 (ty0 ca) g_5 dX4_stand_42 ?_
  refine s_aloadn (pc := 43) C dX4_stand_43 rfl ?_
  refine s_getR (pc := 44) (r := 37) C fl_X4_56 SH_25 rfl dX4_stand_44 ?_
  refine s_iloadn (pc := 47) C dX4_stand_47 rfl ?_
  refine s_aloadn (pc := 48) C dX4_stand_48 rfl ?_
  refine s_iloadn (pc := 49) C dX4_stand_49 rfl ?_
  refine s_iloadn (pc := 50) C dX4_stand_50 rfl ?_
  refine s_iconst (pc := 51) (v := 1) C dX4_stand_51 (by decide) ?_
  obtain ⟨r_2, τ_2, e_2, hf⟩ := bnd hf
  refine s_callV (pc := 52) (rest := [.int a1, .ref (ad 37)]) C rfl (c_X4_measure l D ca ad N a1 a2 1 (su τ_1 36 (ix a1) r_1) r_2 τ_2 e_2) kv_X4_135 ⟨rfl, rfl⟩ (by decide) SH_25 ⟨_, rfl, rfl⟩ rfl rfl (Nat.le_of_ble_eq_true rfl) dX4_stand_52 ⟨Nat.zero_le _, Nat.zero_le _⟩ ?_
  refine s_st (st' := [.int r_2, .int a1, .ref (ad 37)]) rfl ?_
  obtain ⟨g_6, hf⟩ := gd hf
  refine s_iast (pc := 55) C SH_37 (ty0 ca) g_6 dX4_stand_55 ?_
  refine s_aloadn (pc := 56) C dX4_stand_56 rfl ?_
  refine s_getR (pc := 57) (r := 38) C fl_X4_59 SH_25 rfl dX4_stand_57 ?_
  refine s_iloadn (pc := 60) C dX4_stand_60 rfl ?_
  refine s_aloadn (pc := 61) C dX4_stand_61 rfl ?_
  refine s_iloadn (pc := 62) C dX4_stand_62 rfl ?_
  refine s_iloadn (pc := 63) C dX4_stand_63 rfl ?_
  refine s_iconst (pc := 64) (v := 2) C dX4_stand_64 (by decide) ?_
  obtain ⟨r_3, τ_3, e_3, hf⟩ := bnd hf
  refine s_callV (pc := 65) (rest := [.int a1, .ref (ad 38)]) C rfl (c_X4_measure l D ca ad N a1 a2 2 (su τ_2 37 (ix a1) r_2) r_3 τ_3 e_3) kv_X4_135 ⟨rfl, rfl⟩ (by decide) SH_25 ⟨_, rfl, rfl⟩ rfl rfl (Nat.le_of_ble_eq_true rfl) dX4_stand_65 ⟨Nat.zero_le _, Nat.zero_le _⟩ ?_
  refine s_st (st' := [.int r_3, .int a1, .ref (ad 38)]) rfl ?_
  obtain ⟨g_7, hf⟩ := gd hf
  refine s_iast (pc := 68) C SH_38 (ty0 ca) g_7 dX4_stand_68 ?_
  exact s_vret (pc := 69) C hr hlk dX4_stand_69 rfl (rtv hf)
def f_X4_common (N : Nat) (a0 : Int32) (a1 : Int32) (a2 : Int32) (a3 : Int32) (σ : St) : Option (Int32 × St) :=
  if a0 ≤ a2 then
    if (a2 + a3) ≤ (a0 + a1) then
      if (a2 + a3) ≤ a2 then
        some (0, σ)
      else
        some (((a2 + a3) - a2), σ)
    else
      if (a0 + a1) ≤ a2 then
        some (0, σ)
      else
        some (((a0 + a1) - a2), σ)
  else
    if (a2 + a3) ≤ (a0 + a1) then
      if (a2 + a3) ≤ a0 then
        some (0, σ)
      else
        some (((a2 + a3) - a0), σ)
    else
      if (a0 + a1) ≤ a0 then
        some (0, σ)
      else
        some (((a0 + a1) - a0), σ)
set_option maxRecDepth 100000 in
set_option maxHeartbeats 4000000 in
theorem c_X4_common (l : Launch) (D : va_G) (ca : Nat → ClassId) (ad : Nat → Nat) (N : Nat) (a0 : Int32) (a1 : Int32) (a2 : Int32) (a3 : Int32) (σ : St) (r : Int32) (τ : St) (hf : f_X4_common N a0 a1 a2 a3 σ = some (r, τ)) : cM l yX4_common (.code yX4_common cX4_common 6 (some .int)) (rmk 0) D ca ad SH [.int a0, .int a1, .int a2, .int a3] σ (some (.int r)) τ := by
  refine cM.intro2 (own := RX4) (lo := [some (.int a0), some (.int a1), some (.int a2), some (.int a3), none, none]) (by decide) rfl (ccI (ccI (ccI (ccI cc0)))) (Nat.le_of_ble_eq_true rfl) rfl ?_
  intro p e s m args below meth c A C hr hlk
  unfold f_X4_common at hf
  refine s_iloadn (pc := 0) C dX4_common_0 rfl ?_
  refine s_iloadn (pc := 1) C dX4_common_1 rfl ?_
  refine s_icmp_le (pc := 2) (tgt := 9) C dX4_common_2 (by decide) (fun h_1 => ?_) (fun h_1 => ?_)
  · replace hf := ifp h_1 hf
    refine s_iloadn (pc := 9) C dX4_common_9 rfl ?_
    refine s_istore (pc := 10) (lo' := [some (.int a0), some (.int a1), some (.int a2), some (.int a3), some (.int a2), none]) C dX4_common_10 (Nat.le_of_ble_eq_true rfl) rfl ?_
    refine s_iloadn (pc := 12) C dX4_common_12 rfl ?_
    refine s_iloadn (pc := 13) C dX4_common_13 rfl ?_
    refine s_iadd (pc := 14) C dX4_common_14 ?_
    refine s_iloadn (pc := 15) C dX4_common_15 rfl ?_
    refine s_iloadn (pc := 16) C dX4_common_16 rfl ?_
    refine s_iadd (pc := 17) C dX4_common_17 ?_
    refine s_icmp_ge (pc := 18) (tgt := 27) C dX4_common_18 (by decide) (fun h_2 => ?_) (fun h_2 => ?_)
    · replace hf := ifp h_2 hf
      refine s_iloadn (pc := 27) C dX4_common_27 rfl ?_
      refine s_iloadn (pc := 28) C dX4_common_28 rfl ?_
      refine s_iadd (pc := 29) C dX4_common_29 ?_
      refine s_istore (pc := 30) (lo' := [some (.int a0), some (.int a1), some (.int a2), some (.int a3), some (.int a2), some (.int (a2 + a3))]) C dX4_common_30 (Nat.le_of_ble_eq_true rfl) rfl ?_
      refine s_iload (pc := 32) C dX4_common_32 rfl ?_
      refine s_iload (pc := 34) C dX4_common_34 rfl ?_
      refine s_icmp_le (pc := 36) (tgt := 47) C dX4_common_36 (by decide) (fun h_3 => ?_) (fun h_3 => ?_)
      · replace hf := ifp h_3 hf
        refine s_iconst (pc := 47) (v := 0) C dX4_common_47 (by decide) ?_
        exact s_iret (pc := 48) C hr hlk dX4_common_48 (congrArg (fun z => some (Value.int z)) (rt hf).1) (rt hf).2
      · replace hf := ifn h_3 hf
        refine s_iload (pc := 39) C dX4_common_39 rfl ?_
        refine s_iload (pc := 41) C dX4_common_41 rfl ?_
        refine s_isub (pc := 43) C dX4_common_43 ?_
        refine s_goto (pc := 44) (tgt := 48) C dX4_common_44 (by decide) ?_
        exact s_iret (pc := 48) C hr hlk dX4_common_48 (congrArg (fun z => some (Value.int z)) (rt hf).1) (rt hf).2
    · replace hf := ifn h_2 hf
      refine s_iloadn (pc := 21) C dX4_common_21 rfl ?_
      refine s_iloadn (pc := 22) C dX4_common_22 rfl ?_
      refine s_iadd (pc := 23) C dX4_common_23 ?_
      refine s_goto (pc := 24) (tgt := 30) C dX4_common_24 (by decide) ?_
      refine s_istore (pc := 30) (lo' := [some (.int a0), some (.int a1), some (.int a2), some (.int a3), some (.int a2), some (.int (a0 + a1))]) C dX4_common_30 (Nat.le_of_ble_eq_true rfl) rfl ?_
      refine s_iload (pc := 32) C dX4_common_32 rfl ?_
      refine s_iload (pc := 34) C dX4_common_34 rfl ?_
      refine s_icmp_le (pc := 36) (tgt := 47) C dX4_common_36 (by decide) (fun h_4 => ?_) (fun h_4 => ?_)
      · replace hf := ifp h_4 hf
        refine s_iconst (pc := 47) (v := 0) C dX4_common_47 (by decide) ?_
        exact s_iret (pc := 48) C hr hlk dX4_common_48 (congrArg (fun z => some (Value.int z)) (rt hf).1) (rt hf).2
      · replace hf := ifn h_4 hf
        refine s_iload (pc := 39) C dX4_common_39 rfl ?_
        refine s_iload (pc := 41) C dX4_common_41 rfl ?_
        refine s_isub (pc := 43) C dX4_common_43 ?_
        refine s_goto (pc := 44) (tgt := 48) C dX4_common_44 (by decide) ?_
        exact s_iret (pc := 48) C hr hlk dX4_common_48 (congrArg (fun z => some (Value.int z)) (rt hf).1) (rt hf).2
  · replace hf := ifn h_1 hf
    refine s_iloadn (pc := 5) C dX4_common_5 rfl ?_
    refine s_goto (pc := 6) (tgt := 10) C dX4_common_6 (by decide) ?_
    refine s_istore (pc := 10) (lo' := [some (.int a0), some (.int a1), some (.int a2), some (.int a3), some (.int a0), none]) C dX4_common_10 (Nat.le_of_ble_eq_true rfl) rfl ?_
    refine s_iloadn (pc := 12) C dX4_common_12 rfl ?_
    refine s_iloadn (pc := 13) C dX4_common_13 rfl ?_
    refine s_iadd (pc := 14) C dX4_common_14 ?_
    refine s_iloadn (pc := 15) C dX4_common_15 rfl ?_
    refine s_iloadn (pc := 16) C dX4_common_16 rfl ?_
    refine s_iadd (pc := 17) C dX4_common_17 ?_
    refine s_icmp_ge (pc := 18) (tgt := 27) C dX4_common_18 (by decide) (fun h_5 => ?_) (fun h_5 => ?_)
    · replace hf := ifp h_5 hf
      refine s_iloadn (pc := 27) C dX4_common_27 rfl ?_
      refine s_iloadn (pc := 28) C dX4_common_28 rfl ?_
      refine s_iadd (pc := 29) C dX4_common_29 ?_
      refine s_istore (pc := 30) (lo' := [some (.int a0), some (.int a1), some (.int a2), some (.int a3), some (.int a0), some (.int (a2 + a3))]) C dX4_common_30 (Nat.le_of_ble_eq_true rfl) rfl ?_
      refine s_iload (pc := 32) C dX4_common_32 rfl ?_
      refine s_iload (pc := 34) C dX4_common_34 rfl ?_
      refine s_icmp_le (pc := 36) (tgt := 47) C dX4_common_36 (by decide) (fun h_6 => ?_) (fun h_6 => ?_)
      · replace hf := ifp h_6 hf
        refine s_iconst (pc := 47) (v := 0) C dX4_common_47 (by decide) ?_
        exact s_iret (pc := 48) C hr hlk dX4_common_48 (congrArg (fun z => some (Value.int z)) (rt hf).1) (rt hf).2
      · replace hf := ifn h_6 hf
        refine s_iload (pc := 39) C dX4_common_39 rfl ?_
        refine s_iload (pc := 41) C dX4_common_41 rfl ?_
        refine s_isub (pc := 43) C dX4_common_43 ?_
        refine s_goto (pc := 44) (tgt := 48) C dX4_common_44 (by decide) ?_
        exact s_iret (pc := 48) C hr hlk dX4_common_48 (congrArg (fun z => some (Value.int z)) (rt hf).1) (rt hf).2
    · replace hf := ifn h_5 hf
      refine s_iloadn (pc := 21) C dX4_common_21 rfl ?_
      refine s_iloadn (pc := 22) C dX4_common_22 rfl ?_
      refine s_iadd (pc := 23) C dX4_common_23 ?_
      refine s_goto (pc := 24) (tgt := 30) C dX4_common_24 (by decide) ?_
      refine s_istore (pc := 30) (lo' := [some (.int a0), some (.int a1), some (.int a2), some (.int a3), some (.int a0), some (.int (a0 + a1))]) C dX4_common_30 (Nat.le_of_ble_eq_true rfl) rfl ?_
      refine s_iload (pc := 32) C dX4_common_32 rfl ?_
      refine s_iload (pc := 34) C dX4_common_34 rfl ?_
      refine s_icmp_le (pc := 36) (tgt := 47) C dX4_common_36 (by decide) (fun h_7 => ?_) (fun h_7 => ?_)
      · replace hf := ifp h_7 hf
        refine s_iconst (pc := 47) (v := 0) C dX4_common_47 (by decide) ?_
        exact s_iret (pc := 48) C hr hlk dX4_common_48 (congrArg (fun z => some (Value.int z)) (rt hf).1) (rt hf).2
      · replace hf := ifn h_7 hf
        refine s_iload (pc := 39) C dX4_common_39 rfl ?_
        refine s_iload (pc := 41) C dX4_common_41 rfl ?_
        refine s_isub (pc := 43) C dX4_common_43 ?_
        refine s_goto (pc := 44) (tgt := 48) C dX4_common_44 (by decide) ?_
        exact s_iret (pc := 48) C hr hlk dX4_common_48 (congrArg (fun z => some (Value.int z)) (rt hf).1) (rt hf).2
def f_X4_area (N : Nat) (a1 : Int32) (a2 : Int32) (σ : St) : Option (Int32 × St) :=
  if inb a1 6 = true then
  if inb a1 6 = true then
  if inb a2 6 = true then
  if inb a2 6 = true then
  bn (f_X4_common N (σ 33 (ix a1)) (σ 36 (ix a1)) (σ 33 (ix a2)) (σ 36 (ix a2)) σ) fun r_1 τ_1 =>
  if inb a1 6 = true then
  if inb a1 6 = true then
  if inb a2 6 = true then
  if inb a2 6 = true then
  bn (f_X4_common N (τ_1 34 (ix a1)) (τ_1 37 (ix a1)) (τ_1 34 (ix a2)) (τ_1 37 (ix a2)) τ_1) fun r_2 τ_2 =>
  some ((r_1 * r_2), τ_2)
  else none
  else none
  else none
  else none
  else none
  else none
  else none
  else none
set_option maxRecDepth 100000 in
set_option maxHeartbeats 4000000 in
theorem c_X4_area (l : Launch) (D : va_G) (ca : Nat → ClassId) (ad : Nat → Nat) (N : Nat) (a1 : Int32) (a2 : Int32) (σ : St) (r : Int32) (τ : St) (hf : f_X4_area N a1 a2 σ = some (r, τ)) : cM l yX4_area (.code yX4_area cX4_area 3 (some .int)) (rmk 1) D ca ad SH [.ref (ad 25), .int a1, .int a2] σ (some (.int r)) τ := by
  refine cM.intro2 (own := RX4) (lo := [some (.ref (ad 25)), some (.int a1), some (.int a2)]) (by decide) rfl (ccR (ccI (ccI cc0))) (Nat.le_of_ble_eq_true rfl) rfl ?_
  intro p e s m args below meth c A C hr hlk
  unfold f_X4_area at hf
  refine s_aloadn (pc := 0) C dX4_area_0 rfl ?_
  refine s_getR (pc := 1) (r := 33) C fl_X4_44 SH_25 rfl dX4_area_1 ?_
  refine s_iloadn (pc := 4) C dX4_area_4 rfl ?_
  obtain ⟨g_1, hf⟩ := gd hf
  refine s_iald (pc := 5) C SH_33 (ty0 ca) g_1 dX4_area_5 ?_
  refine s_aloadn (pc := 6) C dX4_area_6 rfl ?_
  refine s_getR (pc := 7) (r := 36) C fl_X4_53 SH_25 rfl dX4_area_7 ?_
  refine s_iloadn (pc := 10) C dX4_area_10 rfl ?_
  obtain ⟨g_2, hf⟩ := gd hf
  refine s_iald (pc := 11) C SH_36 (ty0 ca) g_2 dX4_area_11 ?_
  refine s_aloadn (pc := 12) C dX4_area_12 rfl ?_
  refine s_getR (pc := 13) (r := 33) C fl_X4_44 SH_25 rfl dX4_area_13 ?_
  refine s_iloadn (pc := 16) C dX4_area_16 rfl ?_
  obtain ⟨g_3, hf⟩ := gd hf
  refine s_iald (pc := 17) C SH_33 (ty0 ca) g_3 dX4_area_17 ?_
  refine s_aloadn (pc := 18) C dX4_area_18 rfl ?_
  refine s_getR (pc := 19) (r := 36) C fl_X4_53 SH_25 rfl dX4_area_19 ?_
  refine s_iloadn (pc := 22) C dX4_area_22 rfl ?_
  obtain ⟨g_4, hf⟩ := gd hf
  refine s_iald (pc := 23) C SH_36 (ty0 ca) g_4 dX4_area_23 ?_
  obtain ⟨r_1, τ_1, e_1, hf⟩ := bnd hf
  refine s_callO (pc := 24) (rest := []) C rfl (c_X4_common l D ca ad N (σ 33 (ix a1)) (σ 36 (ix a1)) (σ 33 (ix a2)) (σ 36 (ix a2)) σ r_1 τ_1 e_1) ko_X4_139 ⟨rfl, rfl⟩ (by decide) rfl rfl (Nat.le_of_ble_eq_true rfl) dX4_area_24 ⟨Nat.zero_le _, Nat.zero_le _⟩ ?_
  refine s_st (st' := [.int r_1]) rfl ?_
  refine s_aloadn (pc := 27) C dX4_area_27 rfl ?_
  refine s_getR (pc := 28) (r := 34) C fl_X4_47 SH_25 rfl dX4_area_28 ?_
  refine s_iloadn (pc := 31) C dX4_area_31 rfl ?_
  obtain ⟨g_5, hf⟩ := gd hf
  refine s_iald (pc := 32) C SH_34 (ty0 ca) g_5 dX4_area_32 ?_
  refine s_aloadn (pc := 33) C dX4_area_33 rfl ?_
  refine s_getR (pc := 34) (r := 37) C fl_X4_56 SH_25 rfl dX4_area_34 ?_
  refine s_iloadn (pc := 37) C dX4_area_37 rfl ?_
  obtain ⟨g_6, hf⟩ := gd hf
  refine s_iald (pc := 38) C SH_37 (ty0 ca) g_6 dX4_area_38 ?_
  refine s_aloadn (pc := 39) C dX4_area_39 rfl ?_
  refine s_getR (pc := 40) (r := 34) C fl_X4_47 SH_25 rfl dX4_area_40 ?_
  refine s_iloadn (pc := 43) C dX4_area_43 rfl ?_
  obtain ⟨g_7, hf⟩ := gd hf
  refine s_iald (pc := 44) C SH_34 (ty0 ca) g_7 dX4_area_44 ?_
  refine s_aloadn (pc := 45) C dX4_area_45 rfl ?_
  refine s_getR (pc := 46) (r := 37) C fl_X4_56 SH_25 rfl dX4_area_46 ?_
  refine s_iloadn (pc := 49) C dX4_area_49 rfl ?_
  obtain ⟨g_8, hf⟩ := gd hf
  refine s_iald (pc := 50) C SH_37 (ty0 ca) g_8 dX4_area_50 ?_
  obtain ⟨r_2, τ_2, e_2, hf⟩ := bnd hf
  refine s_callO (pc := 51) (rest := [.int r_1]) C rfl (c_X4_common l D ca ad N (τ_1 34 (ix a1)) (τ_1 37 (ix a1)) (τ_1 34 (ix a2)) (τ_1 37 (ix a2)) τ_1 r_2 τ_2 e_2) ko_X4_139 ⟨rfl, rfl⟩ (by decide) rfl rfl (Nat.le_of_ble_eq_true rfl) dX4_area_51 ⟨Nat.zero_le _, Nat.zero_le _⟩ ?_
  refine s_st (st' := [.int r_2, .int r_1]) rfl ?_
  refine s_imul (pc := 54) C dX4_area_54 ?_
  exact s_iret (pc := 55) C hr hlk dX4_area_55 (congrArg (fun z => some (Value.int z)) (rt hf).1) (rt hf).2
def f_X4_standsOn (N : Nat) (a1 : Int32) (a2 : Int32) (σ : St) : Option (Int32 × St) :=
  if a1 = a2 then
    some (0, σ)
  else
    if inb a1 6 = true then
    if (σ 32 (ix a1)) < 0 then
      some (0, σ)
    else
      if inb a2 6 = true then
      if (σ 32 (ix a2)) < 0 then
        some (0, σ)
      else
        if inb a1 6 = true then
        if inb a2 6 = true then
        if inb a2 6 = true then
        if (σ 35 (ix a1)) = ((σ 35 (ix a2)) + (σ 38 (ix a2))) then
          bn (f_X4_area N a1 a2 σ) fun r_1 τ_1 =>
          if r_1 ≤ 0 then
            some (0, τ_1)
          else
            some (1, τ_1)
        else
          some (0, σ)
        else none
        else none
        else none
      else none
    else none
set_option maxRecDepth 100000 in
set_option maxHeartbeats 4000000 in
theorem c_X4_standsOn (l : Launch) (D : va_G) (ca : Nat → ClassId) (ad : Nat → Nat) (N : Nat) (a1 : Int32) (a2 : Int32) (σ : St) (r : Int32) (τ : St) (hf : f_X4_standsOn N a1 a2 σ = some (r, τ)) : cM l yX4_standsOn (.code yX4_standsOn cX4_standsOn 3 (some .boolean)) (rmk 2) D ca ad SH [.ref (ad 25), .int a1, .int a2] σ (some (.int r)) τ := by
  refine cM.intro2 (own := RX4) (lo := [some (.ref (ad 25)), some (.int a1), some (.int a2)]) (by decide) rfl (ccR (ccI (ccI cc0))) (Nat.le_of_ble_eq_true rfl) rfl ?_
  intro p e s m args below meth c A C hr hlk
  unfold f_X4_standsOn at hf
  refine s_iloadn (pc := 0) C dX4_standsOn_0 rfl ?_
  refine s_iloadn (pc := 1) C dX4_standsOn_1 rfl ?_
  refine s_icmp_eq (pc := 2) (tgt := 58) C dX4_standsOn_2 (by decide) (fun h_1 => ?_) (fun h_1 => ?_)
  · replace hf := ifp h_1 hf
    refine s_iconst (pc := 58) (v := 0) C dX4_standsOn_58 (by decide) ?_
    exact s_zret (pc := 59) C hr hlk dX4_standsOn_59 (by decide) (congrArg (fun z => some (Value.int z)) (rt hf).1) (rt hf).2
  · replace hf := ifn h_1 hf
    refine s_aloadn (pc := 5) C dX4_standsOn_5 rfl ?_
    refine s_getR (pc := 6) (r := 32) C fl_X4_41 SH_25 rfl dX4_standsOn_6 ?_
    refine s_iloadn (pc := 9) C dX4_standsOn_9 rfl ?_
    obtain ⟨g_1, hf⟩ := gd hf
    refine s_iald (pc := 10) C SH_32 (ty0 ca) g_1 dX4_standsOn_10 ?_
    refine s_if_lt (pc := 11) (tgt := 58) C dX4_standsOn_11 (by decide) (fun h_2 => ?_) (fun h_2 => ?_)
    · replace hf := ifp h_2 hf
      refine s_iconst (pc := 58) (v := 0) C dX4_standsOn_58 (by decide) ?_
      exact s_zret (pc := 59) C hr hlk dX4_standsOn_59 (by decide) (congrArg (fun z => some (Value.int z)) (rt hf).1) (rt hf).2
    · replace hf := ifn h_2 hf
      refine s_aloadn (pc := 14) C dX4_standsOn_14 rfl ?_
      refine s_getR (pc := 15) (r := 32) C fl_X4_41 SH_25 rfl dX4_standsOn_15 ?_
      refine s_iloadn (pc := 18) C dX4_standsOn_18 rfl ?_
      obtain ⟨g_2, hf⟩ := gd hf
      refine s_iald (pc := 19) C SH_32 (ty0 ca) g_2 dX4_standsOn_19 ?_
      refine s_if_lt (pc := 20) (tgt := 58) C dX4_standsOn_20 (by decide) (fun h_3 => ?_) (fun h_3 => ?_)
      · replace hf := ifp h_3 hf
        refine s_iconst (pc := 58) (v := 0) C dX4_standsOn_58 (by decide) ?_
        exact s_zret (pc := 59) C hr hlk dX4_standsOn_59 (by decide) (congrArg (fun z => some (Value.int z)) (rt hf).1) (rt hf).2
      · replace hf := ifn h_3 hf
        refine s_aloadn (pc := 23) C dX4_standsOn_23 rfl ?_
        refine s_getR (pc := 24) (r := 35) C fl_X4_50 SH_25 rfl dX4_standsOn_24 ?_
        refine s_iloadn (pc := 27) C dX4_standsOn_27 rfl ?_
        obtain ⟨g_3, hf⟩ := gd hf
        refine s_iald (pc := 28) C SH_35 (ty0 ca) g_3 dX4_standsOn_28 ?_
        refine s_aloadn (pc := 29) C dX4_standsOn_29 rfl ?_
        refine s_getR (pc := 30) (r := 35) C fl_X4_50 SH_25 rfl dX4_standsOn_30 ?_
        refine s_iloadn (pc := 33) C dX4_standsOn_33 rfl ?_
        obtain ⟨g_4, hf⟩ := gd hf
        refine s_iald (pc := 34) C SH_35 (ty0 ca) g_4 dX4_standsOn_34 ?_
        refine s_aloadn (pc := 35) C dX4_standsOn_35 rfl ?_
        refine s_getR (pc := 36) (r := 38) C fl_X4_59 SH_25 rfl dX4_standsOn_36 ?_
        refine s_iloadn (pc := 39) C dX4_standsOn_39 rfl ?_
        obtain ⟨g_5, hf⟩ := gd hf
        refine s_iald (pc := 40) C SH_38 (ty0 ca) g_5 dX4_standsOn_40 ?_
        refine s_iadd (pc := 41) C dX4_standsOn_41 ?_
        refine s_icmp_ne (pc := 42) (tgt := 58) C dX4_standsOn_42 (by decide) (fun h_4 => ?_) (fun h_4 => ?_)
        · replace hf := ifn h_4 hf
          refine s_iconst (pc := 58) (v := 0) C dX4_standsOn_58 (by decide) ?_
          exact s_zret (pc := 59) C hr hlk dX4_standsOn_59 (by decide) (congrArg (fun z => some (Value.int z)) (rt hf).1) (rt hf).2
        · replace hf := ifp h_4 hf
          refine s_aloadn (pc := 45) C dX4_standsOn_45 rfl ?_
          refine s_iloadn (pc := 46) C dX4_standsOn_46 rfl ?_
          refine s_iloadn (pc := 47) C dX4_standsOn_47 rfl ?_
          obtain ⟨r_1, τ_1, e_1, hf⟩ := bnd hf
          refine s_callV (pc := 48) (rest := []) C rfl (c_X4_area l D ca ad N a1 a2 σ r_1 τ_1 e_1) kv_X4_143 ⟨rfl, rfl⟩ (by decide) SH_25 ⟨_, rfl, rfl⟩ rfl rfl (Nat.le_of_ble_eq_true rfl) dX4_standsOn_48 ⟨Nat.zero_le _, Nat.zero_le _⟩ ?_
          refine s_st (st' := [.int r_1]) rfl ?_
          refine s_if_le (pc := 51) (tgt := 58) C dX4_standsOn_51 (by decide) (fun h_5 => ?_) (fun h_5 => ?_)
          · replace hf := ifp h_5 hf
            refine s_iconst (pc := 58) (v := 0) C dX4_standsOn_58 (by decide) ?_
            exact s_zret (pc := 59) C hr hlk dX4_standsOn_59 (by decide) (congrArg (fun z => some (Value.int z)) (rt hf).1) (rt hf).2
          · replace hf := ifn h_5 hf
            refine s_iconst (pc := 54) (v := 1) C dX4_standsOn_54 (by decide) ?_
            refine s_goto (pc := 55) (tgt := 59) C dX4_standsOn_55 (by decide) ?_
            exact s_zret (pc := 59) C hr hlk dX4_standsOn_59 (by decide) (congrArg (fun z => some (Value.int z)) (rt hf).1) (rt hf).2
def lp_X4_supportOf_27 (N : Nat) (a1 : Int32) : Nat → Int32 → Int32 → Int32 → St → Option (Int32 × St)
  | 0, _, _, _, _ => none
  | n + 1, v1, v2, v3, σ =>
    if (σ 25 4) ≤ v3 then
      some (v2, σ)
    else
      bn (f_X4_standsOn N v1 v3 σ) fun r_1 τ_1 =>
      if r_1 = 0 then
        lp_X4_supportOf_27 N a1  n v1 (v2 + 0) (v3 + 1) τ_1
      else
        bn (f_X4_area N v1 v3 τ_1) fun r_2 τ_2 =>
        lp_X4_supportOf_27 N a1  n v1 (v2 + r_2) (v3 + 1) τ_2
set_option maxRecDepth 100000 in
set_option maxHeartbeats 4000000 in
theorem w_X4_supportOf_27 {l : Launch} {D : va_G} {ca : Nat → ClassId} {ad : Nat → Nat} {p : Program} {e : Env} {s : State} {m : MethodId} {args : Array Value} {below : List Frame} {meth : Method} {c : Code} {A : Nat → Prop} (C : CX p s m args c D ca A RX4 cX4_supportOf 4) (hr : meth.sig.returnType = (some .int)) (hlk : meth.locks = false) (N : Nat) (a1 : Int32) (r : Int32) (τ : St)  : ∀ (n : Nat) (v1 v2 v3 : Int32) (σ : St), lp_X4_supportOf_27 N a1  n v1 v2 v3 σ = some (r, τ) → WW p l e (rmk 3) s m args below meth c 0 0 (EQ D ca ad SH A below args s (some (.int r)) τ) A D ca ad SH 27 [some (.ref (ad 25)), some (.int v1), some (.int v2), some (.int v3)] [] σ := by
  intro n
  induction n with
  | zero => intro v1 v2 v3 σ hf; cases hf
  | succ n ih =>
    intro v1 v2 v3 σ hf
    rw [lp_X4_supportOf_27] at hf
    refine s_iloadn (pc := 27) C dX4_supportOf_27 rfl ?_
    refine s_aloadn (pc := 28) C dX4_supportOf_28 rfl ?_
    refine s_getI (pc := 29) C fl_X4_13 SH_25 rfl dX4_supportOf_29 ?_
    refine s_icmp_ge (pc := 32) (tgt := 63) C dX4_supportOf_32 (by decide) (fun h_1 => ?_) (fun h_1 => ?_)
    · replace hf := ifp h_1 hf
      refine s_iloadn (pc := 63) C dX4_supportOf_63 rfl ?_
      exact s_iret (pc := 64) C hr hlk dX4_supportOf_64 (congrArg (fun z => some (Value.int z)) (rt hf).1) (rt hf).2
    · replace hf := ifn h_1 hf
      refine s_iloadn (pc := 35) C dX4_supportOf_35 rfl ?_
      refine s_aloadn (pc := 36) C dX4_supportOf_36 rfl ?_
      refine s_iloadn (pc := 37) C dX4_supportOf_37 rfl ?_
      refine s_iloadn (pc := 38) C dX4_supportOf_38 rfl ?_
      obtain ⟨r_1, τ_1, e_1, hf⟩ := bnd hf
      refine s_callV (pc := 39) (rest := [.int v2]) C rfl (c_X4_standsOn l D ca ad N v1 v3 σ r_1 τ_1 e_1) kv_X4_146 ⟨rfl, rfl⟩ (by decide) SH_25 ⟨_, rfl, rfl⟩ rfl rfl (Nat.le_of_ble_eq_true rfl) dX4_supportOf_39 ⟨Nat.zero_le _, Nat.zero_le _⟩ ?_
      refine s_st (st' := [.int r_1, .int v2]) rfl ?_
      refine s_if_eq (pc := 42) (tgt := 54) C dX4_supportOf_42 (by decide) (fun h_2 => ?_) (fun h_2 => ?_)
      · replace hf := ifp h_2 hf
        refine s_iconst (pc := 54) (v := 0) C dX4_supportOf_54 (by decide) ?_
        refine s_iadd (pc := 55) C dX4_supportOf_55 ?_
        refine s_istoren (pc := 56) (lo' := [some (.ref (ad 25)), some (.int v1), some (.int (v2 + 0)), some (.int v3)]) C dX4_supportOf_56 (Nat.le_of_ble_eq_true rfl) rfl ?_
        refine s_iinc (pc := 57) (v := (v3 + 1)) (lo' := [some (.ref (ad 25)), some (.int v1), some (.int (v2 + 0)), some (.int (v3 + 1))]) C dX4_supportOf_57 rfl rfl rfl ?_
        refine s_goto (pc := 60) (tgt := 27) C dX4_supportOf_60 (by decide) ?_
        refine s_few (lo' := [some (.ref (ad 25)), some (.int v1), some (.int (v2 + 0)), some (.int (v3 + 1))]) (lfS (lfS (lfS (lfS lf0)))) ?_
        exact ih v1 (v2 + 0) (v3 + 1) τ_1 hf
      · replace hf := ifn h_2 hf
        refine s_aloadn (pc := 45) C dX4_supportOf_45 rfl ?_
        refine s_iloadn (pc := 46) C dX4_supportOf_46 rfl ?_
        refine s_iloadn (pc := 47) C dX4_supportOf_47 rfl ?_
        obtain ⟨r_2, τ_2, e_2, hf⟩ := bnd hf
        refine s_callV (pc := 48) (rest := [.int v2]) C rfl (c_X4_area l D ca ad N v1 v3 τ_1 r_2 τ_2 e_2) kv_X4_143 ⟨rfl, rfl⟩ (by decide) SH_25 ⟨_, rfl, rfl⟩ rfl rfl (Nat.le_of_ble_eq_true rfl) dX4_supportOf_48 ⟨Nat.zero_le _, Nat.zero_le _⟩ ?_
        refine s_st (st' := [.int r_2, .int v2]) rfl ?_
        refine s_goto (pc := 51) (tgt := 55) C dX4_supportOf_51 (by decide) ?_
        refine s_iadd (pc := 55) C dX4_supportOf_55 ?_
        refine s_istoren (pc := 56) (lo' := [some (.ref (ad 25)), some (.int v1), some (.int (v2 + r_2)), some (.int v3)]) C dX4_supportOf_56 (Nat.le_of_ble_eq_true rfl) rfl ?_
        refine s_iinc (pc := 57) (v := (v3 + 1)) (lo' := [some (.ref (ad 25)), some (.int v1), some (.int (v2 + r_2)), some (.int (v3 + 1))]) C dX4_supportOf_57 rfl rfl rfl ?_
        refine s_goto (pc := 60) (tgt := 27) C dX4_supportOf_60 (by decide) ?_
        refine s_few (lo' := [some (.ref (ad 25)), some (.int v1), some (.int (v2 + r_2)), some (.int (v3 + 1))]) (lfS (lfS (lfS (lfS lf0)))) ?_
        exact ih v1 (v2 + r_2) (v3 + 1) τ_2 hf
def f_X4_supportOf (N : Nat) (a1 : Int32) (σ : St) : Option (Int32 × St) :=
  if inb a1 6 = true then
  if (σ 35 (ix a1)) = 0 then
    if inb a1 6 = true then
    if inb a1 6 = true then
    some (((σ 36 (ix a1)) * (σ 37 (ix a1))), σ)
    else none
    else none
  else
    lp_X4_supportOf_27 N a1 N a1 0 0 σ
  else none
set_option maxRecDepth 100000 in
set_option maxHeartbeats 4000000 in
theorem c_X4_supportOf (l : Launch) (D : va_G) (ca : Nat → ClassId) (ad : Nat → Nat) (N : Nat) (a1 : Int32) (σ : St) (r : Int32) (τ : St) (hf : f_X4_supportOf N a1 σ = some (r, τ)) : cM l yX4_supportOf (.code yX4_supportOf cX4_supportOf 4 (some .int)) (rmk 3) D ca ad SH [.ref (ad 25), .int a1] σ (some (.int r)) τ := by
  refine cM.intro2 (own := RX4) (lo := [some (.ref (ad 25)), some (.int a1), none, none]) (by decide) rfl (ccR (ccI cc0)) (Nat.le_of_ble_eq_true rfl) rfl ?_
  intro p e s m args below meth c A C hr hlk
  unfold f_X4_supportOf at hf
  refine s_aloadn (pc := 0) C dX4_supportOf_0 rfl ?_
  refine s_getR (pc := 1) (r := 35) C fl_X4_50 SH_25 rfl dX4_supportOf_1 ?_
  refine s_iloadn (pc := 4) C dX4_supportOf_4 rfl ?_
  obtain ⟨g_1, hf⟩ := gd hf
  refine s_iald (pc := 5) C SH_35 (ty0 ca) g_1 dX4_supportOf_5 ?_
  refine s_if_ne (pc := 6) (tgt := 23) C dX4_supportOf_6 (by decide) (fun h_1 => ?_) (fun h_1 => ?_)
  · replace hf := ifn h_1 hf
    refine s_iconst (pc := 23) (v := 0) C dX4_supportOf_23 (by decide) ?_
    refine s_istoren (pc := 24) (lo' := [some (.ref (ad 25)), some (.int a1), some (.int 0), none]) C dX4_supportOf_24 (Nat.le_of_ble_eq_true rfl) rfl ?_
    refine s_iconst (pc := 25) (v := 0) C dX4_supportOf_25 (by decide) ?_
    refine s_istoren (pc := 26) (lo' := [some (.ref (ad 25)), some (.int a1), some (.int 0), some (.int 0)]) C dX4_supportOf_26 (Nat.le_of_ble_eq_true rfl) rfl ?_
    refine s_few (lo' := [some (.ref (ad 25)), some (.int a1), some (.int 0), some (.int 0)]) (lfS (lfS (lfS (lfS lf0)))) ?_
    exact w_X4_supportOf_27 C hr hlk N a1 r τ  N a1 0 0 σ hf
  · replace hf := ifp h_1 hf
    refine s_aloadn (pc := 9) C dX4_supportOf_9 rfl ?_
    refine s_getR (pc := 10) (r := 36) C fl_X4_53 SH_25 rfl dX4_supportOf_10 ?_
    refine s_iloadn (pc := 13) C dX4_supportOf_13 rfl ?_
    obtain ⟨g_2, hf⟩ := gd hf
    refine s_iald (pc := 14) C SH_36 (ty0 ca) g_2 dX4_supportOf_14 ?_
    refine s_aloadn (pc := 15) C dX4_supportOf_15 rfl ?_
    refine s_getR (pc := 16) (r := 37) C fl_X4_56 SH_25 rfl dX4_supportOf_16 ?_
    refine s_iloadn (pc := 19) C dX4_supportOf_19 rfl ?_
    obtain ⟨g_3, hf⟩ := gd hf
    refine s_iald (pc := 20) C SH_37 (ty0 ca) g_3 dX4_supportOf_20 ?_
    refine s_imul (pc := 21) C dX4_supportOf_21 ?_
    exact s_iret (pc := 22) C hr hlk dX4_supportOf_22 (congrArg (fun z => some (Value.int z)) (rt hf).1) (rt hf).2
def lp_X4_borne_96 (N : Nat) (a1 : Int32) : Nat → Int32 → Int32 → Int32 → Int32 → Int32 → St → Option (Int32 × St)
  | 0, _, _, _, _, _, _ => none
  | n + 1, v1, v2, v3, v4, v5, σ =>
    if (σ 25 4) ≤ v5 then
      some (v4, σ)
    else
      if v5 = v1 then
        lp_X4_borne_96 N a1  n v1 v2 v3 (v4 + 0) (v5 + 1) σ
      else
        if ((v2 >>> (v5 &&& 31)) &&& 1) = 1 then
          if inb v5 6 = true then
          lp_X4_borne_96 N a1  n v1 v2 v3 (v4 + (σ 27 (ix v5))) (v5 + 1) σ
          else none
        else
          lp_X4_borne_96 N a1  n v1 v2 v3 (v4 + 0) (v5 + 1) σ
set_option maxRecDepth 100000 in
set_option maxHeartbeats 4000000 in
theorem w_X4_borne_96 {l : Launch} {D : va_G} {ca : Nat → ClassId} {ad : Nat → Nat} {p : Program} {e : Env} {s : State} {m : MethodId} {args : Array Value} {below : List Frame} {meth : Method} {c : Code} {A : Nat → Prop} (C : CX p s m args c D ca A RX4 cX4_borne 6) (hr : meth.sig.returnType = (some .int)) (hlk : meth.locks = false) (N : Nat) (a1 : Int32) (r : Int32) (τ : St)  : ∀ (n : Nat) (v1 v2 v3 v4 v5 : Int32) (σ : St), lp_X4_borne_96 N a1  n v1 v2 v3 v4 v5 σ = some (r, τ) → WW p l e (rmk 3) s m args below meth c 0 0 (EQ D ca ad SH A below args s (some (.int r)) τ) A D ca ad SH 96 [some (.ref (ad 25)), some (.int v1), some (.int v2), some (.int v3), some (.int v4), some (.int v5)] [] σ := by
  intro n
  induction n with
  | zero => intro v1 v2 v3 v4 v5 σ hf; cases hf
  | succ n ih =>
    intro v1 v2 v3 v4 v5 σ hf
    rw [lp_X4_borne_96] at hf
    refine s_iload (pc := 96) C dX4_borne_96 rfl ?_
    refine s_aloadn (pc := 98) C dX4_borne_98 rfl ?_
    refine s_getI (pc := 99) C fl_X4_13 SH_25 rfl dX4_borne_99 ?_
    refine s_icmp_ge (pc := 102) (tgt := 143) C dX4_borne_102 (by decide) (fun h_1 => ?_) (fun h_1 => ?_)
    · replace hf := ifp h_1 hf
      refine s_iload (pc := 143) C dX4_borne_143 rfl ?_
      exact s_iret (pc := 145) C hr hlk dX4_borne_145 (congrArg (fun z => some (Value.int z)) (rt hf).1) (rt hf).2
    · replace hf := ifn h_1 hf
      refine s_iload (pc := 105) C dX4_borne_105 rfl ?_
      refine s_iload (pc := 107) C dX4_borne_107 rfl ?_
      refine s_iloadn (pc := 109) C dX4_borne_109 rfl ?_
      refine s_icmp_eq (pc := 110) (tgt := 133) C dX4_borne_110 (by decide) (fun h_2 => ?_) (fun h_2 => ?_)
      · replace hf := ifp h_2 hf
        refine s_iconst (pc := 133) (v := 0) C dX4_borne_133 (by decide) ?_
        refine s_iadd (pc := 134) C dX4_borne_134 ?_
        refine s_istore (pc := 135) (lo' := [some (.ref (ad 25)), some (.int v1), some (.int v2), some (.int v3), some (.int (v4 + 0)), some (.int v5)]) C dX4_borne_135 (Nat.le_of_ble_eq_true rfl) rfl ?_
        refine s_iinc (pc := 137) (v := (v5 + 1)) (lo' := [some (.ref (ad 25)), some (.int v1), some (.int v2), some (.int v3), some (.int (v4 + 0)), some (.int (v5 + 1))]) C dX4_borne_137 rfl rfl rfl ?_
        refine s_goto (pc := 140) (tgt := 96) C dX4_borne_140 (by decide) ?_
        refine s_few (lo' := [some (.ref (ad 25)), some (.int v1), some (.int v2), some (.int v3), some (.int (v4 + 0)), some (.int (v5 + 1))]) (lfS (lfS (lfS (lfS (lfS (lfS lf0)))))) ?_
        exact ih v1 v2 v3 (v4 + 0) (v5 + 1) σ hf
      · replace hf := ifn h_2 hf
        refine s_iloadn (pc := 113) C dX4_borne_113 rfl ?_
        refine s_iload (pc := 114) C dX4_borne_114 rfl ?_
        refine s_ishr (pc := 116) C dX4_borne_116 ?_
        refine s_iconst (pc := 117) (v := 1) C dX4_borne_117 (by decide) ?_
        refine s_iand (pc := 118) C dX4_borne_118 ?_
        refine s_iconst (pc := 119) (v := 1) C dX4_borne_119 (by decide) ?_
        refine s_icmp_ne (pc := 120) (tgt := 133) C dX4_borne_120 (by decide) (fun h_3 => ?_) (fun h_3 => ?_)
        · replace hf := ifn h_3 hf
          refine s_iconst (pc := 133) (v := 0) C dX4_borne_133 (by decide) ?_
          refine s_iadd (pc := 134) C dX4_borne_134 ?_
          refine s_istore (pc := 135) (lo' := [some (.ref (ad 25)), some (.int v1), some (.int v2), some (.int v3), some (.int (v4 + 0)), some (.int v5)]) C dX4_borne_135 (Nat.le_of_ble_eq_true rfl) rfl ?_
          refine s_iinc (pc := 137) (v := (v5 + 1)) (lo' := [some (.ref (ad 25)), some (.int v1), some (.int v2), some (.int v3), some (.int (v4 + 0)), some (.int (v5 + 1))]) C dX4_borne_137 rfl rfl rfl ?_
          refine s_goto (pc := 140) (tgt := 96) C dX4_borne_140 (by decide) ?_
          refine s_few (lo' := [some (.ref (ad 25)), some (.int v1), some (.int v2), some (.int v3), some (.int (v4 + 0)), some (.int (v5 + 1))]) (lfS (lfS (lfS (lfS (lfS (lfS lf0)))))) ?_
          exact ih v1 v2 v3 (v4 + 0) (v5 + 1) σ hf
        · replace hf := ifp h_3 hf
          refine s_aloadn (pc := 123) C dX4_borne_123 rfl ?_
          refine s_getR (pc := 124) (r := 27) C fl_X4_20 SH_25 rfl dX4_borne_124 ?_
          refine s_iload (pc := 127) C dX4_borne_127 rfl ?_
          obtain ⟨g_1, hf⟩ := gd hf
          refine s_iald (pc := 129) C SH_27 (ty0 ca) g_1 dX4_borne_129 ?_
          refine s_goto (pc := 130) (tgt := 134) C dX4_borne_130 (by decide) ?_
          refine s_iadd (pc := 134) C dX4_borne_134 ?_
          refine s_istore (pc := 135) (lo' := [some (.ref (ad 25)), some (.int v1), some (.int v2), some (.int v3), some (.int (v4 + (σ 27 (ix v5)))), some (.int v5)]) C dX4_borne_135 (Nat.le_of_ble_eq_true rfl) rfl ?_
          refine s_iinc (pc := 137) (v := (v5 + 1)) (lo' := [some (.ref (ad 25)), some (.int v1), some (.int v2), some (.int v3), some (.int (v4 + (σ 27 (ix v5)))), some (.int (v5 + 1))]) C dX4_borne_137 rfl rfl rfl ?_
          refine s_goto (pc := 140) (tgt := 96) C dX4_borne_140 (by decide) ?_
          refine s_few (lo' := [some (.ref (ad 25)), some (.int v1), some (.int v2), some (.int v3), some (.int (v4 + (σ 27 (ix v5)))), some (.int (v5 + 1))]) (lfS (lfS (lfS (lfS (lfS (lfS lf0)))))) ?_
          exact ih v1 v2 v3 (v4 + (σ 27 (ix v5))) (v5 + 1) σ hf
def lp_X4_borne_27 (N : Nat) (a1 : Int32) (k6 : Int32 → Int32 → Int32 → St → Option (Int32 × St)) (k15 : Int32 → Int32 → Int32 → Int32 → St → Option (Int32 × St)) : Nat → Int32 → Int32 → Int32 → Int32 → Int32 → St → Option (Int32 × St)
  | 0, _, _, _, _, _, _ => none
  | n + 1, v1, v2, v3, v4, v5, σ =>
    if (σ 25 4) ≤ v5 then
      k15 v1 v2 v3 (v4 + 1) σ
    else
      if ((v2 >>> (v4 &&& 31)) &&& 1) = 0 then
        if ((v2 >>> (v5 &&& 31)) &&& 1) = 1 then
          bn (f_X4_standsOn N v4 v5 σ) fun r_1 τ_1 =>
          if r_1 = 0 then
            lp_X4_borne_27 N a1 k6 k15 n v1 v2 v3 v4 (v5 + 1) τ_1
          else
            lp_X4_borne_27 N a1 k6 k15 n v1 (v2 ||| (1 <<< (v4 &&& 31))) 1 v4 (v5 + 1) τ_1
        else
          lp_X4_borne_27 N a1 k6 k15 n v1 v2 v3 v4 (v5 + 1) σ
      else
        lp_X4_borne_27 N a1 k6 k15 n v1 v2 v3 v4 (v5 + 1) σ
set_option maxRecDepth 100000 in
set_option maxHeartbeats 4000000 in
theorem w_X4_borne_27 {l : Launch} {D : va_G} {ca : Nat → ClassId} {ad : Nat → Nat} {p : Program} {e : Env} {s : State} {m : MethodId} {args : Array Value} {below : List Frame} {meth : Method} {c : Code} {A : Nat → Prop} (C : CX p s m args c D ca A RX4 cX4_borne 6) (hr : meth.sig.returnType = (some .int)) (hlk : meth.locks = false) (N : Nat) (a1 : Int32) (r : Int32) (τ : St) (k6 : Int32 → Int32 → Int32 → St → Option (Int32 × St)) (k15 : Int32 → Int32 → Int32 → Int32 → St → Option (Int32 × St))  (hk6 : ∀ (w1 w2 w3 : Int32) (σ : St), k6 w1 w2 w3 σ = some (r, τ) → WW p l e (rmk 3) s m args below meth c 0 0 (EQ D ca ad SH A below args s (some (.int r)) τ) A D ca ad SH 6 [some (.ref (ad 25)), some (.int w1), some (.int w2), some (.int w3), none, none] [] σ) (hk15 : ∀ (w1 w2 w3 w4 : Int32) (σ : St), k15 w1 w2 w3 w4 σ = some (r, τ) → WW p l e (rmk 3) s m args below meth c 0 0 (EQ D ca ad SH A below args s (some (.int r)) τ) A D ca ad SH 15 [some (.ref (ad 25)), some (.int w1), some (.int w2), some (.int w3), some (.int w4), none] [] σ) : ∀ (n : Nat) (v1 v2 v3 v4 v5 : Int32) (σ : St), lp_X4_borne_27 N a1 k6 k15 n v1 v2 v3 v4 v5 σ = some (r, τ) → WW p l e (rmk 3) s m args below meth c 0 0 (EQ D ca ad SH A below args s (some (.int r)) τ) A D ca ad SH 27 [some (.ref (ad 25)), some (.int v1), some (.int v2), some (.int v3), some (.int v4), some (.int v5)] [] σ := by
  intro n
  induction n with
  | zero => intro v1 v2 v3 v4 v5 σ hf; cases hf
  | succ n ih =>
    intro v1 v2 v3 v4 v5 σ hf
    rw [lp_X4_borne_27] at hf
    refine s_iload (pc := 27) C dX4_borne_27 rfl ?_
    refine s_aloadn (pc := 29) C dX4_borne_29 rfl ?_
    refine s_getI (pc := 30) C fl_X4_13 SH_25 rfl dX4_borne_30 ?_
    refine s_icmp_ge (pc := 33) (tgt := 81) C dX4_borne_33 (by decide) (fun h_1 => ?_) (fun h_1 => ?_)
    · replace hf := ifp h_1 hf
      refine s_iinc (pc := 81) (v := (v4 + 1)) (lo' := [some (.ref (ad 25)), some (.int v1), some (.int v2), some (.int v3), some (.int (v4 + 1)), some (.int v5)]) C dX4_borne_81 rfl rfl rfl ?_
      refine s_goto (pc := 84) (tgt := 15) C dX4_borne_84 (by decide) ?_
      refine s_few (lo' := [some (.ref (ad 25)), some (.int v1), some (.int v2), some (.int v3), some (.int (v4 + 1)), none]) (lfS (lfS (lfS (lfS (lfS (lfN lf0)))))) ?_
      exact hk15 v1 v2 v3 (v4 + 1) σ hf
    · replace hf := ifn h_1 hf
      refine s_iloadn (pc := 36) C dX4_borne_36 rfl ?_
      refine s_iload (pc := 37) C dX4_borne_37 rfl ?_
      refine s_ishr (pc := 39) C dX4_borne_39 ?_
      refine s_iconst (pc := 40) (v := 1) C dX4_borne_40 (by decide) ?_
      refine s_iand (pc := 41) C dX4_borne_41 ?_
      refine s_if_ne (pc := 42) (tgt := 75) C dX4_borne_42 (by decide) (fun h_2 => ?_) (fun h_2 => ?_)
      · replace hf := ifn h_2 hf
        refine s_iinc (pc := 75) (v := (v5 + 1)) (lo' := [some (.ref (ad 25)), some (.int v1), some (.int v2), some (.int v3), some (.int v4), some (.int (v5 + 1))]) C dX4_borne_75 rfl rfl rfl ?_
        refine s_goto (pc := 78) (tgt := 27) C dX4_borne_78 (by decide) ?_
        refine s_few (lo' := [some (.ref (ad 25)), some (.int v1), some (.int v2), some (.int v3), some (.int v4), some (.int (v5 + 1))]) (lfS (lfS (lfS (lfS (lfS (lfS lf0)))))) ?_
        exact ih v1 v2 v3 v4 (v5 + 1) σ hf
      · replace hf := ifp h_2 hf
        refine s_iloadn (pc := 45) C dX4_borne_45 rfl ?_
        refine s_iload (pc := 46) C dX4_borne_46 rfl ?_
        refine s_ishr (pc := 48) C dX4_borne_48 ?_
        refine s_iconst (pc := 49) (v := 1) C dX4_borne_49 (by decide) ?_
        refine s_iand (pc := 50) C dX4_borne_50 ?_
        refine s_iconst (pc := 51) (v := 1) C dX4_borne_51 (by decide) ?_
        refine s_icmp_ne (pc := 52) (tgt := 75) C dX4_borne_52 (by decide) (fun h_3 => ?_) (fun h_3 => ?_)
        · replace hf := ifn h_3 hf
          refine s_iinc (pc := 75) (v := (v5 + 1)) (lo' := [some (.ref (ad 25)), some (.int v1), some (.int v2), some (.int v3), some (.int v4), some (.int (v5 + 1))]) C dX4_borne_75 rfl rfl rfl ?_
          refine s_goto (pc := 78) (tgt := 27) C dX4_borne_78 (by decide) ?_
          refine s_few (lo' := [some (.ref (ad 25)), some (.int v1), some (.int v2), some (.int v3), some (.int v4), some (.int (v5 + 1))]) (lfS (lfS (lfS (lfS (lfS (lfS lf0)))))) ?_
          exact ih v1 v2 v3 v4 (v5 + 1) σ hf
        · replace hf := ifp h_3 hf
          refine s_aloadn (pc := 55) C dX4_borne_55 rfl ?_
          refine s_iload (pc := 56) C dX4_borne_56 rfl ?_
          refine s_iload (pc := 58) C dX4_borne_58 rfl ?_
          obtain ⟨r_1, τ_1, e_1, hf⟩ := bnd hf
          refine s_callV (pc := 60) (rest := []) C rfl (c_X4_standsOn l D ca ad N v4 v5 σ r_1 τ_1 e_1) kv_X4_146 ⟨rfl, rfl⟩ (by decide) SH_25 ⟨_, rfl, rfl⟩ rfl rfl (Nat.le_of_ble_eq_true rfl) dX4_borne_60 ⟨Nat.zero_le _, Nat.zero_le _⟩ ?_
          refine s_st (st' := [.int r_1]) rfl ?_
          refine s_if_eq (pc := 63) (tgt := 75) C dX4_borne_63 (by decide) (fun h_4 => ?_) (fun h_4 => ?_)
          · replace hf := ifp h_4 hf
            refine s_iinc (pc := 75) (v := (v5 + 1)) (lo' := [some (.ref (ad 25)), some (.int v1), some (.int v2), some (.int v3), some (.int v4), some (.int (v5 + 1))]) C dX4_borne_75 rfl rfl rfl ?_
            refine s_goto (pc := 78) (tgt := 27) C dX4_borne_78 (by decide) ?_
            refine s_few (lo' := [some (.ref (ad 25)), some (.int v1), some (.int v2), some (.int v3), some (.int v4), some (.int (v5 + 1))]) (lfS (lfS (lfS (lfS (lfS (lfS lf0)))))) ?_
            exact ih v1 v2 v3 v4 (v5 + 1) τ_1 hf
          · replace hf := ifn h_4 hf
            refine s_iloadn (pc := 66) C dX4_borne_66 rfl ?_
            refine s_iconst (pc := 67) (v := 1) C dX4_borne_67 (by decide) ?_
            refine s_iload (pc := 68) C dX4_borne_68 rfl ?_
            refine s_ishl (pc := 70) C dX4_borne_70 ?_
            refine s_ior (pc := 71) C dX4_borne_71 ?_
            refine s_istoren (pc := 72) (lo' := [some (.ref (ad 25)), some (.int v1), some (.int (v2 ||| (1 <<< (v4 &&& 31)))), some (.int v3), some (.int v4), some (.int v5)]) C dX4_borne_72 (Nat.le_of_ble_eq_true rfl) rfl ?_
            refine s_iconst (pc := 73) (v := 1) C dX4_borne_73 (by decide) ?_
            refine s_istoren (pc := 74) (lo' := [some (.ref (ad 25)), some (.int v1), some (.int (v2 ||| (1 <<< (v4 &&& 31)))), some (.int 1), some (.int v4), some (.int v5)]) C dX4_borne_74 (Nat.le_of_ble_eq_true rfl) rfl ?_
            refine s_iinc (pc := 75) (v := (v5 + 1)) (lo' := [some (.ref (ad 25)), some (.int v1), some (.int (v2 ||| (1 <<< (v4 &&& 31)))), some (.int 1), some (.int v4), some (.int (v5 + 1))]) C dX4_borne_75 rfl rfl rfl ?_
            refine s_goto (pc := 78) (tgt := 27) C dX4_borne_78 (by decide) ?_
            refine s_few (lo' := [some (.ref (ad 25)), some (.int v1), some (.int (v2 ||| (1 <<< (v4 &&& 31)))), some (.int 1), some (.int v4), some (.int (v5 + 1))]) (lfS (lfS (lfS (lfS (lfS (lfS lf0)))))) ?_
            exact ih v1 (v2 ||| (1 <<< (v4 &&& 31))) 1 v4 (v5 + 1) τ_1 hf
def lp_X4_borne_15 (N : Nat) (a1 : Int32) (k6 : Int32 → Int32 → Int32 → St → Option (Int32 × St)) : Nat → Int32 → Int32 → Int32 → Int32 → St → Option (Int32 × St)
  | 0, _, _, _, _, _ => none
  | n + 1, v1, v2, v3, v4, σ =>
    if (σ 25 4) ≤ v4 then
      k6 v1 v2 v3 σ
    else
      lp_X4_borne_27 N a1 (fun w1 w2 w3 σ => k6 w1 w2 w3 σ) (fun w1 w2 w3 w4 σ => lp_X4_borne_15 N a1 k6 n w1 w2 w3 w4 σ) N v1 v2 v3 v4 0 σ
set_option maxRecDepth 100000 in
set_option maxHeartbeats 4000000 in
theorem w_X4_borne_15 {l : Launch} {D : va_G} {ca : Nat → ClassId} {ad : Nat → Nat} {p : Program} {e : Env} {s : State} {m : MethodId} {args : Array Value} {below : List Frame} {meth : Method} {c : Code} {A : Nat → Prop} (C : CX p s m args c D ca A RX4 cX4_borne 6) (hr : meth.sig.returnType = (some .int)) (hlk : meth.locks = false) (N : Nat) (a1 : Int32) (r : Int32) (τ : St) (k6 : Int32 → Int32 → Int32 → St → Option (Int32 × St))  (hk6 : ∀ (w1 w2 w3 : Int32) (σ : St), k6 w1 w2 w3 σ = some (r, τ) → WW p l e (rmk 3) s m args below meth c 0 0 (EQ D ca ad SH A below args s (some (.int r)) τ) A D ca ad SH 6 [some (.ref (ad 25)), some (.int w1), some (.int w2), some (.int w3), none, none] [] σ) : ∀ (n : Nat) (v1 v2 v3 v4 : Int32) (σ : St), lp_X4_borne_15 N a1 k6 n v1 v2 v3 v4 σ = some (r, τ) → WW p l e (rmk 3) s m args below meth c 0 0 (EQ D ca ad SH A below args s (some (.int r)) τ) A D ca ad SH 15 [some (.ref (ad 25)), some (.int v1), some (.int v2), some (.int v3), some (.int v4), none] [] σ := by
  intro n
  induction n with
  | zero => intro v1 v2 v3 v4 σ hf; cases hf
  | succ n ih =>
    intro v1 v2 v3 v4 σ hf
    rw [lp_X4_borne_15] at hf
    refine s_iload (pc := 15) C dX4_borne_15 rfl ?_
    refine s_aloadn (pc := 17) C dX4_borne_17 rfl ?_
    refine s_getI (pc := 18) C fl_X4_13 SH_25 rfl dX4_borne_18 ?_
    refine s_icmp_ge (pc := 21) (tgt := 87) C dX4_borne_21 (by decide) (fun h_1 => ?_) (fun h_1 => ?_)
    · replace hf := ifp h_1 hf
      refine s_goto (pc := 87) (tgt := 6) C dX4_borne_87 (by decide) ?_
      refine s_few (lo' := [some (.ref (ad 25)), some (.int v1), some (.int v2), some (.int v3), none, none]) (lfS (lfS (lfS (lfS (lfN (lfN lf0)))))) ?_
      exact hk6 v1 v2 v3 σ hf
    · replace hf := ifn h_1 hf
      refine s_iconst (pc := 24) (v := 0) C dX4_borne_24 (by decide) ?_
      refine s_istore (pc := 25) (lo' := [some (.ref (ad 25)), some (.int v1), some (.int v2), some (.int v3), some (.int v4), some (.int 0)]) C dX4_borne_25 (Nat.le_of_ble_eq_true rfl) rfl ?_
      refine s_few (lo' := [some (.ref (ad 25)), some (.int v1), some (.int v2), some (.int v3), some (.int v4), some (.int 0)]) (lfS (lfS (lfS (lfS (lfS (lfS lf0)))))) ?_
      exact w_X4_borne_27 C hr hlk N a1 r τ (fun w1 w2 w3 σ => k6 w1 w2 w3 σ) (fun w1 w2 w3 w4 σ => lp_X4_borne_15 N a1 k6 n w1 w2 w3 w4 σ) (fun w1 w2 w3 σ h => hk6 w1 w2 w3 σ h) (fun w1 w2 w3 w4 σ h => ih w1 w2 w3 w4 σ h) N v1 v2 v3 v4 0 σ hf
def lp_X4_borne_6 (N : Nat) (a1 : Int32) : Nat → Int32 → Int32 → Int32 → St → Option (Int32 × St)
  | 0, _, _, _, _ => none
  | n + 1, v1, v2, v3, σ =>
    if v3 = 0 then
      lp_X4_borne_96 N a1 N v1 v2 v3 0 0 σ
    else
      lp_X4_borne_15 N a1 (fun w1 w2 w3 σ => lp_X4_borne_6 N a1  n w1 w2 w3 σ) N v1 v2 0 0 σ
set_option maxRecDepth 100000 in
set_option maxHeartbeats 4000000 in
theorem w_X4_borne_6 {l : Launch} {D : va_G} {ca : Nat → ClassId} {ad : Nat → Nat} {p : Program} {e : Env} {s : State} {m : MethodId} {args : Array Value} {below : List Frame} {meth : Method} {c : Code} {A : Nat → Prop} (C : CX p s m args c D ca A RX4 cX4_borne 6) (hr : meth.sig.returnType = (some .int)) (hlk : meth.locks = false) (N : Nat) (a1 : Int32) (r : Int32) (τ : St)  : ∀ (n : Nat) (v1 v2 v3 : Int32) (σ : St), lp_X4_borne_6 N a1  n v1 v2 v3 σ = some (r, τ) → WW p l e (rmk 3) s m args below meth c 0 0 (EQ D ca ad SH A below args s (some (.int r)) τ) A D ca ad SH 6 [some (.ref (ad 25)), some (.int v1), some (.int v2), some (.int v3), none, none] [] σ := by
  intro n
  induction n with
  | zero => intro v1 v2 v3 σ hf; cases hf
  | succ n ih =>
    intro v1 v2 v3 σ hf
    rw [lp_X4_borne_6] at hf
    refine s_iloadn (pc := 6) C dX4_borne_6 rfl ?_
    refine s_if_eq (pc := 7) (tgt := 90) C dX4_borne_7 (by decide) (fun h_1 => ?_) (fun h_1 => ?_)
    · replace hf := ifp h_1 hf
      refine s_iconst (pc := 90) (v := 0) C dX4_borne_90 (by decide) ?_
      refine s_istore (pc := 91) (lo' := [some (.ref (ad 25)), some (.int v1), some (.int v2), some (.int v3), some (.int 0), none]) C dX4_borne_91 (Nat.le_of_ble_eq_true rfl) rfl ?_
      refine s_iconst (pc := 93) (v := 0) C dX4_borne_93 (by decide) ?_
      refine s_istore (pc := 94) (lo' := [some (.ref (ad 25)), some (.int v1), some (.int v2), some (.int v3), some (.int 0), some (.int 0)]) C dX4_borne_94 (Nat.le_of_ble_eq_true rfl) rfl ?_
      refine s_few (lo' := [some (.ref (ad 25)), some (.int v1), some (.int v2), some (.int v3), some (.int 0), some (.int 0)]) (lfS (lfS (lfS (lfS (lfS (lfS lf0)))))) ?_
      exact w_X4_borne_96 C hr hlk N a1 r τ  N v1 v2 v3 0 0 σ hf
    · replace hf := ifn h_1 hf
      refine s_iconst (pc := 10) (v := 0) C dX4_borne_10 (by decide) ?_
      refine s_istoren (pc := 11) (lo' := [some (.ref (ad 25)), some (.int v1), some (.int v2), some (.int 0), none, none]) C dX4_borne_11 (Nat.le_of_ble_eq_true rfl) rfl ?_
      refine s_iconst (pc := 12) (v := 0) C dX4_borne_12 (by decide) ?_
      refine s_istore (pc := 13) (lo' := [some (.ref (ad 25)), some (.int v1), some (.int v2), some (.int 0), some (.int 0), none]) C dX4_borne_13 (Nat.le_of_ble_eq_true rfl) rfl ?_
      refine s_few (lo' := [some (.ref (ad 25)), some (.int v1), some (.int v2), some (.int 0), some (.int 0), none]) (lfS (lfS (lfS (lfS (lfS (lfN lf0)))))) ?_
      exact w_X4_borne_15 C hr hlk N a1 r τ (fun w1 w2 w3 σ => lp_X4_borne_6 N a1  n w1 w2 w3 σ) (fun w1 w2 w3 σ h => ih w1 w2 w3 σ h) N v1 v2 0 0 σ hf
def f_X4_borne (N : Nat) (a1 : Int32) (σ : St) : Option (Int32 × St) :=
  lp_X4_borne_6 N a1 N a1 (1 <<< (a1 &&& 31)) 1 σ
set_option maxRecDepth 100000 in
set_option maxHeartbeats 4000000 in
theorem c_X4_borne (l : Launch) (D : va_G) (ca : Nat → ClassId) (ad : Nat → Nat) (N : Nat) (a1 : Int32) (σ : St) (r : Int32) (τ : St) (hf : f_X4_borne N a1 σ = some (r, τ)) : cM l yX4_borne (.code yX4_borne cX4_borne 6 (some .int)) (rmk 3) D ca ad SH [.ref (ad 25), .int a1] σ (some (.int r)) τ := by
  refine cM.intro2 (own := RX4) (lo := [some (.ref (ad 25)), some (.int a1), none, none, none, none]) (by decide) rfl (ccR (ccI cc0)) (Nat.le_of_ble_eq_true rfl) rfl ?_
  intro p e s m args below meth c A C hr hlk
  unfold f_X4_borne at hf
  refine s_iconst (pc := 0) (v := 1) C dX4_borne_0 (by decide) ?_
  refine s_iloadn (pc := 1) C dX4_borne_1 rfl ?_
  refine s_ishl (pc := 2) C dX4_borne_2 ?_
  refine s_istoren (pc := 3) (lo' := [some (.ref (ad 25)), some (.int a1), some (.int (1 <<< (a1 &&& 31))), none, none, none]) C dX4_borne_3 (Nat.le_of_ble_eq_true rfl) rfl ?_
  refine s_iconst (pc := 4) (v := 1) C dX4_borne_4 (by decide) ?_
  refine s_istoren (pc := 5) (lo' := [some (.ref (ad 25)), some (.int a1), some (.int (1 <<< (a1 &&& 31))), some (.int 1), none, none]) C dX4_borne_5 (Nat.le_of_ble_eq_true rfl) rfl ?_
  refine s_few (lo' := [some (.ref (ad 25)), some (.int a1), some (.int (1 <<< (a1 &&& 31))), some (.int 1), none, none]) (lfS (lfS (lfS (lfS (lfN (lfN lf0)))))) ?_
  exact w_X4_borne_6 C hr hlk N a1 r τ  N a1 (1 <<< (a1 &&& 31)) 1 σ hf
