def f_X4_at (N : Nat) (a1 : Int32) (a2 : Int32) (σ : St) : Option (Int32 × St) :=
  bn (f_X4_noPiece N a1 σ) fun r_1 τ_1 =>
  if r_1 = 0 then
    bn (f_X4_not N a2 0 6 τ_1) fun r_2 τ_2 =>
    if r_2 = 0 then
      if ((su τ_2 25 0 0) 25 0) = 0 then
        if inb a1 6 = true then
        if 0 ≤ ((su τ_2 25 0 0) 32 (ix a1)) then
          if a2 = 0 then
            if inb a1 6 = true then
            some (((su τ_2 25 0 0) 33 (ix a1)), (su τ_2 25 0 0))
            else none
          else
            if a2 = 1 then
              if inb a1 6 = true then
              some (((su τ_2 25 0 0) 34 (ix a1)), (su τ_2 25 0 0))
              else none
            else
              if a2 = 2 then
                if inb a1 6 = true then
                some (((su τ_2 25 0 0) 35 (ix a1)), (su τ_2 25 0 0))
                else none
              else
                if a2 = 3 then
                  if inb a1 6 = true then
                  some (((su τ_2 25 0 0) 36 (ix a1)), (su τ_2 25 0 0))
                  else none
                else
                  if a2 = 4 then
                    if inb a1 6 = true then
                    some (((su τ_2 25 0 0) 37 (ix a1)), (su τ_2 25 0 0))
                    else none
                  else
                    if a2 = 5 then
                      if inb a1 6 = true then
                      some (((su τ_2 25 0 0) 38 (ix a1)), (su τ_2 25 0 0))
                      else none
                    else
                      if inb a1 6 = true then
                      some (((su τ_2 25 0 0) 32 (ix a1)), (su τ_2 25 0 0))
                      else none
        else
          some ((-1), (su τ_2 25 0 0))
        else none
      else
        some (0, (su τ_2 25 0 0))
    else
      if ((su τ_2 25 0 2) 25 0) = 0 then
        if inb a1 6 = true then
        if 0 ≤ ((su τ_2 25 0 2) 32 (ix a1)) then
          if a2 = 0 then
            if inb a1 6 = true then
            some (((su τ_2 25 0 2) 33 (ix a1)), (su τ_2 25 0 2))
            else none
          else
            if a2 = 1 then
              if inb a1 6 = true then
              some (((su τ_2 25 0 2) 34 (ix a1)), (su τ_2 25 0 2))
              else none
            else
              if a2 = 2 then
                if inb a1 6 = true then
                some (((su τ_2 25 0 2) 35 (ix a1)), (su τ_2 25 0 2))
                else none
              else
                if a2 = 3 then
                  if inb a1 6 = true then
                  some (((su τ_2 25 0 2) 36 (ix a1)), (su τ_2 25 0 2))
                  else none
                else
                  if a2 = 4 then
                    if inb a1 6 = true then
                    some (((su τ_2 25 0 2) 37 (ix a1)), (su τ_2 25 0 2))
                    else none
                  else
                    if a2 = 5 then
                      if inb a1 6 = true then
                      some (((su τ_2 25 0 2) 38 (ix a1)), (su τ_2 25 0 2))
                      else none
                    else
                      if inb a1 6 = true then
                      some (((su τ_2 25 0 2) 32 (ix a1)), (su τ_2 25 0 2))
                      else none
        else
          some ((-1), (su τ_2 25 0 2))
        else none
      else
        some (0, (su τ_2 25 0 2))
  else
    if ((su τ_1 25 0 1) 25 0) = 0 then
      if inb a1 6 = true then
      if 0 ≤ ((su τ_1 25 0 1) 32 (ix a1)) then
        if a2 = 0 then
          if inb a1 6 = true then
          some (((su τ_1 25 0 1) 33 (ix a1)), (su τ_1 25 0 1))
          else none
        else
          if a2 = 1 then
            if inb a1 6 = true then
            some (((su τ_1 25 0 1) 34 (ix a1)), (su τ_1 25 0 1))
            else none
          else
            if a2 = 2 then
              if inb a1 6 = true then
              some (((su τ_1 25 0 1) 35 (ix a1)), (su τ_1 25 0 1))
              else none
            else
              if a2 = 3 then
                if inb a1 6 = true then
                some (((su τ_1 25 0 1) 36 (ix a1)), (su τ_1 25 0 1))
                else none
              else
                if a2 = 4 then
                  if inb a1 6 = true then
                  some (((su τ_1 25 0 1) 37 (ix a1)), (su τ_1 25 0 1))
                  else none
                else
                  if a2 = 5 then
                    if inb a1 6 = true then
                    some (((su τ_1 25 0 1) 38 (ix a1)), (su τ_1 25 0 1))
                    else none
                  else
                    if inb a1 6 = true then
                    some (((su τ_1 25 0 1) 32 (ix a1)), (su τ_1 25 0 1))
                    else none
      else
        some ((-1), (su τ_1 25 0 1))
      else none
    else
      some (0, (su τ_1 25 0 1))
set_option maxRecDepth 100000 in
set_option maxHeartbeats 4000000 in
theorem c_X4_at (l : Launch) (D : va_G) (ca : Nat → ClassId) (ad : Nat → Nat) (N : Nat) (a1 : Int32) (a2 : Int32) (σ : St) (r : Int32) (τ : St) (hf : f_X4_at N a1 a2 σ = some (r, τ)) : cM l yX4_at (.code yX4_at cX4_at 3 (some .int)) (rmk 1) D ca ad SH [.ref (ad 25), .int a1, .int a2] σ (some (.int r)) τ := by
  refine cM.intro2 (own := RX4) (lo := [some (.ref (ad 25)), some (.int a1), some (.int a2)]) (by decide) rfl (ccR (ccI (ccI cc0))) (Nat.le_of_ble_eq_true rfl) rfl ?_
  intro p e s m args below meth c A C hr hlk
  unfold f_X4_at at hf
  refine s_aloadn (pc := 0) C dX4_at_0 rfl ?_
  refine s_aloadn (pc := 1) C dX4_at_1 rfl ?_
  refine s_iloadn (pc := 2) C dX4_at_2 rfl ?_
  obtain ⟨r_1, τ_1, e_1, hf⟩ := bnd hf
  refine s_callV (pc := 3) (rest := [.ref (ad 25)]) C rfl (c_X4_noPiece l D ca ad N a1 σ r_1 τ_1 e_1) kv_X4_192 ⟨rfl, rfl⟩ (by decide) SH_25 ⟨_, rfl, rfl⟩ rfl rfl (Nat.le_of_ble_eq_true rfl) dX4_at_3 ⟨Nat.zero_le _, Nat.zero_le _⟩ ?_
  refine s_st (st' := [.int r_1, .ref (ad 25)]) rfl ?_
  refine s_if_eq (pc := 6) (tgt := 13) C dX4_at_6 (by decide) (fun h_1 => ?_) (fun h_1 => ?_)
  · replace hf := ifp h_1 hf
    refine s_iloadn (pc := 13) C dX4_at_13 rfl ?_
    refine s_iconst (pc := 14) (v := 0) C dX4_at_14 (by decide) ?_
    refine s_bipush (pc := 15) (v := 6) C dX4_at_15 (by decide) ?_
    obtain ⟨r_2, τ_2, e_2, hf⟩ := bnd hf
    refine s_callO (pc := 17) (rest := [.ref (ad 25)]) C rfl (c_X4_not l D ca ad N a2 0 6 τ_1 r_2 τ_2 e_2) ko_X4_188 ⟨rfl, rfl⟩ (by decide) rfl rfl (Nat.le_of_ble_eq_true rfl) dX4_at_17 ⟨Nat.zero_le _, Nat.zero_le _⟩ ?_
    refine s_st (st' := [.int r_2, .ref (ad 25)]) rfl ?_
    refine s_if_eq (pc := 20) (tgt := 27) C dX4_at_20 (by decide) (fun h_2 => ?_) (fun h_2 => ?_)
    · replace hf := ifp h_2 hf
      refine s_iconst (pc := 27) (v := 0) C dX4_at_27 (by decide) ?_
      refine s_putI (pc := 28) C fp_X4_7 SH_25 rfl dX4_at_28 ?_
      refine s_aloadn (pc := 31) C dX4_at_31 rfl ?_
      refine s_getI (pc := 32) C fl_X4_7 SH_25 rfl dX4_at_32 ?_
      refine s_if_eq (pc := 35) (tgt := 40) C dX4_at_35 (by decide) (fun h_3 => ?_) (fun h_3 => ?_)
      · replace hf := ifp h_3 hf
        refine s_aloadn (pc := 40) C dX4_at_40 rfl ?_
        refine s_getR (pc := 41) (r := 32) C fl_X4_41 SH_25 rfl dX4_at_41 ?_
        refine s_iloadn (pc := 44) C dX4_at_44 rfl ?_
        obtain ⟨g_1, hf⟩ := gd hf
        refine s_iald (pc := 45) C SH_32 (ty0 ca) g_1 dX4_at_45 ?_
        refine s_if_ge (pc := 46) (tgt := 51) C dX4_at_46 (by decide) (fun h_4 => ?_) (fun h_4 => ?_)
        · replace hf := ifp h_4 hf
          refine s_iloadn (pc := 51) C dX4_at_51 rfl ?_
          by_cases h_5 : a2 = 0
          · replace hf := ifp h_5 hf
            refine s_tsw (pc := 52) (off := 40) (tgt := 92) C h_5 dX4_at_52 (by decide) ?_
            refine s_aloadn (pc := 92) C dX4_at_92 rfl ?_
            refine s_getR (pc := 93) (r := 33) C fl_X4_44 SH_25 rfl dX4_at_93 ?_
            refine s_iloadn (pc := 96) C dX4_at_96 rfl ?_
            obtain ⟨g_2, hf⟩ := gd hf
            refine s_iald (pc := 97) C SH_33 (ty0 ca) g_2 dX4_at_97 ?_
            exact s_iret (pc := 98) C hr hlk dX4_at_98 (congrArg (fun z => some (Value.int z)) (rt hf).1) (rt hf).2
          · replace hf := ifn h_5 hf
            by_cases h_6 : a2 = 1
            · replace hf := ifp h_6 hf
              refine s_tsw (pc := 52) (off := 47) (tgt := 99) C h_6 dX4_at_52 (by decide) ?_
              refine s_aloadn (pc := 99) C dX4_at_99 rfl ?_
              refine s_getR (pc := 100) (r := 34) C fl_X4_47 SH_25 rfl dX4_at_100 ?_
              refine s_iloadn (pc := 103) C dX4_at_103 rfl ?_
              obtain ⟨g_3, hf⟩ := gd hf
              refine s_iald (pc := 104) C SH_34 (ty0 ca) g_3 dX4_at_104 ?_
              exact s_iret (pc := 105) C hr hlk dX4_at_105 (congrArg (fun z => some (Value.int z)) (rt hf).1) (rt hf).2
            · replace hf := ifn h_6 hf
              by_cases h_7 : a2 = 2
              · replace hf := ifp h_7 hf
                refine s_tsw (pc := 52) (off := 54) (tgt := 106) C h_7 dX4_at_52 (by decide) ?_
                refine s_aloadn (pc := 106) C dX4_at_106 rfl ?_
                refine s_getR (pc := 107) (r := 35) C fl_X4_50 SH_25 rfl dX4_at_107 ?_
                refine s_iloadn (pc := 110) C dX4_at_110 rfl ?_
                obtain ⟨g_4, hf⟩ := gd hf
                refine s_iald (pc := 111) C SH_35 (ty0 ca) g_4 dX4_at_111 ?_
                exact s_iret (pc := 112) C hr hlk dX4_at_112 (congrArg (fun z => some (Value.int z)) (rt hf).1) (rt hf).2
              · replace hf := ifn h_7 hf
                by_cases h_8 : a2 = 3
                · replace hf := ifp h_8 hf
                  refine s_tsw (pc := 52) (off := 61) (tgt := 113) C h_8 dX4_at_52 (by decide) ?_
                  refine s_aloadn (pc := 113) C dX4_at_113 rfl ?_
                  refine s_getR (pc := 114) (r := 36) C fl_X4_53 SH_25 rfl dX4_at_114 ?_
                  refine s_iloadn (pc := 117) C dX4_at_117 rfl ?_
                  obtain ⟨g_5, hf⟩ := gd hf
                  refine s_iald (pc := 118) C SH_36 (ty0 ca) g_5 dX4_at_118 ?_
                  exact s_iret (pc := 119) C hr hlk dX4_at_119 (congrArg (fun z => some (Value.int z)) (rt hf).1) (rt hf).2
                · replace hf := ifn h_8 hf
                  by_cases h_9 : a2 = 4
                  · replace hf := ifp h_9 hf
                    refine s_tsw (pc := 52) (off := 68) (tgt := 120) C h_9 dX4_at_52 (by decide) ?_
                    refine s_aloadn (pc := 120) C dX4_at_120 rfl ?_
                    refine s_getR (pc := 121) (r := 37) C fl_X4_56 SH_25 rfl dX4_at_121 ?_
                    refine s_iloadn (pc := 124) C dX4_at_124 rfl ?_
                    obtain ⟨g_6, hf⟩ := gd hf
                    refine s_iald (pc := 125) C SH_37 (ty0 ca) g_6 dX4_at_125 ?_
                    exact s_iret (pc := 126) C hr hlk dX4_at_126 (congrArg (fun z => some (Value.int z)) (rt hf).1) (rt hf).2
                  · replace hf := ifn h_9 hf
                    by_cases h_10 : a2 = 5
                    · replace hf := ifp h_10 hf
                      refine s_tsw (pc := 52) (off := 75) (tgt := 127) C h_10 dX4_at_52 (by decide) ?_
                      refine s_aloadn (pc := 127) C dX4_at_127 rfl ?_
                      refine s_getR (pc := 128) (r := 38) C fl_X4_59 SH_25 rfl dX4_at_128 ?_
                      refine s_iloadn (pc := 131) C dX4_at_131 rfl ?_
                      obtain ⟨g_7, hf⟩ := gd hf
                      refine s_iald (pc := 132) C SH_38 (ty0 ca) g_7 dX4_at_132 ?_
                      exact s_iret (pc := 133) C hr hlk dX4_at_133 (congrArg (fun z => some (Value.int z)) (rt hf).1) (rt hf).2
                    · replace hf := ifn h_10 hf
                      have ho : (Int32.toInt a2) < 0 ∨ 5 < Int32.toInt a2 := by
                        have z0 := lv_neT h_5 (a := 0) (by decide)
                        have z1 := lv_neT h_6 (a := 1) (by decide)
                        have z2 := lv_neT h_7 (a := 2) (by decide)
                        have z3 := lv_neT h_8 (a := 3) (by decide)
                        have z4 := lv_neT h_9 (a := 4) (by decide)
                        have z5 := lv_neT h_10 (a := 5) (by decide)
                        omega
                      refine s_tswD (pc := 52) (tgt := 134) C ho dX4_at_52 (by decide) ?_
                      refine s_aloadn (pc := 134) C dX4_at_134 rfl ?_
                      refine s_getR (pc := 135) (r := 32) C fl_X4_41 SH_25 rfl dX4_at_135 ?_
                      refine s_iloadn (pc := 138) C dX4_at_138 rfl ?_
                      obtain ⟨g_8, hf⟩ := gd hf
                      refine s_iald (pc := 139) C SH_32 (ty0 ca) g_8 dX4_at_139 ?_
                      exact s_iret (pc := 140) C hr hlk dX4_at_140 (congrArg (fun z => some (Value.int z)) (rt hf).1) (rt hf).2
        · replace hf := ifn h_4 hf
          refine s_iconst (pc := 49) (v := (-1)) C dX4_at_49 (by decide) ?_
          exact s_iret (pc := 50) C hr hlk dX4_at_50 (congrArg (fun z => some (Value.int z)) (rt hf).1) (rt hf).2
      · replace hf := ifn h_3 hf
        refine s_iconst (pc := 38) (v := 0) C dX4_at_38 (by decide) ?_
        exact s_iret (pc := 39) C hr hlk dX4_at_39 (congrArg (fun z => some (Value.int z)) (rt hf).1) (rt hf).2
    · replace hf := ifn h_2 hf
      refine s_iconst (pc := 23) (v := 2) C dX4_at_23 (by decide) ?_
      refine s_goto (pc := 24) (tgt := 28) C dX4_at_24 (by decide) ?_
      refine s_putI (pc := 28) C fp_X4_7 SH_25 rfl dX4_at_28 ?_
      refine s_aloadn (pc := 31) C dX4_at_31 rfl ?_
      refine s_getI (pc := 32) C fl_X4_7 SH_25 rfl dX4_at_32 ?_
      refine s_if_eq (pc := 35) (tgt := 40) C dX4_at_35 (by decide) (fun h_11 => ?_) (fun h_11 => ?_)
      · replace hf := ifp h_11 hf
        refine s_aloadn (pc := 40) C dX4_at_40 rfl ?_
        refine s_getR (pc := 41) (r := 32) C fl_X4_41 SH_25 rfl dX4_at_41 ?_
        refine s_iloadn (pc := 44) C dX4_at_44 rfl ?_
        obtain ⟨g_9, hf⟩ := gd hf
        refine s_iald (pc := 45) C SH_32 (ty0 ca) g_9 dX4_at_45 ?_
        refine s_if_ge (pc := 46) (tgt := 51) C dX4_at_46 (by decide) (fun h_12 => ?_) (fun h_12 => ?_)
        · replace hf := ifp h_12 hf
          refine s_iloadn (pc := 51) C dX4_at_51 rfl ?_
          by_cases h_13 : a2 = 0
          · replace hf := ifp h_13 hf
            refine s_tsw (pc := 52) (off := 40) (tgt := 92) C h_13 dX4_at_52 (by decide) ?_
            refine s_aloadn (pc := 92) C dX4_at_92 rfl ?_
            refine s_getR (pc := 93) (r := 33) C fl_X4_44 SH_25 rfl dX4_at_93 ?_
            refine s_iloadn (pc := 96) C dX4_at_96 rfl ?_
            obtain ⟨g_10, hf⟩ := gd hf
            refine s_iald (pc := 97) C SH_33 (ty0 ca) g_10 dX4_at_97 ?_
            exact s_iret (pc := 98) C hr hlk dX4_at_98 (congrArg (fun z => some (Value.int z)) (rt hf).1) (rt hf).2
          · replace hf := ifn h_13 hf
            by_cases h_14 : a2 = 1
            · replace hf := ifp h_14 hf
              refine s_tsw (pc := 52) (off := 47) (tgt := 99) C h_14 dX4_at_52 (by decide) ?_
              refine s_aloadn (pc := 99) C dX4_at_99 rfl ?_
              refine s_getR (pc := 100) (r := 34) C fl_X4_47 SH_25 rfl dX4_at_100 ?_
              refine s_iloadn (pc := 103) C dX4_at_103 rfl ?_
              obtain ⟨g_11, hf⟩ := gd hf
              refine s_iald (pc := 104) C SH_34 (ty0 ca) g_11 dX4_at_104 ?_
              exact s_iret (pc := 105) C hr hlk dX4_at_105 (congrArg (fun z => some (Value.int z)) (rt hf).1) (rt hf).2
            · replace hf := ifn h_14 hf
              by_cases h_15 : a2 = 2
              · replace hf := ifp h_15 hf
                refine s_tsw (pc := 52) (off := 54) (tgt := 106) C h_15 dX4_at_52 (by decide) ?_
                refine s_aloadn (pc := 106) C dX4_at_106 rfl ?_
                refine s_getR (pc := 107) (r := 35) C fl_X4_50 SH_25 rfl dX4_at_107 ?_
                refine s_iloadn (pc := 110) C dX4_at_110 rfl ?_
                obtain ⟨g_12, hf⟩ := gd hf
                refine s_iald (pc := 111) C SH_35 (ty0 ca) g_12 dX4_at_111 ?_
                exact s_iret (pc := 112) C hr hlk dX4_at_112 (congrArg (fun z => some (Value.int z)) (rt hf).1) (rt hf).2
              · replace hf := ifn h_15 hf
                by_cases h_16 : a2 = 3
                · replace hf := ifp h_16 hf
                  refine s_tsw (pc := 52) (off := 61) (tgt := 113) C h_16 dX4_at_52 (by decide) ?_
                  refine s_aloadn (pc := 113) C dX4_at_113 rfl ?_
                  refine s_getR (pc := 114) (r := 36) C fl_X4_53 SH_25 rfl dX4_at_114 ?_
                  refine s_iloadn (pc := 117) C dX4_at_117 rfl ?_
                  obtain ⟨g_13, hf⟩ := gd hf
                  refine s_iald (pc := 118) C SH_36 (ty0 ca) g_13 dX4_at_118 ?_
                  exact s_iret (pc := 119) C hr hlk dX4_at_119 (congrArg (fun z => some (Value.int z)) (rt hf).1) (rt hf).2
                · replace hf := ifn h_16 hf
                  by_cases h_17 : a2 = 4
                  · replace hf := ifp h_17 hf
                    refine s_tsw (pc := 52) (off := 68) (tgt := 120) C h_17 dX4_at_52 (by decide) ?_
                    refine s_aloadn (pc := 120) C dX4_at_120 rfl ?_
                    refine s_getR (pc := 121) (r := 37) C fl_X4_56 SH_25 rfl dX4_at_121 ?_
                    refine s_iloadn (pc := 124) C dX4_at_124 rfl ?_
                    obtain ⟨g_14, hf⟩ := gd hf
                    refine s_iald (pc := 125) C SH_37 (ty0 ca) g_14 dX4_at_125 ?_
                    exact s_iret (pc := 126) C hr hlk dX4_at_126 (congrArg (fun z => some (Value.int z)) (rt hf).1) (rt hf).2
                  · replace hf := ifn h_17 hf
                    by_cases h_18 : a2 = 5
                    · replace hf := ifp h_18 hf
                      refine s_tsw (pc := 52) (off := 75) (tgt := 127) C h_18 dX4_at_52 (by decide) ?_
                      refine s_aloadn (pc := 127) C dX4_at_127 rfl ?_
                      refine s_getR (pc := 128) (r := 38) C fl_X4_59 SH_25 rfl dX4_at_128 ?_
                      refine s_iloadn (pc := 131) C dX4_at_131 rfl ?_
                      obtain ⟨g_15, hf⟩ := gd hf
                      refine s_iald (pc := 132) C SH_38 (ty0 ca) g_15 dX4_at_132 ?_
                      exact s_iret (pc := 133) C hr hlk dX4_at_133 (congrArg (fun z => some (Value.int z)) (rt hf).1) (rt hf).2
                    · replace hf := ifn h_18 hf
                      have ho : (Int32.toInt a2) < 0 ∨ 5 < Int32.toInt a2 := by
                        have z0 := lv_neT h_13 (a := 0) (by decide)
                        have z1 := lv_neT h_14 (a := 1) (by decide)
                        have z2 := lv_neT h_15 (a := 2) (by decide)
                        have z3 := lv_neT h_16 (a := 3) (by decide)
                        have z4 := lv_neT h_17 (a := 4) (by decide)
                        have z5 := lv_neT h_18 (a := 5) (by decide)
                        omega
                      refine s_tswD (pc := 52) (tgt := 134) C ho dX4_at_52 (by decide) ?_
                      refine s_aloadn (pc := 134) C dX4_at_134 rfl ?_
                      refine s_getR (pc := 135) (r := 32) C fl_X4_41 SH_25 rfl dX4_at_135 ?_
                      refine s_iloadn (pc := 138) C dX4_at_138 rfl ?_
                      obtain ⟨g_16, hf⟩ := gd hf
                      refine s_iald (pc := 139) C SH_32 (ty0 ca) g_16 dX4_at_139 ?_
                      exact s_iret (pc := 140) C hr hlk dX4_at_140 (congrArg (fun z => some (Value.int z)) (rt hf).1) (rt hf).2
        · replace hf := ifn h_12 hf
          refine s_iconst (pc := 49) (v := (-1)) C dX4_at_49 (by decide) ?_
          exact s_iret (pc := 50) C hr hlk dX4_at_50 (congrArg (fun z => some (Value.int z)) (rt hf).1) (rt hf).2
      · replace hf := ifn h_11 hf
        refine s_iconst (pc := 38) (v := 0) C dX4_at_38 (by decide) ?_
        exact s_iret (pc := 39) C hr hlk dX4_at_39 (congrArg (fun z => some (Value.int z)) (rt hf).1) (rt hf).2
  · replace hf := ifn h_1 hf
    refine s_iconst (pc := 9) (v := 1) C dX4_at_9 (by decide) ?_
    refine s_goto (pc := 10) (tgt := 28) C dX4_at_10 (by decide) ?_
    refine s_putI (pc := 28) C fp_X4_7 SH_25 rfl dX4_at_28 ?_
    refine s_aloadn (pc := 31) C dX4_at_31 rfl ?_
    refine s_getI (pc := 32) C fl_X4_7 SH_25 rfl dX4_at_32 ?_
    refine s_if_eq (pc := 35) (tgt := 40) C dX4_at_35 (by decide) (fun h_19 => ?_) (fun h_19 => ?_)
    · replace hf := ifp h_19 hf
      refine s_aloadn (pc := 40) C dX4_at_40 rfl ?_
      refine s_getR (pc := 41) (r := 32) C fl_X4_41 SH_25 rfl dX4_at_41 ?_
      refine s_iloadn (pc := 44) C dX4_at_44 rfl ?_
      obtain ⟨g_17, hf⟩ := gd hf
      refine s_iald (pc := 45) C SH_32 (ty0 ca) g_17 dX4_at_45 ?_
      refine s_if_ge (pc := 46) (tgt := 51) C dX4_at_46 (by decide) (fun h_20 => ?_) (fun h_20 => ?_)
      · replace hf := ifp h_20 hf
        refine s_iloadn (pc := 51) C dX4_at_51 rfl ?_
        by_cases h_21 : a2 = 0
        · replace hf := ifp h_21 hf
          refine s_tsw (pc := 52) (off := 40) (tgt := 92) C h_21 dX4_at_52 (by decide) ?_
          refine s_aloadn (pc := 92) C dX4_at_92 rfl ?_
          refine s_getR (pc := 93) (r := 33) C fl_X4_44 SH_25 rfl dX4_at_93 ?_
          refine s_iloadn (pc := 96) C dX4_at_96 rfl ?_
          obtain ⟨g_18, hf⟩ := gd hf
          refine s_iald (pc := 97) C SH_33 (ty0 ca) g_18 dX4_at_97 ?_
          exact s_iret (pc := 98) C hr hlk dX4_at_98 (congrArg (fun z => some (Value.int z)) (rt hf).1) (rt hf).2
        · replace hf := ifn h_21 hf
          by_cases h_22 : a2 = 1
          · replace hf := ifp h_22 hf
            refine s_tsw (pc := 52) (off := 47) (tgt := 99) C h_22 dX4_at_52 (by decide) ?_
            refine s_aloadn (pc := 99) C dX4_at_99 rfl ?_
            refine s_getR (pc := 100) (r := 34) C fl_X4_47 SH_25 rfl dX4_at_100 ?_
            refine s_iloadn (pc := 103) C dX4_at_103 rfl ?_
            obtain ⟨g_19, hf⟩ := gd hf
            refine s_iald (pc := 104) C SH_34 (ty0 ca) g_19 dX4_at_104 ?_
            exact s_iret (pc := 105) C hr hlk dX4_at_105 (congrArg (fun z => some (Value.int z)) (rt hf).1) (rt hf).2
          · replace hf := ifn h_22 hf
            by_cases h_23 : a2 = 2
            · replace hf := ifp h_23 hf
              refine s_tsw (pc := 52) (off := 54) (tgt := 106) C h_23 dX4_at_52 (by decide) ?_
              refine s_aloadn (pc := 106) C dX4_at_106 rfl ?_
              refine s_getR (pc := 107) (r := 35) C fl_X4_50 SH_25 rfl dX4_at_107 ?_
              refine s_iloadn (pc := 110) C dX4_at_110 rfl ?_
              obtain ⟨g_20, hf⟩ := gd hf
              refine s_iald (pc := 111) C SH_35 (ty0 ca) g_20 dX4_at_111 ?_
              exact s_iret (pc := 112) C hr hlk dX4_at_112 (congrArg (fun z => some (Value.int z)) (rt hf).1) (rt hf).2
            · replace hf := ifn h_23 hf
              by_cases h_24 : a2 = 3
              · replace hf := ifp h_24 hf
                refine s_tsw (pc := 52) (off := 61) (tgt := 113) C h_24 dX4_at_52 (by decide) ?_
                refine s_aloadn (pc := 113) C dX4_at_113 rfl ?_
                refine s_getR (pc := 114) (r := 36) C fl_X4_53 SH_25 rfl dX4_at_114 ?_
                refine s_iloadn (pc := 117) C dX4_at_117 rfl ?_
                obtain ⟨g_21, hf⟩ := gd hf
                refine s_iald (pc := 118) C SH_36 (ty0 ca) g_21 dX4_at_118 ?_
                exact s_iret (pc := 119) C hr hlk dX4_at_119 (congrArg (fun z => some (Value.int z)) (rt hf).1) (rt hf).2
              · replace hf := ifn h_24 hf
                by_cases h_25 : a2 = 4
                · replace hf := ifp h_25 hf
                  refine s_tsw (pc := 52) (off := 68) (tgt := 120) C h_25 dX4_at_52 (by decide) ?_
                  refine s_aloadn (pc := 120) C dX4_at_120 rfl ?_
                  refine s_getR (pc := 121) (r := 37) C fl_X4_56 SH_25 rfl dX4_at_121 ?_
                  refine s_iloadn (pc := 124) C dX4_at_124 rfl ?_
                  obtain ⟨g_22, hf⟩ := gd hf
                  refine s_iald (pc := 125) C SH_37 (ty0 ca) g_22 dX4_at_125 ?_
                  exact s_iret (pc := 126) C hr hlk dX4_at_126 (congrArg (fun z => some (Value.int z)) (rt hf).1) (rt hf).2
                · replace hf := ifn h_25 hf
                  by_cases h_26 : a2 = 5
                  · replace hf := ifp h_26 hf
                    refine s_tsw (pc := 52) (off := 75) (tgt := 127) C h_26 dX4_at_52 (by decide) ?_
                    refine s_aloadn (pc := 127) C dX4_at_127 rfl ?_
                    refine s_getR (pc := 128) (r := 38) C fl_X4_59 SH_25 rfl dX4_at_128 ?_
                    refine s_iloadn (pc := 131) C dX4_at_131 rfl ?_
                    obtain ⟨g_23, hf⟩ := gd hf
                    refine s_iald (pc := 132) C SH_38 (ty0 ca) g_23 dX4_at_132 ?_
                    exact s_iret (pc := 133) C hr hlk dX4_at_133 (congrArg (fun z => some (Value.int z)) (rt hf).1) (rt hf).2
                  · replace hf := ifn h_26 hf
                    have ho : (Int32.toInt a2) < 0 ∨ 5 < Int32.toInt a2 := by
                      have z0 := lv_neT h_21 (a := 0) (by decide)
                      have z1 := lv_neT h_22 (a := 1) (by decide)
                      have z2 := lv_neT h_23 (a := 2) (by decide)
                      have z3 := lv_neT h_24 (a := 3) (by decide)
                      have z4 := lv_neT h_25 (a := 4) (by decide)
                      have z5 := lv_neT h_26 (a := 5) (by decide)
                      omega
                    refine s_tswD (pc := 52) (tgt := 134) C ho dX4_at_52 (by decide) ?_
                    refine s_aloadn (pc := 134) C dX4_at_134 rfl ?_
                    refine s_getR (pc := 135) (r := 32) C fl_X4_41 SH_25 rfl dX4_at_135 ?_
                    refine s_iloadn (pc := 138) C dX4_at_138 rfl ?_
                    obtain ⟨g_24, hf⟩ := gd hf
                    refine s_iald (pc := 139) C SH_32 (ty0 ca) g_24 dX4_at_139 ?_
                    exact s_iret (pc := 140) C hr hlk dX4_at_140 (congrArg (fun z => some (Value.int z)) (rt hf).1) (rt hf).2
      · replace hf := ifn h_20 hf
        refine s_iconst (pc := 49) (v := (-1)) C dX4_at_49 (by decide) ?_
        exact s_iret (pc := 50) C hr hlk dX4_at_50 (congrArg (fun z => some (Value.int z)) (rt hf).1) (rt hf).2
    · replace hf := ifn h_19 hf
      refine s_iconst (pc := 38) (v := 0) C dX4_at_38 (by decide) ?_
      exact s_iret (pc := 39) C hr hlk dX4_at_39 (congrArg (fun z => some (Value.int z)) (rt hf).1) (rt hf).2
def f_X4_over (N : Nat) (a1 : Int32) (a2 : Int32) (σ : St) : Option (Int32 × St) :=
  bn (f_X4_noPiece N a1 σ) fun r_1 τ_1 =>
  if r_1 = 0 then
    bn (f_X4_noPiece N a2 τ_1) fun r_3 τ_3 =>
    if r_3 = 0 then
      if a1 = a2 then
        if ((su τ_3 25 0 2) 25 0) = 0 then
          bn (f_X4_area N a1 a2 (su τ_3 25 0 2)) fun r_4 τ_4 =>
          if r_4 ≤ 0 then
            some (0, τ_4)
          else
            some (1, τ_4)
        else
          some (0, (su τ_3 25 0 2))
      else
        if inb a1 6 = true then
        if (τ_3 32 (ix a1)) < 0 then
          if ((su τ_3 25 0 2) 25 0) = 0 then
            bn (f_X4_area N a1 a2 (su τ_3 25 0 2)) fun r_5 τ_5 =>
            if r_5 ≤ 0 then
              some (0, τ_5)
            else
              some (1, τ_5)
          else
            some (0, (su τ_3 25 0 2))
        else
          if inb a2 6 = true then
          if 0 ≤ (τ_3 32 (ix a2)) then
            if ((su τ_3 25 0 0) 25 0) = 0 then
              bn (f_X4_area N a1 a2 (su τ_3 25 0 0)) fun r_6 τ_6 =>
              if r_6 ≤ 0 then
                some (0, τ_6)
              else
                some (1, τ_6)
            else
              some (0, (su τ_3 25 0 0))
          else
            if ((su τ_3 25 0 2) 25 0) = 0 then
              bn (f_X4_area N a1 a2 (su τ_3 25 0 2)) fun r_7 τ_7 =>
              if r_7 ≤ 0 then
                some (0, τ_7)
              else
                some (1, τ_7)
            else
              some (0, (su τ_3 25 0 2))
          else none
        else none
    else
      if ((su τ_3 25 0 1) 25 0) = 0 then
        bn (f_X4_area N a1 a2 (su τ_3 25 0 1)) fun r_8 τ_8 =>
        if r_8 ≤ 0 then
          some (0, τ_8)
        else
          some (1, τ_8)
      else
        some (0, (su τ_3 25 0 1))
  else
    if ((su τ_1 25 0 1) 25 0) = 0 then
      bn (f_X4_area N a1 a2 (su τ_1 25 0 1)) fun r_2 τ_2 =>
      if r_2 ≤ 0 then
        some (0, τ_2)
      else
        some (1, τ_2)
    else
      some (0, (su τ_1 25 0 1))
set_option maxRecDepth 100000 in
set_option maxHeartbeats 4000000 in
theorem c_X4_over (l : Launch) (D : va_G) (ca : Nat → ClassId) (ad : Nat → Nat) (N : Nat) (a1 : Int32) (a2 : Int32) (σ : St) (r : Int32) (τ : St) (hf : f_X4_over N a1 a2 σ = some (r, τ)) : cM l yX4_over (.code yX4_over cX4_over 3 (some .boolean)) (rmk 2) D ca ad SH [.ref (ad 25), .int a1, .int a2] σ (some (.int r)) τ := by
  refine cM.intro2 (own := RX4) (lo := [some (.ref (ad 25)), some (.int a1), some (.int a2)]) (by decide) rfl (ccR (ccI (ccI cc0))) (Nat.le_of_ble_eq_true rfl) rfl ?_
  intro p e s m args below meth c A C hr hlk
  unfold f_X4_over at hf
  refine s_aloadn (pc := 0) C dX4_over_0 rfl ?_
  refine s_aloadn (pc := 1) C dX4_over_1 rfl ?_
  refine s_iloadn (pc := 2) C dX4_over_2 rfl ?_
  obtain ⟨r_1, τ_1, e_1, hf⟩ := bnd hf
  refine s_callV (pc := 3) (rest := [.ref (ad 25)]) C rfl (c_X4_noPiece l D ca ad N a1 σ r_1 τ_1 e_1) kv_X4_192 ⟨rfl, rfl⟩ (by decide) SH_25 ⟨_, rfl, rfl⟩ rfl rfl (Nat.le_of_ble_eq_true rfl) dX4_over_3 ⟨Nat.zero_le _, Nat.zero_le _⟩ ?_
  refine s_st (st' := [.int r_1, .ref (ad 25)]) rfl ?_
  refine s_if_ne (pc := 6) (tgt := 17) C dX4_over_6 (by decide) (fun h_1 => ?_) (fun h_1 => ?_)
  · replace hf := ifn h_1 hf
    refine s_iconst (pc := 17) (v := 1) C dX4_over_17 (by decide) ?_
    refine s_goto (pc := 18) (tgt := 49) C dX4_over_18 (by decide) ?_
    refine s_putI (pc := 49) C fp_X4_7 SH_25 rfl dX4_over_49 ?_
    refine s_aloadn (pc := 52) C dX4_over_52 rfl ?_
    refine s_getI (pc := 53) C fl_X4_7 SH_25 rfl dX4_over_53 ?_
    refine s_if_ne (pc := 56) (tgt := 72) C dX4_over_56 (by decide) (fun h_2 => ?_) (fun h_2 => ?_)
    · replace hf := ifn h_2 hf
      refine s_iconst (pc := 72) (v := 0) C dX4_over_72 (by decide) ?_
      exact s_zret (pc := 73) C hr hlk dX4_over_73 (by decide) (congrArg (fun z => some (Value.int z)) (rt hf).1) (rt hf).2
    · replace hf := ifp h_2 hf
      refine s_aloadn (pc := 59) C dX4_over_59 rfl ?_
      refine s_iloadn (pc := 60) C dX4_over_60 rfl ?_
      refine s_iloadn (pc := 61) C dX4_over_61 rfl ?_
      obtain ⟨r_2, τ_2, e_2, hf⟩ := bnd hf
      refine s_callV (pc := 62) (rest := []) C rfl (c_X4_area l D ca ad N a1 a2 (su τ_1 25 0 1) r_2 τ_2 e_2) kv_X4_143 ⟨rfl, rfl⟩ (by decide) SH_25 ⟨_, rfl, rfl⟩ rfl rfl (Nat.le_of_ble_eq_true rfl) dX4_over_62 ⟨Nat.zero_le _, Nat.zero_le _⟩ ?_
      refine s_st (st' := [.int r_2]) rfl ?_
      refine s_if_le (pc := 65) (tgt := 72) C dX4_over_65 (by decide) (fun h_3 => ?_) (fun h_3 => ?_)
      · replace hf := ifp h_3 hf
        refine s_iconst (pc := 72) (v := 0) C dX4_over_72 (by decide) ?_
        exact s_zret (pc := 73) C hr hlk dX4_over_73 (by decide) (congrArg (fun z => some (Value.int z)) (rt hf).1) (rt hf).2
      · replace hf := ifn h_3 hf
        refine s_iconst (pc := 68) (v := 1) C dX4_over_68 (by decide) ?_
        refine s_goto (pc := 69) (tgt := 73) C dX4_over_69 (by decide) ?_
        exact s_zret (pc := 73) C hr hlk dX4_over_73 (by decide) (congrArg (fun z => some (Value.int z)) (rt hf).1) (rt hf).2
  · replace hf := ifp h_1 hf
    refine s_aloadn (pc := 9) C dX4_over_9 rfl ?_
    refine s_iloadn (pc := 10) C dX4_over_10 rfl ?_
    obtain ⟨r_3, τ_3, e_3, hf⟩ := bnd hf
    refine s_callV (pc := 11) (rest := [.ref (ad 25)]) C rfl (c_X4_noPiece l D ca ad N a2 τ_1 r_3 τ_3 e_3) kv_X4_192 ⟨rfl, rfl⟩ (by decide) SH_25 ⟨_, rfl, rfl⟩ rfl rfl (Nat.le_of_ble_eq_true rfl) dX4_over_11 ⟨Nat.zero_le _, Nat.zero_le _⟩ ?_
    refine s_st (st' := [.int r_3, .ref (ad 25)]) rfl ?_
    refine s_if_eq (pc := 14) (tgt := 21) C dX4_over_14 (by decide) (fun h_4 => ?_) (fun h_4 => ?_)
    · replace hf := ifp h_4 hf
      refine s_iloadn (pc := 21) C dX4_over_21 rfl ?_
      refine s_iloadn (pc := 22) C dX4_over_22 rfl ?_
      refine s_icmp_eq (pc := 23) (tgt := 44) C dX4_over_23 (by decide) (fun h_5 => ?_) (fun h_5 => ?_)
      · replace hf := ifp h_5 hf
        refine s_iconst (pc := 44) (v := 2) C dX4_over_44 (by decide) ?_
        refine s_goto (pc := 45) (tgt := 49) C dX4_over_45 (by decide) ?_
        refine s_putI (pc := 49) C fp_X4_7 SH_25 rfl dX4_over_49 ?_
        refine s_aloadn (pc := 52) C dX4_over_52 rfl ?_
        refine s_getI (pc := 53) C fl_X4_7 SH_25 rfl dX4_over_53 ?_
        refine s_if_ne (pc := 56) (tgt := 72) C dX4_over_56 (by decide) (fun h_6 => ?_) (fun h_6 => ?_)
        · replace hf := ifn h_6 hf
          refine s_iconst (pc := 72) (v := 0) C dX4_over_72 (by decide) ?_
          exact s_zret (pc := 73) C hr hlk dX4_over_73 (by decide) (congrArg (fun z => some (Value.int z)) (rt hf).1) (rt hf).2
        · replace hf := ifp h_6 hf
          refine s_aloadn (pc := 59) C dX4_over_59 rfl ?_
          refine s_iloadn (pc := 60) C dX4_over_60 rfl ?_
          refine s_iloadn (pc := 61) C dX4_over_61 rfl ?_
          obtain ⟨r_4, τ_4, e_4, hf⟩ := bnd hf
          refine s_callV (pc := 62) (rest := []) C rfl (c_X4_area l D ca ad N a1 a2 (su τ_3 25 0 2) r_4 τ_4 e_4) kv_X4_143 ⟨rfl, rfl⟩ (by decide) SH_25 ⟨_, rfl, rfl⟩ rfl rfl (Nat.le_of_ble_eq_true rfl) dX4_over_62 ⟨Nat.zero_le _, Nat.zero_le _⟩ ?_
          refine s_st (st' := [.int r_4]) rfl ?_
          refine s_if_le (pc := 65) (tgt := 72) C dX4_over_65 (by decide) (fun h_7 => ?_) (fun h_7 => ?_)
          · replace hf := ifp h_7 hf
            refine s_iconst (pc := 72) (v := 0) C dX4_over_72 (by decide) ?_
            exact s_zret (pc := 73) C hr hlk dX4_over_73 (by decide) (congrArg (fun z => some (Value.int z)) (rt hf).1) (rt hf).2
          · replace hf := ifn h_7 hf
            refine s_iconst (pc := 68) (v := 1) C dX4_over_68 (by decide) ?_
            refine s_goto (pc := 69) (tgt := 73) C dX4_over_69 (by decide) ?_
            exact s_zret (pc := 73) C hr hlk dX4_over_73 (by decide) (congrArg (fun z => some (Value.int z)) (rt hf).1) (rt hf).2
      · replace hf := ifn h_5 hf
        refine s_aloadn (pc := 26) C dX4_over_26 rfl ?_
        refine s_getR (pc := 27) (r := 32) C fl_X4_41 SH_25 rfl dX4_over_27 ?_
        refine s_iloadn (pc := 30) C dX4_over_30 rfl ?_
        obtain ⟨g_1, hf⟩ := gd hf
        refine s_iald (pc := 31) C SH_32 (ty0 ca) g_1 dX4_over_31 ?_
        refine s_if_lt (pc := 32) (tgt := 44) C dX4_over_32 (by decide) (fun h_8 => ?_) (fun h_8 => ?_)
        · replace hf := ifp h_8 hf
          refine s_iconst (pc := 44) (v := 2) C dX4_over_44 (by decide) ?_
          refine s_goto (pc := 45) (tgt := 49) C dX4_over_45 (by decide) ?_
          refine s_putI (pc := 49) C fp_X4_7 SH_25 rfl dX4_over_49 ?_
          refine s_aloadn (pc := 52) C dX4_over_52 rfl ?_
          refine s_getI (pc := 53) C fl_X4_7 SH_25 rfl dX4_over_53 ?_
          refine s_if_ne (pc := 56) (tgt := 72) C dX4_over_56 (by decide) (fun h_9 => ?_) (fun h_9 => ?_)
          · replace hf := ifn h_9 hf
            refine s_iconst (pc := 72) (v := 0) C dX4_over_72 (by decide) ?_
            exact s_zret (pc := 73) C hr hlk dX4_over_73 (by decide) (congrArg (fun z => some (Value.int z)) (rt hf).1) (rt hf).2
          · replace hf := ifp h_9 hf
            refine s_aloadn (pc := 59) C dX4_over_59 rfl ?_
            refine s_iloadn (pc := 60) C dX4_over_60 rfl ?_
            refine s_iloadn (pc := 61) C dX4_over_61 rfl ?_
            obtain ⟨r_5, τ_5, e_5, hf⟩ := bnd hf
            refine s_callV (pc := 62) (rest := []) C rfl (c_X4_area l D ca ad N a1 a2 (su τ_3 25 0 2) r_5 τ_5 e_5) kv_X4_143 ⟨rfl, rfl⟩ (by decide) SH_25 ⟨_, rfl, rfl⟩ rfl rfl (Nat.le_of_ble_eq_true rfl) dX4_over_62 ⟨Nat.zero_le _, Nat.zero_le _⟩ ?_
            refine s_st (st' := [.int r_5]) rfl ?_
            refine s_if_le (pc := 65) (tgt := 72) C dX4_over_65 (by decide) (fun h_10 => ?_) (fun h_10 => ?_)
            · replace hf := ifp h_10 hf
              refine s_iconst (pc := 72) (v := 0) C dX4_over_72 (by decide) ?_
              exact s_zret (pc := 73) C hr hlk dX4_over_73 (by decide) (congrArg (fun z => some (Value.int z)) (rt hf).1) (rt hf).2
            · replace hf := ifn h_10 hf
              refine s_iconst (pc := 68) (v := 1) C dX4_over_68 (by decide) ?_
              refine s_goto (pc := 69) (tgt := 73) C dX4_over_69 (by decide) ?_
              exact s_zret (pc := 73) C hr hlk dX4_over_73 (by decide) (congrArg (fun z => some (Value.int z)) (rt hf).1) (rt hf).2
        · replace hf := ifn h_8 hf
          refine s_aloadn (pc := 35) C dX4_over_35 rfl ?_
          refine s_getR (pc := 36) (r := 32) C fl_X4_41 SH_25 rfl dX4_over_36 ?_
          refine s_iloadn (pc := 39) C dX4_over_39 rfl ?_
          obtain ⟨g_2, hf⟩ := gd hf
          refine s_iald (pc := 40) C SH_32 (ty0 ca) g_2 dX4_over_40 ?_
          refine s_if_ge (pc := 41) (tgt := 48) C dX4_over_41 (by decide) (fun h_11 => ?_) (fun h_11 => ?_)
          · replace hf := ifp h_11 hf
            refine s_iconst (pc := 48) (v := 0) C dX4_over_48 (by decide) ?_
            refine s_putI (pc := 49) C fp_X4_7 SH_25 rfl dX4_over_49 ?_
            refine s_aloadn (pc := 52) C dX4_over_52 rfl ?_
            refine s_getI (pc := 53) C fl_X4_7 SH_25 rfl dX4_over_53 ?_
            refine s_if_ne (pc := 56) (tgt := 72) C dX4_over_56 (by decide) (fun h_12 => ?_) (fun h_12 => ?_)
            · replace hf := ifn h_12 hf
              refine s_iconst (pc := 72) (v := 0) C dX4_over_72 (by decide) ?_
              exact s_zret (pc := 73) C hr hlk dX4_over_73 (by decide) (congrArg (fun z => some (Value.int z)) (rt hf).1) (rt hf).2
            · replace hf := ifp h_12 hf
              refine s_aloadn (pc := 59) C dX4_over_59 rfl ?_
              refine s_iloadn (pc := 60) C dX4_over_60 rfl ?_
              refine s_iloadn (pc := 61) C dX4_over_61 rfl ?_
              obtain ⟨r_6, τ_6, e_6, hf⟩ := bnd hf
              refine s_callV (pc := 62) (rest := []) C rfl (c_X4_area l D ca ad N a1 a2 (su τ_3 25 0 0) r_6 τ_6 e_6) kv_X4_143 ⟨rfl, rfl⟩ (by decide) SH_25 ⟨_, rfl, rfl⟩ rfl rfl (Nat.le_of_ble_eq_true rfl) dX4_over_62 ⟨Nat.zero_le _, Nat.zero_le _⟩ ?_
              refine s_st (st' := [.int r_6]) rfl ?_
              refine s_if_le (pc := 65) (tgt := 72) C dX4_over_65 (by decide) (fun h_13 => ?_) (fun h_13 => ?_)
              · replace hf := ifp h_13 hf
                refine s_iconst (pc := 72) (v := 0) C dX4_over_72 (by decide) ?_
                exact s_zret (pc := 73) C hr hlk dX4_over_73 (by decide) (congrArg (fun z => some (Value.int z)) (rt hf).1) (rt hf).2
              · replace hf := ifn h_13 hf
                refine s_iconst (pc := 68) (v := 1) C dX4_over_68 (by decide) ?_
                refine s_goto (pc := 69) (tgt := 73) C dX4_over_69 (by decide) ?_
                exact s_zret (pc := 73) C hr hlk dX4_over_73 (by decide) (congrArg (fun z => some (Value.int z)) (rt hf).1) (rt hf).2
          · replace hf := ifn h_11 hf
            refine s_iconst (pc := 44) (v := 2) C dX4_over_44 (by decide) ?_
            refine s_goto (pc := 45) (tgt := 49) C dX4_over_45 (by decide) ?_
            refine s_putI (pc := 49) C fp_X4_7 SH_25 rfl dX4_over_49 ?_
            refine s_aloadn (pc := 52) C dX4_over_52 rfl ?_
            refine s_getI (pc := 53) C fl_X4_7 SH_25 rfl dX4_over_53 ?_
            refine s_if_ne (pc := 56) (tgt := 72) C dX4_over_56 (by decide) (fun h_14 => ?_) (fun h_14 => ?_)
            · replace hf := ifn h_14 hf
              refine s_iconst (pc := 72) (v := 0) C dX4_over_72 (by decide) ?_
              exact s_zret (pc := 73) C hr hlk dX4_over_73 (by decide) (congrArg (fun z => some (Value.int z)) (rt hf).1) (rt hf).2
            · replace hf := ifp h_14 hf
              refine s_aloadn (pc := 59) C dX4_over_59 rfl ?_
              refine s_iloadn (pc := 60) C dX4_over_60 rfl ?_
              refine s_iloadn (pc := 61) C dX4_over_61 rfl ?_
              obtain ⟨r_7, τ_7, e_7, hf⟩ := bnd hf
              refine s_callV (pc := 62) (rest := []) C rfl (c_X4_area l D ca ad N a1 a2 (su τ_3 25 0 2) r_7 τ_7 e_7) kv_X4_143 ⟨rfl, rfl⟩ (by decide) SH_25 ⟨_, rfl, rfl⟩ rfl rfl (Nat.le_of_ble_eq_true rfl) dX4_over_62 ⟨Nat.zero_le _, Nat.zero_le _⟩ ?_
              refine s_st (st' := [.int r_7]) rfl ?_
              refine s_if_le (pc := 65) (tgt := 72) C dX4_over_65 (by decide) (fun h_15 => ?_) (fun h_15 => ?_)
              · replace hf := ifp h_15 hf
                refine s_iconst (pc := 72) (v := 0) C dX4_over_72 (by decide) ?_
                exact s_zret (pc := 73) C hr hlk dX4_over_73 (by decide) (congrArg (fun z => some (Value.int z)) (rt hf).1) (rt hf).2
              · replace hf := ifn h_15 hf
                refine s_iconst (pc := 68) (v := 1) C dX4_over_68 (by decide) ?_
                refine s_goto (pc := 69) (tgt := 73) C dX4_over_69 (by decide) ?_
                exact s_zret (pc := 73) C hr hlk dX4_over_73 (by decide) (congrArg (fun z => some (Value.int z)) (rt hf).1) (rt hf).2
    · replace hf := ifn h_4 hf
      refine s_iconst (pc := 17) (v := 1) C dX4_over_17 (by decide) ?_
      refine s_goto (pc := 18) (tgt := 49) C dX4_over_18 (by decide) ?_
      refine s_putI (pc := 49) C fp_X4_7 SH_25 rfl dX4_over_49 ?_
      refine s_aloadn (pc := 52) C dX4_over_52 rfl ?_
      refine s_getI (pc := 53) C fl_X4_7 SH_25 rfl dX4_over_53 ?_
      refine s_if_ne (pc := 56) (tgt := 72) C dX4_over_56 (by decide) (fun h_16 => ?_) (fun h_16 => ?_)
      · replace hf := ifn h_16 hf
        refine s_iconst (pc := 72) (v := 0) C dX4_over_72 (by decide) ?_
        exact s_zret (pc := 73) C hr hlk dX4_over_73 (by decide) (congrArg (fun z => some (Value.int z)) (rt hf).1) (rt hf).2
      · replace hf := ifp h_16 hf
        refine s_aloadn (pc := 59) C dX4_over_59 rfl ?_
        refine s_iloadn (pc := 60) C dX4_over_60 rfl ?_
        refine s_iloadn (pc := 61) C dX4_over_61 rfl ?_
        obtain ⟨r_8, τ_8, e_8, hf⟩ := bnd hf
        refine s_callV (pc := 62) (rest := []) C rfl (c_X4_area l D ca ad N a1 a2 (su τ_3 25 0 1) r_8 τ_8 e_8) kv_X4_143 ⟨rfl, rfl⟩ (by decide) SH_25 ⟨_, rfl, rfl⟩ rfl rfl (Nat.le_of_ble_eq_true rfl) dX4_over_62 ⟨Nat.zero_le _, Nat.zero_le _⟩ ?_
        refine s_st (st' := [.int r_8]) rfl ?_
        refine s_if_le (pc := 65) (tgt := 72) C dX4_over_65 (by decide) (fun h_17 => ?_) (fun h_17 => ?_)
        · replace hf := ifp h_17 hf
          refine s_iconst (pc := 72) (v := 0) C dX4_over_72 (by decide) ?_
          exact s_zret (pc := 73) C hr hlk dX4_over_73 (by decide) (congrArg (fun z => some (Value.int z)) (rt hf).1) (rt hf).2
        · replace hf := ifn h_17 hf
          refine s_iconst (pc := 68) (v := 1) C dX4_over_68 (by decide) ?_
          refine s_goto (pc := 69) (tgt := 73) C dX4_over_69 (by decide) ?_
          exact s_zret (pc := 73) C hr hlk dX4_over_73 (by decide) (congrArg (fun z => some (Value.int z)) (rt hf).1) (rt hf).2
def f_X4_support (N : Nat) (a1 : Int32) (σ : St) : Option (Int32 × St) :=
  bn (f_X4_noPiece N a1 σ) fun r_1 τ_1 =>
  if r_1 = 0 then
    if inb a1 6 = true then
    if 0 ≤ (τ_1 32 (ix a1)) then
      if ((su τ_1 25 0 0) 25 0) = 0 then
        bn (f_X4_supportOf N a1 (su τ_1 25 0 0)) fun r_2 τ_2 =>
        if inb a1 6 = true then
        if inb a1 6 = true then
        if ¬ ((τ_2 36 (ix a1)) * (τ_2 37 (ix a1))) = 0 then
        some (((100 * r_2) / ((τ_2 36 (ix a1)) * (τ_2 37 (ix a1)))), τ_2)
        else none
        else none
        else none
      else
        some (0, (su τ_1 25 0 0))
    else
      if ((su τ_1 25 0 2) 25 0) = 0 then
        bn (f_X4_supportOf N a1 (su τ_1 25 0 2)) fun r_3 τ_3 =>
        if inb a1 6 = true then
        if inb a1 6 = true then
        if ¬ ((τ_3 36 (ix a1)) * (τ_3 37 (ix a1))) = 0 then
        some (((100 * r_3) / ((τ_3 36 (ix a1)) * (τ_3 37 (ix a1)))), τ_3)
        else none
        else none
        else none
      else
        some (0, (su τ_1 25 0 2))
    else none
  else
    if ((su τ_1 25 0 1) 25 0) = 0 then
      bn (f_X4_supportOf N a1 (su τ_1 25 0 1)) fun r_4 τ_4 =>
      if inb a1 6 = true then
      if inb a1 6 = true then
      if ¬ ((τ_4 36 (ix a1)) * (τ_4 37 (ix a1))) = 0 then
      some (((100 * r_4) / ((τ_4 36 (ix a1)) * (τ_4 37 (ix a1)))), τ_4)
      else none
      else none
      else none
    else
      some (0, (su τ_1 25 0 1))
set_option maxRecDepth 100000 in
set_option maxHeartbeats 4000000 in
theorem c_X4_support (l : Launch) (D : va_G) (ca : Nat → ClassId) (ad : Nat → Nat) (N : Nat) (a1 : Int32) (σ : St) (r : Int32) (τ : St) (hf : f_X4_support N a1 σ = some (r, τ)) : cM l yX4_support (.code yX4_support cX4_support 2 (some .int)) (rmk 4) D ca ad SH [.ref (ad 25), .int a1] σ (some (.int r)) τ := by
  refine cM.intro2 (own := RX4) (lo := [some (.ref (ad 25)), some (.int a1)]) (by decide) rfl (ccR (ccI cc0)) (Nat.le_of_ble_eq_true rfl) rfl ?_
  intro p e s m args below meth c A C hr hlk
  unfold f_X4_support at hf
  refine s_aloadn (pc := 0) C dX4_support_0 rfl ?_
  refine s_aloadn (pc := 1) C dX4_support_1 rfl ?_
  refine s_iloadn (pc := 2) C dX4_support_2 rfl ?_
  obtain ⟨r_1, τ_1, e_1, hf⟩ := bnd hf
  refine s_callV (pc := 3) (rest := [.ref (ad 25)]) C rfl (c_X4_noPiece l D ca ad N a1 σ r_1 τ_1 e_1) kv_X4_192 ⟨rfl, rfl⟩ (by decide) SH_25 ⟨_, rfl, rfl⟩ rfl rfl (Nat.le_of_ble_eq_true rfl) dX4_support_3 ⟨Nat.zero_le _, Nat.zero_le _⟩ ?_
  refine s_st (st' := [.int r_1, .ref (ad 25)]) rfl ?_
  refine s_if_eq (pc := 6) (tgt := 13) C dX4_support_6 (by decide) (fun h_1 => ?_) (fun h_1 => ?_)
  · replace hf := ifp h_1 hf
    refine s_aloadn (pc := 13) C dX4_support_13 rfl ?_
    refine s_getR (pc := 14) (r := 32) C fl_X4_41 SH_25 rfl dX4_support_14 ?_
    refine s_iloadn (pc := 17) C dX4_support_17 rfl ?_
    obtain ⟨g_1, hf⟩ := gd hf
    refine s_iald (pc := 18) C SH_32 (ty0 ca) g_1 dX4_support_18 ?_
    refine s_if_ge (pc := 19) (tgt := 26) C dX4_support_19 (by decide) (fun h_2 => ?_) (fun h_2 => ?_)
    · replace hf := ifp h_2 hf
      refine s_iconst (pc := 26) (v := 0) C dX4_support_26 (by decide) ?_
      refine s_putI (pc := 27) C fp_X4_7 SH_25 rfl dX4_support_27 ?_
      refine s_aloadn (pc := 30) C dX4_support_30 rfl ?_
      refine s_getI (pc := 31) C fl_X4_7 SH_25 rfl dX4_support_31 ?_
      refine s_if_eq (pc := 34) (tgt := 41) C dX4_support_34 (by decide) (fun h_3 => ?_) (fun h_3 => ?_)
      · replace hf := ifp h_3 hf
        refine s_bipush (pc := 41) (v := 100) C dX4_support_41 (by decide) ?_
        refine s_aloadn (pc := 43) C dX4_support_43 rfl ?_
        refine s_iloadn (pc := 44) C dX4_support_44 rfl ?_
        obtain ⟨r_2, τ_2, e_2, hf⟩ := bnd hf
        refine s_callV (pc := 45) (rest := [.int 100]) C rfl (c_X4_supportOf l D ca ad N a1 (su τ_1 25 0 0) r_2 τ_2 e_2) kv_X4_149 ⟨rfl, rfl⟩ (by decide) SH_25 ⟨_, rfl, rfl⟩ rfl rfl (Nat.le_of_ble_eq_true rfl) dX4_support_45 ⟨Nat.zero_le _, Nat.zero_le _⟩ ?_
        refine s_st (st' := [.int r_2, .int 100]) rfl ?_
        refine s_imul (pc := 48) C dX4_support_48 ?_
        refine s_aloadn (pc := 49) C dX4_support_49 rfl ?_
        refine s_getR (pc := 50) (r := 36) C fl_X4_53 SH_25 rfl dX4_support_50 ?_
        refine s_iloadn (pc := 53) C dX4_support_53 rfl ?_
        obtain ⟨g_2, hf⟩ := gd hf
        refine s_iald (pc := 54) C SH_36 (ty0 ca) g_2 dX4_support_54 ?_
        refine s_aloadn (pc := 55) C dX4_support_55 rfl ?_
        refine s_getR (pc := 56) (r := 37) C fl_X4_56 SH_25 rfl dX4_support_56 ?_
        refine s_iloadn (pc := 59) C dX4_support_59 rfl ?_
        obtain ⟨g_3, hf⟩ := gd hf
        refine s_iald (pc := 60) C SH_37 (ty0 ca) g_3 dX4_support_60 ?_
        refine s_imul (pc := 61) C dX4_support_61 ?_
        obtain ⟨g_4, hf⟩ := gd hf
        refine s_idiv (pc := 62) C dX4_support_62 g_4 ?_
        exact s_iret (pc := 63) C hr hlk dX4_support_63 (congrArg (fun z => some (Value.int z)) (rt hf).1) (rt hf).2
      · replace hf := ifn h_3 hf
        refine s_iconst (pc := 37) (v := 0) C dX4_support_37 (by decide) ?_
        refine s_goto (pc := 38) (tgt := 63) C dX4_support_38 (by decide) ?_
        exact s_iret (pc := 63) C hr hlk dX4_support_63 (congrArg (fun z => some (Value.int z)) (rt hf).1) (rt hf).2
    · replace hf := ifn h_2 hf
      refine s_iconst (pc := 22) (v := 2) C dX4_support_22 (by decide) ?_
      refine s_goto (pc := 23) (tgt := 27) C dX4_support_23 (by decide) ?_
      refine s_putI (pc := 27) C fp_X4_7 SH_25 rfl dX4_support_27 ?_
      refine s_aloadn (pc := 30) C dX4_support_30 rfl ?_
      refine s_getI (pc := 31) C fl_X4_7 SH_25 rfl dX4_support_31 ?_
      refine s_if_eq (pc := 34) (tgt := 41) C dX4_support_34 (by decide) (fun h_4 => ?_) (fun h_4 => ?_)
      · replace hf := ifp h_4 hf
        refine s_bipush (pc := 41) (v := 100) C dX4_support_41 (by decide) ?_
        refine s_aloadn (pc := 43) C dX4_support_43 rfl ?_
        refine s_iloadn (pc := 44) C dX4_support_44 rfl ?_
        obtain ⟨r_3, τ_3, e_3, hf⟩ := bnd hf
        refine s_callV (pc := 45) (rest := [.int 100]) C rfl (c_X4_supportOf l D ca ad N a1 (su τ_1 25 0 2) r_3 τ_3 e_3) kv_X4_149 ⟨rfl, rfl⟩ (by decide) SH_25 ⟨_, rfl, rfl⟩ rfl rfl (Nat.le_of_ble_eq_true rfl) dX4_support_45 ⟨Nat.zero_le _, Nat.zero_le _⟩ ?_
        refine s_st (st' := [.int r_3, .int 100]) rfl ?_
        refine s_imul (pc := 48) C dX4_support_48 ?_
        refine s_aloadn (pc := 49) C dX4_support_49 rfl ?_
        refine s_getR (pc := 50) (r := 36) C fl_X4_53 SH_25 rfl dX4_support_50 ?_
        refine s_iloadn (pc := 53) C dX4_support_53 rfl ?_
        obtain ⟨g_5, hf⟩ := gd hf
        refine s_iald (pc := 54) C SH_36 (ty0 ca) g_5 dX4_support_54 ?_
        refine s_aloadn (pc := 55) C dX4_support_55 rfl ?_
        refine s_getR (pc := 56) (r := 37) C fl_X4_56 SH_25 rfl dX4_support_56 ?_
        refine s_iloadn (pc := 59) C dX4_support_59 rfl ?_
        obtain ⟨g_6, hf⟩ := gd hf
        refine s_iald (pc := 60) C SH_37 (ty0 ca) g_6 dX4_support_60 ?_
        refine s_imul (pc := 61) C dX4_support_61 ?_
        obtain ⟨g_7, hf⟩ := gd hf
        refine s_idiv (pc := 62) C dX4_support_62 g_7 ?_
        exact s_iret (pc := 63) C hr hlk dX4_support_63 (congrArg (fun z => some (Value.int z)) (rt hf).1) (rt hf).2
      · replace hf := ifn h_4 hf
        refine s_iconst (pc := 37) (v := 0) C dX4_support_37 (by decide) ?_
        refine s_goto (pc := 38) (tgt := 63) C dX4_support_38 (by decide) ?_
        exact s_iret (pc := 63) C hr hlk dX4_support_63 (congrArg (fun z => some (Value.int z)) (rt hf).1) (rt hf).2
  · replace hf := ifn h_1 hf
    refine s_iconst (pc := 9) (v := 1) C dX4_support_9 (by decide) ?_
    refine s_goto (pc := 10) (tgt := 27) C dX4_support_10 (by decide) ?_
    refine s_putI (pc := 27) C fp_X4_7 SH_25 rfl dX4_support_27 ?_
    refine s_aloadn (pc := 30) C dX4_support_30 rfl ?_
    refine s_getI (pc := 31) C fl_X4_7 SH_25 rfl dX4_support_31 ?_
    refine s_if_eq (pc := 34) (tgt := 41) C dX4_support_34 (by decide) (fun h_5 => ?_) (fun h_5 => ?_)
    · replace hf := ifp h_5 hf
      refine s_bipush (pc := 41) (v := 100) C dX4_support_41 (by decide) ?_
      refine s_aloadn (pc := 43) C dX4_support_43 rfl ?_
      refine s_iloadn (pc := 44) C dX4_support_44 rfl ?_
      obtain ⟨r_4, τ_4, e_4, hf⟩ := bnd hf
      refine s_callV (pc := 45) (rest := [.int 100]) C rfl (c_X4_supportOf l D ca ad N a1 (su τ_1 25 0 1) r_4 τ_4 e_4) kv_X4_149 ⟨rfl, rfl⟩ (by decide) SH_25 ⟨_, rfl, rfl⟩ rfl rfl (Nat.le_of_ble_eq_true rfl) dX4_support_45 ⟨Nat.zero_le _, Nat.zero_le _⟩ ?_
      refine s_st (st' := [.int r_4, .int 100]) rfl ?_
      refine s_imul (pc := 48) C dX4_support_48 ?_
      refine s_aloadn (pc := 49) C dX4_support_49 rfl ?_
      refine s_getR (pc := 50) (r := 36) C fl_X4_53 SH_25 rfl dX4_support_50 ?_
      refine s_iloadn (pc := 53) C dX4_support_53 rfl ?_
      obtain ⟨g_8, hf⟩ := gd hf
      refine s_iald (pc := 54) C SH_36 (ty0 ca) g_8 dX4_support_54 ?_
      refine s_aloadn (pc := 55) C dX4_support_55 rfl ?_
      refine s_getR (pc := 56) (r := 37) C fl_X4_56 SH_25 rfl dX4_support_56 ?_
      refine s_iloadn (pc := 59) C dX4_support_59 rfl ?_
      obtain ⟨g_9, hf⟩ := gd hf
      refine s_iald (pc := 60) C SH_37 (ty0 ca) g_9 dX4_support_60 ?_
      refine s_imul (pc := 61) C dX4_support_61 ?_
      obtain ⟨g_10, hf⟩ := gd hf
      refine s_idiv (pc := 62) C dX4_support_62 g_10 ?_
      exact s_iret (pc := 63) C hr hlk dX4_support_63 (congrArg (fun z => some (Value.int z)) (rt hf).1) (rt hf).2
    · replace hf := ifn h_5 hf
      refine s_iconst (pc := 37) (v := 0) C dX4_support_37 (by decide) ?_
      refine s_goto (pc := 38) (tgt := 63) C dX4_support_38 (by decide) ?_
      exact s_iret (pc := 63) C hr hlk dX4_support_63 (congrArg (fun z => some (Value.int z)) (rt hf).1) (rt hf).2
def f_X4_bears (N : Nat) (a1 : Int32) (σ : St) : Option (Int32 × St) :=
  bn (f_X4_noPiece N a1 σ) fun r_1 τ_1 =>
  if r_1 = 0 then
    if inb a1 6 = true then
    if 0 ≤ (τ_1 32 (ix a1)) then
      if ((su τ_1 25 0 0) 25 0) = 0 then
        bn (f_X4_borne N a1 (su τ_1 25 0 0)) fun r_2 τ_2 =>
        some (r_2, τ_2)
      else
        some (0, (su τ_1 25 0 0))
    else
      if ((su τ_1 25 0 2) 25 0) = 0 then
        bn (f_X4_borne N a1 (su τ_1 25 0 2)) fun r_3 τ_3 =>
        some (r_3, τ_3)
      else
        some (0, (su τ_1 25 0 2))
    else none
  else
    if ((su τ_1 25 0 1) 25 0) = 0 then
      bn (f_X4_borne N a1 (su τ_1 25 0 1)) fun r_4 τ_4 =>
      some (r_4, τ_4)
    else
      some (0, (su τ_1 25 0 1))
set_option maxRecDepth 100000 in
set_option maxHeartbeats 4000000 in
theorem c_X4_bears (l : Launch) (D : va_G) (ca : Nat → ClassId) (ad : Nat → Nat) (N : Nat) (a1 : Int32) (σ : St) (r : Int32) (τ : St) (hf : f_X4_bears N a1 σ = some (r, τ)) : cM l yX4_bears (.code yX4_bears cX4_bears 2 (some .int)) (rmk 4) D ca ad SH [.ref (ad 25), .int a1] σ (some (.int r)) τ := by
  refine cM.intro2 (own := RX4) (lo := [some (.ref (ad 25)), some (.int a1)]) (by decide) rfl (ccR (ccI cc0)) (Nat.le_of_ble_eq_true rfl) rfl ?_
  intro p e s m args below meth c A C hr hlk
  unfold f_X4_bears at hf
  refine s_aloadn (pc := 0) C dX4_bears_0 rfl ?_
  refine s_aloadn (pc := 1) C dX4_bears_1 rfl ?_
  refine s_iloadn (pc := 2) C dX4_bears_2 rfl ?_
  obtain ⟨r_1, τ_1, e_1, hf⟩ := bnd hf
  refine s_callV (pc := 3) (rest := [.ref (ad 25)]) C rfl (c_X4_noPiece l D ca ad N a1 σ r_1 τ_1 e_1) kv_X4_192 ⟨rfl, rfl⟩ (by decide) SH_25 ⟨_, rfl, rfl⟩ rfl rfl (Nat.le_of_ble_eq_true rfl) dX4_bears_3 ⟨Nat.zero_le _, Nat.zero_le _⟩ ?_
  refine s_st (st' := [.int r_1, .ref (ad 25)]) rfl ?_
  refine s_if_eq (pc := 6) (tgt := 13) C dX4_bears_6 (by decide) (fun h_1 => ?_) (fun h_1 => ?_)
  · replace hf := ifp h_1 hf
    refine s_aloadn (pc := 13) C dX4_bears_13 rfl ?_
    refine s_getR (pc := 14) (r := 32) C fl_X4_41 SH_25 rfl dX4_bears_14 ?_
    refine s_iloadn (pc := 17) C dX4_bears_17 rfl ?_
    obtain ⟨g_1, hf⟩ := gd hf
    refine s_iald (pc := 18) C SH_32 (ty0 ca) g_1 dX4_bears_18 ?_
    refine s_if_ge (pc := 19) (tgt := 26) C dX4_bears_19 (by decide) (fun h_2 => ?_) (fun h_2 => ?_)
    · replace hf := ifp h_2 hf
      refine s_iconst (pc := 26) (v := 0) C dX4_bears_26 (by decide) ?_
      refine s_putI (pc := 27) C fp_X4_7 SH_25 rfl dX4_bears_27 ?_
      refine s_aloadn (pc := 30) C dX4_bears_30 rfl ?_
      refine s_getI (pc := 31) C fl_X4_7 SH_25 rfl dX4_bears_31 ?_
      refine s_if_eq (pc := 34) (tgt := 41) C dX4_bears_34 (by decide) (fun h_3 => ?_) (fun h_3 => ?_)
      · replace hf := ifp h_3 hf
        refine s_aloadn (pc := 41) C dX4_bears_41 rfl ?_
        refine s_iloadn (pc := 42) C dX4_bears_42 rfl ?_
        obtain ⟨r_2, τ_2, e_2, hf⟩ := bnd hf
        refine s_callV (pc := 43) (rest := []) C rfl (c_X4_borne l D ca ad N a1 (su τ_1 25 0 0) r_2 τ_2 e_2) kv_X4_152 ⟨rfl, rfl⟩ (by decide) SH_25 ⟨_, rfl, rfl⟩ rfl rfl (Nat.le_of_ble_eq_true rfl) dX4_bears_43 ⟨Nat.zero_le _, Nat.zero_le _⟩ ?_
        refine s_st (st' := [.int r_2]) rfl ?_
        exact s_iret (pc := 46) C hr hlk dX4_bears_46 (congrArg (fun z => some (Value.int z)) (rt hf).1) (rt hf).2
      · replace hf := ifn h_3 hf
        refine s_iconst (pc := 37) (v := 0) C dX4_bears_37 (by decide) ?_
        refine s_goto (pc := 38) (tgt := 46) C dX4_bears_38 (by decide) ?_
        exact s_iret (pc := 46) C hr hlk dX4_bears_46 (congrArg (fun z => some (Value.int z)) (rt hf).1) (rt hf).2
    · replace hf := ifn h_2 hf
      refine s_iconst (pc := 22) (v := 2) C dX4_bears_22 (by decide) ?_
      refine s_goto (pc := 23) (tgt := 27) C dX4_bears_23 (by decide) ?_
      refine s_putI (pc := 27) C fp_X4_7 SH_25 rfl dX4_bears_27 ?_
      refine s_aloadn (pc := 30) C dX4_bears_30 rfl ?_
      refine s_getI (pc := 31) C fl_X4_7 SH_25 rfl dX4_bears_31 ?_
      refine s_if_eq (pc := 34) (tgt := 41) C dX4_bears_34 (by decide) (fun h_4 => ?_) (fun h_4 => ?_)
      · replace hf := ifp h_4 hf
        refine s_aloadn (pc := 41) C dX4_bears_41 rfl ?_
        refine s_iloadn (pc := 42) C dX4_bears_42 rfl ?_
        obtain ⟨r_3, τ_3, e_3, hf⟩ := bnd hf
        refine s_callV (pc := 43) (rest := []) C rfl (c_X4_borne l D ca ad N a1 (su τ_1 25 0 2) r_3 τ_3 e_3) kv_X4_152 ⟨rfl, rfl⟩ (by decide) SH_25 ⟨_, rfl, rfl⟩ rfl rfl (Nat.le_of_ble_eq_true rfl) dX4_bears_43 ⟨Nat.zero_le _, Nat.zero_le _⟩ ?_
        refine s_st (st' := [.int r_3]) rfl ?_
        exact s_iret (pc := 46) C hr hlk dX4_bears_46 (congrArg (fun z => some (Value.int z)) (rt hf).1) (rt hf).2
      · replace hf := ifn h_4 hf
        refine s_iconst (pc := 37) (v := 0) C dX4_bears_37 (by decide) ?_
        refine s_goto (pc := 38) (tgt := 46) C dX4_bears_38 (by decide) ?_
        exact s_iret (pc := 46) C hr hlk dX4_bears_46 (congrArg (fun z => some (Value.int z)) (rt hf).1) (rt hf).2
  · replace hf := ifn h_1 hf
    refine s_iconst (pc := 9) (v := 1) C dX4_bears_9 (by decide) ?_
    refine s_goto (pc := 10) (tgt := 27) C dX4_bears_10 (by decide) ?_
    refine s_putI (pc := 27) C fp_X4_7 SH_25 rfl dX4_bears_27 ?_
    refine s_aloadn (pc := 30) C dX4_bears_30 rfl ?_
    refine s_getI (pc := 31) C fl_X4_7 SH_25 rfl dX4_bears_31 ?_
    refine s_if_eq (pc := 34) (tgt := 41) C dX4_bears_34 (by decide) (fun h_5 => ?_) (fun h_5 => ?_)
    · replace hf := ifp h_5 hf
      refine s_aloadn (pc := 41) C dX4_bears_41 rfl ?_
      refine s_iloadn (pc := 42) C dX4_bears_42 rfl ?_
      obtain ⟨r_4, τ_4, e_4, hf⟩ := bnd hf
      refine s_callV (pc := 43) (rest := []) C rfl (c_X4_borne l D ca ad N a1 (su τ_1 25 0 1) r_4 τ_4 e_4) kv_X4_152 ⟨rfl, rfl⟩ (by decide) SH_25 ⟨_, rfl, rfl⟩ rfl rfl (Nat.le_of_ble_eq_true rfl) dX4_bears_43 ⟨Nat.zero_le _, Nat.zero_le _⟩ ?_
      refine s_st (st' := [.int r_4]) rfl ?_
      exact s_iret (pc := 46) C hr hlk dX4_bears_46 (congrArg (fun z => some (Value.int z)) (rt hf).1) (rt hf).2
    · replace hf := ifn h_5 hf
      refine s_iconst (pc := 37) (v := 0) C dX4_bears_37 (by decide) ?_
      refine s_goto (pc := 38) (tgt := 46) C dX4_bears_38 (by decide) ?_
      exact s_iret (pc := 46) C hr hlk dX4_bears_46 (congrArg (fun z => some (Value.int z)) (rt hf).1) (rt hf).2
def lp_X4_cell_63 (N : Nat) (a1 : Int32) (a2 : Int32) (a3 : Int32) : Nat → Int32 → Int32 → Int32 → Int32 → St → Option (Int32 × St)
  | 0, _, _, _, _, _ => none
  | n + 1, v1, v2, v3, v4, σ =>
    if (σ 25 4) ≤ v4 then
      some ((-1), σ)
    else
      if inb v4 6 = true then
      if (σ 32 (ix v4)) < 0 then
        lp_X4_cell_63 N a1 a2 a3  n v1 v2 v3 (v4 + 1) σ
      else
        if inb v4 6 = true then
        if v1 < (σ 33 (ix v4)) then
          lp_X4_cell_63 N a1 a2 a3  n v1 v2 v3 (v4 + 1) σ
        else
          if inb v4 6 = true then
          if inb v4 6 = true then
          if ((σ 33 (ix v4)) + (σ 36 (ix v4))) ≤ v1 then
            lp_X4_cell_63 N a1 a2 a3  n v1 v2 v3 (v4 + 1) σ
          else
            if inb v4 6 = true then
            if v2 < (σ 34 (ix v4)) then
              lp_X4_cell_63 N a1 a2 a3  n v1 v2 v3 (v4 + 1) σ
            else
              if inb v4 6 = true then
              if inb v4 6 = true then
              if ((σ 34 (ix v4)) + (σ 37 (ix v4))) ≤ v2 then
                lp_X4_cell_63 N a1 a2 a3  n v1 v2 v3 (v4 + 1) σ
              else
                if inb v4 6 = true then
                if v3 < (σ 35 (ix v4)) then
                  lp_X4_cell_63 N a1 a2 a3  n v1 v2 v3 (v4 + 1) σ
                else
                  if inb v4 6 = true then
                  if inb v4 6 = true then
                  if ((σ 35 (ix v4)) + (σ 38 (ix v4))) ≤ v3 then
                    lp_X4_cell_63 N a1 a2 a3  n v1 v2 v3 (v4 + 1) σ
                  else
                    some (v4, σ)
                  else none
                  else none
                else none
              else none
              else none
            else none
          else none
          else none
        else none
      else none
set_option maxRecDepth 100000 in
set_option maxHeartbeats 4000000 in
theorem w_X4_cell_63 {l : Launch} {D : va_G} {ca : Nat → ClassId} {ad : Nat → Nat} {p : Program} {e : Env} {s : State} {m : MethodId} {args : Array Value} {below : List Frame} {meth : Method} {c : Code} {A : Nat → Prop} (C : CX p s m args c D ca A RX4 cX4_cell 5) (hr : meth.sig.returnType = (some .int)) (hlk : meth.locks = false) (N : Nat) (a1 : Int32) (a2 : Int32) (a3 : Int32) (r : Int32) (τ : St)  : ∀ (n : Nat) (v1 v2 v3 v4 : Int32) (σ : St), lp_X4_cell_63 N a1 a2 a3  n v1 v2 v3 v4 σ = some (r, τ) → WW p l e (rmk 1) s m args below meth c 0 0 (EQ D ca ad SH A below args s (some (.int r)) τ) A D ca ad SH 63 [some (.ref (ad 25)), some (.int v1), some (.int v2), some (.int v3), some (.int v4)] [] σ := by
  intro n
  induction n with
  | zero => intro v1 v2 v3 v4 σ hf; cases hf
  | succ n ih =>
    intro v1 v2 v3 v4 σ hf
    rw [lp_X4_cell_63] at hf
    refine s_iload (pc := 63) C dX4_cell_63 rfl ?_
    refine s_aloadn (pc := 65) C dX4_cell_65 rfl ?_
    refine s_getI (pc := 66) C fl_X4_13 SH_25 rfl dX4_cell_66 ?_
    refine s_icmp_ge (pc := 69) (tgt := 181) C dX4_cell_69 (by decide) (fun h_1 => ?_) (fun h_1 => ?_)
    · replace hf := ifp h_1 hf
      refine s_iconst (pc := 181) (v := (-1)) C dX4_cell_181 (by decide) ?_
      exact s_iret (pc := 182) C hr hlk dX4_cell_182 (congrArg (fun z => some (Value.int z)) (rt hf).1) (rt hf).2
    · replace hf := ifn h_1 hf
      refine s_aloadn (pc := 72) C dX4_cell_72 rfl ?_
      refine s_getR (pc := 73) (r := 32) C fl_X4_41 SH_25 rfl dX4_cell_73 ?_
      refine s_iload (pc := 76) C dX4_cell_76 rfl ?_
      obtain ⟨g_1, hf⟩ := gd hf
      refine s_iald (pc := 78) C SH_32 (ty0 ca) g_1 dX4_cell_78 ?_
      refine s_if_lt (pc := 79) (tgt := 175) C dX4_cell_79 (by decide) (fun h_2 => ?_) (fun h_2 => ?_)
      · replace hf := ifp h_2 hf
        refine s_iinc (pc := 175) (v := (v4 + 1)) (lo' := [some (.ref (ad 25)), some (.int v1), some (.int v2), some (.int v3), some (.int (v4 + 1))]) C dX4_cell_175 rfl rfl rfl ?_
        refine s_goto (pc := 178) (tgt := 63) C dX4_cell_178 (by decide) ?_
        refine s_few (lo' := [some (.ref (ad 25)), some (.int v1), some (.int v2), some (.int v3), some (.int (v4 + 1))]) (lfS (lfS (lfS (lfS (lfS lf0))))) ?_
        exact ih v1 v2 v3 (v4 + 1) σ hf
      · replace hf := ifn h_2 hf
        refine s_aloadn (pc := 82) C dX4_cell_82 rfl ?_
        refine s_getR (pc := 83) (r := 33) C fl_X4_44 SH_25 rfl dX4_cell_83 ?_
        refine s_iload (pc := 86) C dX4_cell_86 rfl ?_
        obtain ⟨g_2, hf⟩ := gd hf
        refine s_iald (pc := 88) C SH_33 (ty0 ca) g_2 dX4_cell_88 ?_
        refine s_iloadn (pc := 89) C dX4_cell_89 rfl ?_
        refine s_icmp_gt (pc := 90) (tgt := 175) C dX4_cell_90 (by decide) (fun h_3 => ?_) (fun h_3 => ?_)
        · replace hf := ifp h_3 hf
          refine s_iinc (pc := 175) (v := (v4 + 1)) (lo' := [some (.ref (ad 25)), some (.int v1), some (.int v2), some (.int v3), some (.int (v4 + 1))]) C dX4_cell_175 rfl rfl rfl ?_
          refine s_goto (pc := 178) (tgt := 63) C dX4_cell_178 (by decide) ?_
          refine s_few (lo' := [some (.ref (ad 25)), some (.int v1), some (.int v2), some (.int v3), some (.int (v4 + 1))]) (lfS (lfS (lfS (lfS (lfS lf0))))) ?_
          exact ih v1 v2 v3 (v4 + 1) σ hf
        · replace hf := ifn h_3 hf
          refine s_iloadn (pc := 93) C dX4_cell_93 rfl ?_
          refine s_aloadn (pc := 94) C dX4_cell_94 rfl ?_
          refine s_getR (pc := 95) (r := 33) C fl_X4_44 SH_25 rfl dX4_cell_95 ?_
          refine s_iload (pc := 98) C dX4_cell_98 rfl ?_
          obtain ⟨g_3, hf⟩ := gd hf
          refine s_iald (pc := 100) C SH_33 (ty0 ca) g_3 dX4_cell_100 ?_
          refine s_aloadn (pc := 101) C dX4_cell_101 rfl ?_
          refine s_getR (pc := 102) (r := 36) C fl_X4_53 SH_25 rfl dX4_cell_102 ?_
          refine s_iload (pc := 105) C dX4_cell_105 rfl ?_
          obtain ⟨g_4, hf⟩ := gd hf
          refine s_iald (pc := 107) C SH_36 (ty0 ca) g_4 dX4_cell_107 ?_
          refine s_iadd (pc := 108) C dX4_cell_108 ?_
          refine s_icmp_ge (pc := 109) (tgt := 175) C dX4_cell_109 (by decide) (fun h_4 => ?_) (fun h_4 => ?_)
          · replace hf := ifp h_4 hf
            refine s_iinc (pc := 175) (v := (v4 + 1)) (lo' := [some (.ref (ad 25)), some (.int v1), some (.int v2), some (.int v3), some (.int (v4 + 1))]) C dX4_cell_175 rfl rfl rfl ?_
            refine s_goto (pc := 178) (tgt := 63) C dX4_cell_178 (by decide) ?_
            refine s_few (lo' := [some (.ref (ad 25)), some (.int v1), some (.int v2), some (.int v3), some (.int (v4 + 1))]) (lfS (lfS (lfS (lfS (lfS lf0))))) ?_
            exact ih v1 v2 v3 (v4 + 1) σ hf
          · replace hf := ifn h_4 hf
            refine s_aloadn (pc := 112) C dX4_cell_112 rfl ?_
            refine s_getR (pc := 113) (r := 34) C fl_X4_47 SH_25 rfl dX4_cell_113 ?_
            refine s_iload (pc := 116) C dX4_cell_116 rfl ?_
            obtain ⟨g_5, hf⟩ := gd hf
            refine s_iald (pc := 118) C SH_34 (ty0 ca) g_5 dX4_cell_118 ?_
            refine s_iloadn (pc := 119) C dX4_cell_119 rfl ?_
            refine s_icmp_gt (pc := 120) (tgt := 175) C dX4_cell_120 (by decide) (fun h_5 => ?_) (fun h_5 => ?_)
            · replace hf := ifp h_5 hf
              refine s_iinc (pc := 175) (v := (v4 + 1)) (lo' := [some (.ref (ad 25)), some (.int v1), some (.int v2), some (.int v3), some (.int (v4 + 1))]) C dX4_cell_175 rfl rfl rfl ?_
              refine s_goto (pc := 178) (tgt := 63) C dX4_cell_178 (by decide) ?_
              refine s_few (lo' := [some (.ref (ad 25)), some (.int v1), some (.int v2), some (.int v3), some (.int (v4 + 1))]) (lfS (lfS (lfS (lfS (lfS lf0))))) ?_
              exact ih v1 v2 v3 (v4 + 1) σ hf
            · replace hf := ifn h_5 hf
              refine s_iloadn (pc := 123) C dX4_cell_123 rfl ?_
              refine s_aloadn (pc := 124) C dX4_cell_124 rfl ?_
              refine s_getR (pc := 125) (r := 34) C fl_X4_47 SH_25 rfl dX4_cell_125 ?_
              refine s_iload (pc := 128) C dX4_cell_128 rfl ?_
              obtain ⟨g_6, hf⟩ := gd hf
              refine s_iald (pc := 130) C SH_34 (ty0 ca) g_6 dX4_cell_130 ?_
              refine s_aloadn (pc := 131) C dX4_cell_131 rfl ?_
              refine s_getR (pc := 132) (r := 37) C fl_X4_56 SH_25 rfl dX4_cell_132 ?_
              refine s_iload (pc := 135) C dX4_cell_135 rfl ?_
              obtain ⟨g_7, hf⟩ := gd hf
              refine s_iald (pc := 137) C SH_37 (ty0 ca) g_7 dX4_cell_137 ?_
              refine s_iadd (pc := 138) C dX4_cell_138 ?_
              refine s_icmp_ge (pc := 139) (tgt := 175) C dX4_cell_139 (by decide) (fun h_6 => ?_) (fun h_6 => ?_)
              · replace hf := ifp h_6 hf
                refine s_iinc (pc := 175) (v := (v4 + 1)) (lo' := [some (.ref (ad 25)), some (.int v1), some (.int v2), some (.int v3), some (.int (v4 + 1))]) C dX4_cell_175 rfl rfl rfl ?_
                refine s_goto (pc := 178) (tgt := 63) C dX4_cell_178 (by decide) ?_
                refine s_few (lo' := [some (.ref (ad 25)), some (.int v1), some (.int v2), some (.int v3), some (.int (v4 + 1))]) (lfS (lfS (lfS (lfS (lfS lf0))))) ?_
                exact ih v1 v2 v3 (v4 + 1) σ hf
              · replace hf := ifn h_6 hf
                refine s_aloadn (pc := 142) C dX4_cell_142 rfl ?_
                refine s_getR (pc := 143) (r := 35) C fl_X4_50 SH_25 rfl dX4_cell_143 ?_
                refine s_iload (pc := 146) C dX4_cell_146 rfl ?_
                obtain ⟨g_8, hf⟩ := gd hf
                refine s_iald (pc := 148) C SH_35 (ty0 ca) g_8 dX4_cell_148 ?_
                refine s_iloadn (pc := 149) C dX4_cell_149 rfl ?_
                refine s_icmp_gt (pc := 150) (tgt := 175) C dX4_cell_150 (by decide) (fun h_7 => ?_) (fun h_7 => ?_)
                · replace hf := ifp h_7 hf
                  refine s_iinc (pc := 175) (v := (v4 + 1)) (lo' := [some (.ref (ad 25)), some (.int v1), some (.int v2), some (.int v3), some (.int (v4 + 1))]) C dX4_cell_175 rfl rfl rfl ?_
                  refine s_goto (pc := 178) (tgt := 63) C dX4_cell_178 (by decide) ?_
                  refine s_few (lo' := [some (.ref (ad 25)), some (.int v1), some (.int v2), some (.int v3), some (.int (v4 + 1))]) (lfS (lfS (lfS (lfS (lfS lf0))))) ?_
                  exact ih v1 v2 v3 (v4 + 1) σ hf
                · replace hf := ifn h_7 hf
                  refine s_iloadn (pc := 153) C dX4_cell_153 rfl ?_
                  refine s_aloadn (pc := 154) C dX4_cell_154 rfl ?_
                  refine s_getR (pc := 155) (r := 35) C fl_X4_50 SH_25 rfl dX4_cell_155 ?_
                  refine s_iload (pc := 158) C dX4_cell_158 rfl ?_
                  obtain ⟨g_9, hf⟩ := gd hf
                  refine s_iald (pc := 160) C SH_35 (ty0 ca) g_9 dX4_cell_160 ?_
                  refine s_aloadn (pc := 161) C dX4_cell_161 rfl ?_
                  refine s_getR (pc := 162) (r := 38) C fl_X4_59 SH_25 rfl dX4_cell_162 ?_
                  refine s_iload (pc := 165) C dX4_cell_165 rfl ?_
                  obtain ⟨g_10, hf⟩ := gd hf
                  refine s_iald (pc := 167) C SH_38 (ty0 ca) g_10 dX4_cell_167 ?_
                  refine s_iadd (pc := 168) C dX4_cell_168 ?_
                  refine s_icmp_ge (pc := 169) (tgt := 175) C dX4_cell_169 (by decide) (fun h_8 => ?_) (fun h_8 => ?_)
                  · replace hf := ifp h_8 hf
                    refine s_iinc (pc := 175) (v := (v4 + 1)) (lo' := [some (.ref (ad 25)), some (.int v1), some (.int v2), some (.int v3), some (.int (v4 + 1))]) C dX4_cell_175 rfl rfl rfl ?_
                    refine s_goto (pc := 178) (tgt := 63) C dX4_cell_178 (by decide) ?_
                    refine s_few (lo' := [some (.ref (ad 25)), some (.int v1), some (.int v2), some (.int v3), some (.int (v4 + 1))]) (lfS (lfS (lfS (lfS (lfS lf0))))) ?_
                    exact ih v1 v2 v3 (v4 + 1) σ hf
                  · replace hf := ifn h_8 hf
                    refine s_iload (pc := 172) C dX4_cell_172 rfl ?_
                    exact s_iret (pc := 174) C hr hlk dX4_cell_174 (congrArg (fun z => some (Value.int z)) (rt hf).1) (rt hf).2
def f_X4_cell (N : Nat) (a1 : Int32) (a2 : Int32) (a3 : Int32) (σ : St) : Option (Int32 × St) :=
  bn (f_X4_not N a1 0 ((σ 25 1) - 1) σ) fun r_1 τ_1 =>
  if r_1 = 0 then
    bn (f_X4_not N a2 0 ((τ_1 25 2) - 1) τ_1) fun r_2 τ_2 =>
    if r_2 = 0 then
      bn (f_X4_not N a3 0 ((τ_2 25 3) - 1) τ_2) fun r_3 τ_3 =>
      if r_3 = 0 then
        if ((su τ_3 25 0 0) 25 0) = 0 then
          lp_X4_cell_63 N a1 a2 a3 N a1 a2 a3 0 (su τ_3 25 0 0)
        else
          some (0, (su τ_3 25 0 0))
      else
        if ((su τ_3 25 0 1) 25 0) = 0 then
          lp_X4_cell_63 N a1 a2 a3 N a1 a2 a3 0 (su τ_3 25 0 1)
        else
          some (0, (su τ_3 25 0 1))
    else
      if ((su τ_2 25 0 1) 25 0) = 0 then
        lp_X4_cell_63 N a1 a2 a3 N a1 a2 a3 0 (su τ_2 25 0 1)
      else
        some (0, (su τ_2 25 0 1))
  else
    if ((su τ_1 25 0 1) 25 0) = 0 then
      lp_X4_cell_63 N a1 a2 a3 N a1 a2 a3 0 (su τ_1 25 0 1)
    else
      some (0, (su τ_1 25 0 1))
set_option maxRecDepth 100000 in
set_option maxHeartbeats 4000000 in
theorem c_X4_cell (l : Launch) (D : va_G) (ca : Nat → ClassId) (ad : Nat → Nat) (N : Nat) (a1 : Int32) (a2 : Int32) (a3 : Int32) (σ : St) (r : Int32) (τ : St) (hf : f_X4_cell N a1 a2 a3 σ = some (r, τ)) : cM l yX4_cell (.code yX4_cell cX4_cell 5 (some .int)) (rmk 1) D ca ad SH [.ref (ad 25), .int a1, .int a2, .int a3] σ (some (.int r)) τ := by
  refine cM.intro2 (own := RX4) (lo := [some (.ref (ad 25)), some (.int a1), some (.int a2), some (.int a3), none]) (by decide) rfl (ccR (ccI (ccI (ccI cc0)))) (Nat.le_of_ble_eq_true rfl) rfl ?_
  intro p e s m args below meth c A C hr hlk
  unfold f_X4_cell at hf
  refine s_aloadn (pc := 0) C dX4_cell_0 rfl ?_
  refine s_iloadn (pc := 1) C dX4_cell_1 rfl ?_
  refine s_iconst (pc := 2) (v := 0) C dX4_cell_2 (by decide) ?_
  refine s_aloadn (pc := 3) C dX4_cell_3 rfl ?_
  refine s_getI (pc := 4) C fl_X4_118 SH_25 rfl dX4_cell_4 ?_
  refine s_iconst (pc := 7) (v := 1) C dX4_cell_7 (by decide) ?_
  refine s_isub (pc := 8) C dX4_cell_8 ?_
  obtain ⟨r_1, τ_1, e_1, hf⟩ := bnd hf
  refine s_callO (pc := 9) (rest := [.ref (ad 25)]) C rfl (c_X4_not l D ca ad N a1 0 ((σ 25 1) - 1) σ r_1 τ_1 e_1) ko_X4_188 ⟨rfl, rfl⟩ (by decide) rfl rfl (Nat.le_of_ble_eq_true rfl) dX4_cell_9 ⟨Nat.zero_le _, Nat.zero_le _⟩ ?_
  refine s_st (st' := [.int r_1, .ref (ad 25)]) rfl ?_
  refine s_if_ne (pc := 12) (tgt := 43) C dX4_cell_12 (by decide) (fun h_1 => ?_) (fun h_1 => ?_)
  · replace hf := ifn h_1 hf
    refine s_iconst (pc := 43) (v := 1) C dX4_cell_43 (by decide) ?_
    refine s_goto (pc := 44) (tgt := 48) C dX4_cell_44 (by decide) ?_
    refine s_putI (pc := 48) C fp_X4_7 SH_25 rfl dX4_cell_48 ?_
    refine s_aloadn (pc := 51) C dX4_cell_51 rfl ?_
    refine s_getI (pc := 52) C fl_X4_7 SH_25 rfl dX4_cell_52 ?_
    refine s_if_eq (pc := 55) (tgt := 60) C dX4_cell_55 (by decide) (fun h_2 => ?_) (fun h_2 => ?_)
    · replace hf := ifp h_2 hf
      refine s_iconst (pc := 60) (v := 0) C dX4_cell_60 (by decide) ?_
      refine s_istore (pc := 61) (lo' := [some (.ref (ad 25)), some (.int a1), some (.int a2), some (.int a3), some (.int 0)]) C dX4_cell_61 (Nat.le_of_ble_eq_true rfl) rfl ?_
      refine s_few (lo' := [some (.ref (ad 25)), some (.int a1), some (.int a2), some (.int a3), some (.int 0)]) (lfS (lfS (lfS (lfS (lfS lf0))))) ?_
      exact w_X4_cell_63 C hr hlk N a1 a2 a3 r τ  N a1 a2 a3 0 (su τ_1 25 0 1) hf
    · replace hf := ifn h_2 hf
      refine s_iconst (pc := 58) (v := 0) C dX4_cell_58 (by decide) ?_
      exact s_iret (pc := 59) C hr hlk dX4_cell_59 (congrArg (fun z => some (Value.int z)) (rt hf).1) (rt hf).2
  · replace hf := ifp h_1 hf
    refine s_iloadn (pc := 15) C dX4_cell_15 rfl ?_
    refine s_iconst (pc := 16) (v := 0) C dX4_cell_16 (by decide) ?_
    refine s_aloadn (pc := 17) C dX4_cell_17 rfl ?_
    refine s_getI (pc := 18) C fl_X4_121 SH_25 rfl dX4_cell_18 ?_
    refine s_iconst (pc := 21) (v := 1) C dX4_cell_21 (by decide) ?_
    refine s_isub (pc := 22) C dX4_cell_22 ?_
    obtain ⟨r_2, τ_2, e_2, hf⟩ := bnd hf
    refine s_callO (pc := 23) (rest := [.ref (ad 25)]) C rfl (c_X4_not l D ca ad N a2 0 ((τ_1 25 2) - 1) τ_1 r_2 τ_2 e_2) ko_X4_188 ⟨rfl, rfl⟩ (by decide) rfl rfl (Nat.le_of_ble_eq_true rfl) dX4_cell_23 ⟨Nat.zero_le _, Nat.zero_le _⟩ ?_
    refine s_st (st' := [.int r_2, .ref (ad 25)]) rfl ?_
    refine s_if_ne (pc := 26) (tgt := 43) C dX4_cell_26 (by decide) (fun h_3 => ?_) (fun h_3 => ?_)
    · replace hf := ifn h_3 hf
      refine s_iconst (pc := 43) (v := 1) C dX4_cell_43 (by decide) ?_
      refine s_goto (pc := 44) (tgt := 48) C dX4_cell_44 (by decide) ?_
      refine s_putI (pc := 48) C fp_X4_7 SH_25 rfl dX4_cell_48 ?_
      refine s_aloadn (pc := 51) C dX4_cell_51 rfl ?_
      refine s_getI (pc := 52) C fl_X4_7 SH_25 rfl dX4_cell_52 ?_
      refine s_if_eq (pc := 55) (tgt := 60) C dX4_cell_55 (by decide) (fun h_4 => ?_) (fun h_4 => ?_)
      · replace hf := ifp h_4 hf
        refine s_iconst (pc := 60) (v := 0) C dX4_cell_60 (by decide) ?_
        refine s_istore (pc := 61) (lo' := [some (.ref (ad 25)), some (.int a1), some (.int a2), some (.int a3), some (.int 0)]) C dX4_cell_61 (Nat.le_of_ble_eq_true rfl) rfl ?_
        refine s_few (lo' := [some (.ref (ad 25)), some (.int a1), some (.int a2), some (.int a3), some (.int 0)]) (lfS (lfS (lfS (lfS (lfS lf0))))) ?_
        exact w_X4_cell_63 C hr hlk N a1 a2 a3 r τ  N a1 a2 a3 0 (su τ_2 25 0 1) hf
      · replace hf := ifn h_4 hf
        refine s_iconst (pc := 58) (v := 0) C dX4_cell_58 (by decide) ?_
        exact s_iret (pc := 59) C hr hlk dX4_cell_59 (congrArg (fun z => some (Value.int z)) (rt hf).1) (rt hf).2
    · replace hf := ifp h_3 hf
      refine s_iloadn (pc := 29) C dX4_cell_29 rfl ?_
      refine s_iconst (pc := 30) (v := 0) C dX4_cell_30 (by decide) ?_
      refine s_aloadn (pc := 31) C dX4_cell_31 rfl ?_
      refine s_getI (pc := 32) C fl_X4_124 SH_25 rfl dX4_cell_32 ?_
      refine s_iconst (pc := 35) (v := 1) C dX4_cell_35 (by decide) ?_
      refine s_isub (pc := 36) C dX4_cell_36 ?_
      obtain ⟨r_3, τ_3, e_3, hf⟩ := bnd hf
      refine s_callO (pc := 37) (rest := [.ref (ad 25)]) C rfl (c_X4_not l D ca ad N a3 0 ((τ_2 25 3) - 1) τ_2 r_3 τ_3 e_3) ko_X4_188 ⟨rfl, rfl⟩ (by decide) rfl rfl (Nat.le_of_ble_eq_true rfl) dX4_cell_37 ⟨Nat.zero_le _, Nat.zero_le _⟩ ?_
      refine s_st (st' := [.int r_3, .ref (ad 25)]) rfl ?_
      refine s_if_eq (pc := 40) (tgt := 47) C dX4_cell_40 (by decide) (fun h_5 => ?_) (fun h_5 => ?_)
      · replace hf := ifp h_5 hf
        refine s_iconst (pc := 47) (v := 0) C dX4_cell_47 (by decide) ?_
        refine s_putI (pc := 48) C fp_X4_7 SH_25 rfl dX4_cell_48 ?_
        refine s_aloadn (pc := 51) C dX4_cell_51 rfl ?_
        refine s_getI (pc := 52) C fl_X4_7 SH_25 rfl dX4_cell_52 ?_
        refine s_if_eq (pc := 55) (tgt := 60) C dX4_cell_55 (by decide) (fun h_6 => ?_) (fun h_6 => ?_)
        · replace hf := ifp h_6 hf
          refine s_iconst (pc := 60) (v := 0) C dX4_cell_60 (by decide) ?_
          refine s_istore (pc := 61) (lo' := [some (.ref (ad 25)), some (.int a1), some (.int a2), some (.int a3), some (.int 0)]) C dX4_cell_61 (Nat.le_of_ble_eq_true rfl) rfl ?_
          refine s_few (lo' := [some (.ref (ad 25)), some (.int a1), some (.int a2), some (.int a3), some (.int 0)]) (lfS (lfS (lfS (lfS (lfS lf0))))) ?_
          exact w_X4_cell_63 C hr hlk N a1 a2 a3 r τ  N a1 a2 a3 0 (su τ_3 25 0 0) hf
        · replace hf := ifn h_6 hf
          refine s_iconst (pc := 58) (v := 0) C dX4_cell_58 (by decide) ?_
          exact s_iret (pc := 59) C hr hlk dX4_cell_59 (congrArg (fun z => some (Value.int z)) (rt hf).1) (rt hf).2
      · replace hf := ifn h_5 hf
        refine s_iconst (pc := 43) (v := 1) C dX4_cell_43 (by decide) ?_
        refine s_goto (pc := 44) (tgt := 48) C dX4_cell_44 (by decide) ?_
        refine s_putI (pc := 48) C fp_X4_7 SH_25 rfl dX4_cell_48 ?_
        refine s_aloadn (pc := 51) C dX4_cell_51 rfl ?_
        refine s_getI (pc := 52) C fl_X4_7 SH_25 rfl dX4_cell_52 ?_
        refine s_if_eq (pc := 55) (tgt := 60) C dX4_cell_55 (by decide) (fun h_7 => ?_) (fun h_7 => ?_)
        · replace hf := ifp h_7 hf
          refine s_iconst (pc := 60) (v := 0) C dX4_cell_60 (by decide) ?_
          refine s_istore (pc := 61) (lo' := [some (.ref (ad 25)), some (.int a1), some (.int a2), some (.int a3), some (.int 0)]) C dX4_cell_61 (Nat.le_of_ble_eq_true rfl) rfl ?_
          refine s_few (lo' := [some (.ref (ad 25)), some (.int a1), some (.int a2), some (.int a3), some (.int 0)]) (lfS (lfS (lfS (lfS (lfS lf0))))) ?_
          exact w_X4_cell_63 C hr hlk N a1 a2 a3 r τ  N a1 a2 a3 0 (su τ_3 25 0 1) hf
        · replace hf := ifn h_7 hf
          refine s_iconst (pc := 58) (v := 0) C dX4_cell_58 (by decide) ?_
          exact s_iret (pc := 59) C hr hlk dX4_cell_59 (congrArg (fun z => some (Value.int z)) (rt hf).1) (rt hf).2
def lp_X4_close_61 (N : Nat)  : Nat → Int32 → Int32 → St → Option (Int32 × St)
  | 0, _, _, _ => none
  | n + 1, v1, v2, σ =>
    if (σ 25 4) ≤ v2 then
      some ((((su σ 25 12 ((σ 25 12) + 1)) 25 12) - 1), (su σ 25 12 ((σ 25 12) + 1)))
    else
      if inb v2 6 = true then
      if (σ 32 (ix v2)) < 0 then
        if inb v2 6 = true then
        lp_X4_close_61 N   n v1 (v2 + 1) (su σ 32 (ix v2) (-1))
        else none
      else
        if inb v2 6 = true then
        if inb v2 6 = true then
        lp_X4_close_61 N   n v1 (v2 + 1) (su (su σ 31 (ix v2) (σ 25 12)) 32 (ix v2) (-1))
        else none
        else none
      else none
set_option maxRecDepth 100000 in
set_option maxHeartbeats 4000000 in
theorem w_X4_close_61 {l : Launch} {D : va_G} {ca : Nat → ClassId} {ad : Nat → Nat} {p : Program} {e : Env} {s : State} {m : MethodId} {args : Array Value} {below : List Frame} {meth : Method} {c : Code} {A : Nat → Prop} (C : CX p s m args c D ca A RX4 cX4_close 3) (hr : meth.sig.returnType = (some .int)) (hlk : meth.locks = false) (N : Nat)  (r : Int32) (τ : St)  : ∀ (n : Nat) (v1 v2 : Int32) (σ : St), lp_X4_close_61 N   n v1 v2 σ = some (r, τ) → WW p l e (rmk 0) s m args below meth c 0 0 (EQ D ca ad SH A below args s (some (.int r)) τ) A D ca ad SH 61 [some (.ref (ad 25)), some (.int v1), some (.int v2)] [] σ := by
  intro n
  induction n with
  | zero => intro v1 v2 σ hf; cases hf
  | succ n ih =>
    intro v1 v2 σ hf
    rw [lp_X4_close_61] at hf
    refine s_iloadn (pc := 61) C dX4_close_61 rfl ?_
    refine s_aloadn (pc := 62) C dX4_close_62 rfl ?_
    refine s_getI (pc := 63) C fl_X4_13 SH_25 rfl dX4_close_63 ?_
    refine s_icmp_ge (pc := 66) (tgt := 101) C dX4_close_66 (by decide) (fun h_1 => ?_) (fun h_1 => ?_)
    · replace hf := ifp h_1 hf
      refine s_aloadn (pc := 101) C dX4_close_101 rfl ?_
      refine s_dup (pc := 102) C dX4_close_102 rfl ?_
      refine s_getI (pc := 103) C fl_X4_38 SH_25 rfl dX4_close_103 ?_
      refine s_iconst (pc := 106) (v := 1) C dX4_close_106 (by decide) ?_
      refine s_iadd (pc := 107) C dX4_close_107 ?_
      refine s_putI (pc := 108) C fp_X4_38 SH_25 rfl dX4_close_108 ?_
      refine s_aloadn (pc := 111) C dX4_close_111 rfl ?_
      refine s_getI (pc := 112) C fl_X4_38 SH_25 rfl dX4_close_112 ?_
      refine s_iconst (pc := 115) (v := 1) C dX4_close_115 (by decide) ?_
      refine s_isub (pc := 116) C dX4_close_116 ?_
      exact s_iret (pc := 117) C hr hlk dX4_close_117 (congrArg (fun z => some (Value.int z)) (rt hf).1) (rt hf).2
    · replace hf := ifn h_1 hf
      refine s_aloadn (pc := 69) C dX4_close_69 rfl ?_
      refine s_getR (pc := 70) (r := 32) C fl_X4_41 SH_25 rfl dX4_close_70 ?_
      refine s_iloadn (pc := 73) C dX4_close_73 rfl ?_
      obtain ⟨g_1, hf⟩ := gd hf
      refine s_iald (pc := 74) C SH_32 (ty0 ca) g_1 dX4_close_74 ?_
      refine s_if_lt (pc := 75) (tgt := 88) C dX4_close_75 (by decide) (fun h_2 => ?_) (fun h_2 => ?_)
      · replace hf := ifp h_2 hf
        refine s_aloadn (pc := 88) C dX4_close_88 rfl ?_
        refine s_getR (pc := 89) (r := 32) C fl_X4_41 SH_25 rfl dX4_close_89 ?_
        refine s_iloadn (pc := 92) C dX4_close_92 rfl ?_
        refine s_iconst (pc := 93) (v := (-1)) C dX4_close_93 (by decide) ?_
        obtain ⟨g_2, hf⟩ := gd hf
        refine s_iast (pc := 94) C SH_32 (ty0 ca) g_2 dX4_close_94 ?_
        refine s_iinc (pc := 95) (v := (v2 + 1)) (lo' := [some (.ref (ad 25)), some (.int v1), some (.int (v2 + 1))]) C dX4_close_95 rfl rfl rfl ?_
        refine s_goto (pc := 98) (tgt := 61) C dX4_close_98 (by decide) ?_
        refine s_few (lo' := [some (.ref (ad 25)), some (.int v1), some (.int (v2 + 1))]) (lfS (lfS (lfS lf0))) ?_
        exact ih v1 (v2 + 1) (su σ 32 (ix v2) (-1)) hf
      · replace hf := ifn h_2 hf
        refine s_aloadn (pc := 78) C dX4_close_78 rfl ?_
        refine s_getR (pc := 79) (r := 31) C fl_X4_32 SH_25 rfl dX4_close_79 ?_
        refine s_iloadn (pc := 82) C dX4_close_82 rfl ?_
        refine s_aloadn (pc := 83) C dX4_close_83 rfl ?_
        refine s_getI (pc := 84) C fl_X4_38 SH_25 rfl dX4_close_84 ?_
        obtain ⟨g_3, hf⟩ := gd hf
        refine s_iast (pc := 87) C SH_31 (ty0 ca) g_3 dX4_close_87 ?_
        refine s_aloadn (pc := 88) C dX4_close_88 rfl ?_
        refine s_getR (pc := 89) (r := 32) C fl_X4_41 SH_25 rfl dX4_close_89 ?_
        refine s_iloadn (pc := 92) C dX4_close_92 rfl ?_
        refine s_iconst (pc := 93) (v := (-1)) C dX4_close_93 (by decide) ?_
        obtain ⟨g_4, hf⟩ := gd hf
        refine s_iast (pc := 94) C SH_32 (ty0 ca) g_4 dX4_close_94 ?_
        refine s_iinc (pc := 95) (v := (v2 + 1)) (lo' := [some (.ref (ad 25)), some (.int v1), some (.int (v2 + 1))]) C dX4_close_95 rfl rfl rfl ?_
        refine s_goto (pc := 98) (tgt := 61) C dX4_close_98 (by decide) ?_
        refine s_few (lo' := [some (.ref (ad 25)), some (.int v1), some (.int (v2 + 1))]) (lfS (lfS (lfS lf0))) ?_
        exact ih v1 (v2 + 1) (su (su σ 31 (ix v2) (σ 25 12)) 32 (ix v2) (-1)) hf
def lp_X4_close_4 (N : Nat)  : Nat → Int32 → Int32 → St → Option (Int32 × St)
  | 0, _, _, _ => none
  | n + 1, v1, v2, σ =>
    if (σ 25 4) ≤ v2 then
      if v1 = 0 then
        if ((su σ 25 0 1) 25 0) = 0 then
          lp_X4_close_61 N  N v1 0 (su σ 25 0 1)
        else
          some (0, (su σ 25 0 1))
      else
        if ((su σ 25 0 0) 25 0) = 0 then
          lp_X4_close_61 N  N v1 0 (su σ 25 0 0)
        else
          some (0, (su σ 25 0 0))
    else
      if v1 = 0 then
        if inb v2 6 = true then
        if (σ 32 (ix v2)) < 0 then
          lp_X4_close_4 N   n 0 (v2 + 1) σ
        else
          lp_X4_close_4 N   n 1 (v2 + 1) σ
        else none
      else
        lp_X4_close_4 N   n 1 (v2 + 1) σ
set_option maxRecDepth 100000 in
set_option maxHeartbeats 4000000 in
theorem w_X4_close_4 {l : Launch} {D : va_G} {ca : Nat → ClassId} {ad : Nat → Nat} {p : Program} {e : Env} {s : State} {m : MethodId} {args : Array Value} {below : List Frame} {meth : Method} {c : Code} {A : Nat → Prop} (C : CX p s m args c D ca A RX4 cX4_close 3) (hr : meth.sig.returnType = (some .int)) (hlk : meth.locks = false) (N : Nat)  (r : Int32) (τ : St)  : ∀ (n : Nat) (v1 v2 : Int32) (σ : St), lp_X4_close_4 N   n v1 v2 σ = some (r, τ) → WW p l e (rmk 0) s m args below meth c 0 0 (EQ D ca ad SH A below args s (some (.int r)) τ) A D ca ad SH 4 [some (.ref (ad 25)), some (.int v1), some (.int v2)] [] σ := by
  intro n
  induction n with
  | zero => intro v1 v2 σ hf; cases hf
  | succ n ih =>
    intro v1 v2 σ hf
    rw [lp_X4_close_4] at hf
    refine s_iloadn (pc := 4) C dX4_close_4 rfl ?_
    refine s_aloadn (pc := 5) C dX4_close_5 rfl ?_
    refine s_getI (pc := 6) C fl_X4_13 SH_25 rfl dX4_close_6 ?_
    refine s_icmp_ge (pc := 9) (tgt := 37) C dX4_close_9 (by decide) (fun h_1 => ?_) (fun h_1 => ?_)
    · replace hf := ifp h_1 hf
      refine s_aloadn (pc := 37) C dX4_close_37 rfl ?_
      refine s_iloadn (pc := 38) C dX4_close_38 rfl ?_
      refine s_if_eq (pc := 39) (tgt := 46) C dX4_close_39 (by decide) (fun h_2 => ?_) (fun h_2 => ?_)
      · replace hf := ifp h_2 hf
        refine s_iconst (pc := 46) (v := 1) C dX4_close_46 (by decide) ?_
        refine s_putI (pc := 47) C fp_X4_7 SH_25 rfl dX4_close_47 ?_
        refine s_aloadn (pc := 50) C dX4_close_50 rfl ?_
        refine s_getI (pc := 51) C fl_X4_7 SH_25 rfl dX4_close_51 ?_
        refine s_if_eq (pc := 54) (tgt := 59) C dX4_close_54 (by decide) (fun h_3 => ?_) (fun h_3 => ?_)
        · replace hf := ifp h_3 hf
          refine s_iconst (pc := 59) (v := 0) C dX4_close_59 (by decide) ?_
          refine s_istoren (pc := 60) (lo' := [some (.ref (ad 25)), some (.int v1), some (.int 0)]) C dX4_close_60 (Nat.le_of_ble_eq_true rfl) rfl ?_
          refine s_few (lo' := [some (.ref (ad 25)), some (.int v1), some (.int 0)]) (lfS (lfS (lfS lf0))) ?_
          exact w_X4_close_61 C hr hlk N  r τ  N v1 0 (su σ 25 0 1) hf
        · replace hf := ifn h_3 hf
          refine s_iconst (pc := 57) (v := 0) C dX4_close_57 (by decide) ?_
          exact s_iret (pc := 58) C hr hlk dX4_close_58 (congrArg (fun z => some (Value.int z)) (rt hf).1) (rt hf).2
      · replace hf := ifn h_2 hf
        refine s_iconst (pc := 42) (v := 0) C dX4_close_42 (by decide) ?_
        refine s_goto (pc := 43) (tgt := 47) C dX4_close_43 (by decide) ?_
        refine s_putI (pc := 47) C fp_X4_7 SH_25 rfl dX4_close_47 ?_
        refine s_aloadn (pc := 50) C dX4_close_50 rfl ?_
        refine s_getI (pc := 51) C fl_X4_7 SH_25 rfl dX4_close_51 ?_
        refine s_if_eq (pc := 54) (tgt := 59) C dX4_close_54 (by decide) (fun h_4 => ?_) (fun h_4 => ?_)
        · replace hf := ifp h_4 hf
          refine s_iconst (pc := 59) (v := 0) C dX4_close_59 (by decide) ?_
          refine s_istoren (pc := 60) (lo' := [some (.ref (ad 25)), some (.int v1), some (.int 0)]) C dX4_close_60 (Nat.le_of_ble_eq_true rfl) rfl ?_
          refine s_few (lo' := [some (.ref (ad 25)), some (.int v1), some (.int 0)]) (lfS (lfS (lfS lf0))) ?_
          exact w_X4_close_61 C hr hlk N  r τ  N v1 0 (su σ 25 0 0) hf
        · replace hf := ifn h_4 hf
          refine s_iconst (pc := 57) (v := 0) C dX4_close_57 (by decide) ?_
          exact s_iret (pc := 58) C hr hlk dX4_close_58 (congrArg (fun z => some (Value.int z)) (rt hf).1) (rt hf).2
    · replace hf := ifn h_1 hf
      refine s_iloadn (pc := 12) C dX4_close_12 rfl ?_
      refine s_if_ne (pc := 13) (tgt := 25) C dX4_close_13 (by decide) (fun h_5 => ?_) (fun h_5 => ?_)
      · replace hf := ifn h_5 hf
        refine s_iconst (pc := 25) (v := 1) C dX4_close_25 (by decide) ?_
        refine s_goto (pc := 26) (tgt := 30) C dX4_close_26 (by decide) ?_
        refine s_istoren (pc := 30) (lo' := [some (.ref (ad 25)), some (.int 1), some (.int v2)]) C dX4_close_30 (Nat.le_of_ble_eq_true rfl) rfl ?_
        refine s_iinc (pc := 31) (v := (v2 + 1)) (lo' := [some (.ref (ad 25)), some (.int 1), some (.int (v2 + 1))]) C dX4_close_31 rfl rfl rfl ?_
        refine s_goto (pc := 34) (tgt := 4) C dX4_close_34 (by decide) ?_
        refine s_few (lo' := [some (.ref (ad 25)), some (.int 1), some (.int (v2 + 1))]) (lfS (lfS (lfS lf0))) ?_
        exact ih 1 (v2 + 1) σ hf
      · replace hf := ifp h_5 hf
        refine s_aloadn (pc := 16) C dX4_close_16 rfl ?_
        refine s_getR (pc := 17) (r := 32) C fl_X4_41 SH_25 rfl dX4_close_17 ?_
        refine s_iloadn (pc := 20) C dX4_close_20 rfl ?_
        obtain ⟨g_1, hf⟩ := gd hf
        refine s_iald (pc := 21) C SH_32 (ty0 ca) g_1 dX4_close_21 ?_
        refine s_if_lt (pc := 22) (tgt := 29) C dX4_close_22 (by decide) (fun h_6 => ?_) (fun h_6 => ?_)
        · replace hf := ifp h_6 hf
          refine s_iconst (pc := 29) (v := 0) C dX4_close_29 (by decide) ?_
          refine s_istoren (pc := 30) (lo' := [some (.ref (ad 25)), some (.int 0), some (.int v2)]) C dX4_close_30 (Nat.le_of_ble_eq_true rfl) rfl ?_
          refine s_iinc (pc := 31) (v := (v2 + 1)) (lo' := [some (.ref (ad 25)), some (.int 0), some (.int (v2 + 1))]) C dX4_close_31 rfl rfl rfl ?_
          refine s_goto (pc := 34) (tgt := 4) C dX4_close_34 (by decide) ?_
          refine s_few (lo' := [some (.ref (ad 25)), some (.int 0), some (.int (v2 + 1))]) (lfS (lfS (lfS lf0))) ?_
          exact ih 0 (v2 + 1) σ hf
        · replace hf := ifn h_6 hf
          refine s_iconst (pc := 25) (v := 1) C dX4_close_25 (by decide) ?_
          refine s_goto (pc := 26) (tgt := 30) C dX4_close_26 (by decide) ?_
          refine s_istoren (pc := 30) (lo' := [some (.ref (ad 25)), some (.int 1), some (.int v2)]) C dX4_close_30 (Nat.le_of_ble_eq_true rfl) rfl ?_
          refine s_iinc (pc := 31) (v := (v2 + 1)) (lo' := [some (.ref (ad 25)), some (.int 1), some (.int (v2 + 1))]) C dX4_close_31 rfl rfl rfl ?_
          refine s_goto (pc := 34) (tgt := 4) C dX4_close_34 (by decide) ?_
          refine s_few (lo' := [some (.ref (ad 25)), some (.int 1), some (.int (v2 + 1))]) (lfS (lfS (lfS lf0))) ?_
          exact ih 1 (v2 + 1) σ hf
def f_X4_close (N : Nat)  (σ : St) : Option (Int32 × St) :=
  lp_X4_close_4 N  N 0 0 σ
set_option maxRecDepth 100000 in
set_option maxHeartbeats 4000000 in
theorem c_X4_close (l : Launch) (D : va_G) (ca : Nat → ClassId) (ad : Nat → Nat) (N : Nat)  (σ : St) (r : Int32) (τ : St) (hf : f_X4_close N  σ = some (r, τ)) : cM l yX4_close (.code yX4_close cX4_close 3 (some .int)) (rmk 0) D ca ad SH [.ref (ad 25)] σ (some (.int r)) τ := by
  refine cM.intro2 (own := RX4) (lo := [some (.ref (ad 25)), none, none]) (by decide) rfl (ccR cc0) (Nat.le_of_ble_eq_true rfl) rfl ?_
  intro p e s m args below meth c A C hr hlk
  unfold f_X4_close at hf
  refine s_iconst (pc := 0) (v := 0) C dX4_close_0 (by decide) ?_
  refine s_istoren (pc := 1) (lo' := [some (.ref (ad 25)), some (.int 0), none]) C dX4_close_1 (Nat.le_of_ble_eq_true rfl) rfl ?_
  refine s_iconst (pc := 2) (v := 0) C dX4_close_2 (by decide) ?_
  refine s_istoren (pc := 3) (lo' := [some (.ref (ad 25)), some (.int 0), some (.int 0)]) C dX4_close_3 (Nat.le_of_ble_eq_true rfl) rfl ?_
  refine s_few (lo' := [some (.ref (ad 25)), some (.int 0), some (.int 0)]) (lfS (lfS (lfS lf0))) ?_
  exact w_X4_close_4 C hr hlk N  r τ  N 0 0 σ hf
def f_X4_box (N : Nat) (a1 : Int32) (σ : St) : Option (Int32 × St) :=
  bn (f_X4_noPiece N a1 σ) fun r_1 τ_1 =>
  if r_1 = 0 then
    if ((su τ_1 25 0 0) 25 0) = 0 then
      if inb a1 6 = true then
      some (((su τ_1 25 0 0) 31 (ix a1)), (su τ_1 25 0 0))
      else none
    else
      some (0, (su τ_1 25 0 0))
  else
    if ((su τ_1 25 0 1) 25 0) = 0 then
      if inb a1 6 = true then
      some (((su τ_1 25 0 1) 31 (ix a1)), (su τ_1 25 0 1))
      else none
    else
      some (0, (su τ_1 25 0 1))
set_option maxRecDepth 100000 in
set_option maxHeartbeats 4000000 in
theorem c_X4_box (l : Launch) (D : va_G) (ca : Nat → ClassId) (ad : Nat → Nat) (N : Nat) (a1 : Int32) (σ : St) (r : Int32) (τ : St) (hf : f_X4_box N a1 σ = some (r, τ)) : cM l yX4_box (.code yX4_box cX4_box 2 (some .int)) (rmk 1) D ca ad SH [.ref (ad 25), .int a1] σ (some (.int r)) τ := by
  refine cM.intro2 (own := RX4) (lo := [some (.ref (ad 25)), some (.int a1)]) (by decide) rfl (ccR (ccI cc0)) (Nat.le_of_ble_eq_true rfl) rfl ?_
  intro p e s m args below meth c A C hr hlk
  unfold f_X4_box at hf
  refine s_aloadn (pc := 0) C dX4_box_0 rfl ?_
  refine s_aloadn (pc := 1) C dX4_box_1 rfl ?_
  refine s_iloadn (pc := 2) C dX4_box_2 rfl ?_
  obtain ⟨r_1, τ_1, e_1, hf⟩ := bnd hf
  refine s_callV (pc := 3) (rest := [.ref (ad 25)]) C rfl (c_X4_noPiece l D ca ad N a1 σ r_1 τ_1 e_1) kv_X4_192 ⟨rfl, rfl⟩ (by decide) SH_25 ⟨_, rfl, rfl⟩ rfl rfl (Nat.le_of_ble_eq_true rfl) dX4_box_3 ⟨Nat.zero_le _, Nat.zero_le _⟩ ?_
  refine s_st (st' := [.int r_1, .ref (ad 25)]) rfl ?_
  refine s_if_eq (pc := 6) (tgt := 13) C dX4_box_6 (by decide) (fun h_1 => ?_) (fun h_1 => ?_)
  · replace hf := ifp h_1 hf
    refine s_iconst (pc := 13) (v := 0) C dX4_box_13 (by decide) ?_
    refine s_putI (pc := 14) C fp_X4_7 SH_25 rfl dX4_box_14 ?_
    refine s_aloadn (pc := 17) C dX4_box_17 rfl ?_
    refine s_getI (pc := 18) C fl_X4_7 SH_25 rfl dX4_box_18 ?_
    refine s_if_eq (pc := 21) (tgt := 28) C dX4_box_21 (by decide) (fun h_2 => ?_) (fun h_2 => ?_)
    · replace hf := ifp h_2 hf
      refine s_aloadn (pc := 28) C dX4_box_28 rfl ?_
      refine s_getR (pc := 29) (r := 31) C fl_X4_32 SH_25 rfl dX4_box_29 ?_
      refine s_iloadn (pc := 32) C dX4_box_32 rfl ?_
      obtain ⟨g_1, hf⟩ := gd hf
      refine s_iald (pc := 33) C SH_31 (ty0 ca) g_1 dX4_box_33 ?_
      exact s_iret (pc := 34) C hr hlk dX4_box_34 (congrArg (fun z => some (Value.int z)) (rt hf).1) (rt hf).2
    · replace hf := ifn h_2 hf
      refine s_iconst (pc := 24) (v := 0) C dX4_box_24 (by decide) ?_
      refine s_goto (pc := 25) (tgt := 34) C dX4_box_25 (by decide) ?_
      exact s_iret (pc := 34) C hr hlk dX4_box_34 (congrArg (fun z => some (Value.int z)) (rt hf).1) (rt hf).2
  · replace hf := ifn h_1 hf
    refine s_iconst (pc := 9) (v := 1) C dX4_box_9 (by decide) ?_
    refine s_goto (pc := 10) (tgt := 14) C dX4_box_10 (by decide) ?_
    refine s_putI (pc := 14) C fp_X4_7 SH_25 rfl dX4_box_14 ?_
    refine s_aloadn (pc := 17) C dX4_box_17 rfl ?_
    refine s_getI (pc := 18) C fl_X4_7 SH_25 rfl dX4_box_18 ?_
    refine s_if_eq (pc := 21) (tgt := 28) C dX4_box_21 (by decide) (fun h_3 => ?_) (fun h_3 => ?_)
    · replace hf := ifp h_3 hf
      refine s_aloadn (pc := 28) C dX4_box_28 rfl ?_
      refine s_getR (pc := 29) (r := 31) C fl_X4_32 SH_25 rfl dX4_box_29 ?_
      refine s_iloadn (pc := 32) C dX4_box_32 rfl ?_
      obtain ⟨g_2, hf⟩ := gd hf
      refine s_iald (pc := 33) C SH_31 (ty0 ca) g_2 dX4_box_33 ?_
      exact s_iret (pc := 34) C hr hlk dX4_box_34 (congrArg (fun z => some (Value.int z)) (rt hf).1) (rt hf).2
    · replace hf := ifn h_3 hf
      refine s_iconst (pc := 24) (v := 0) C dX4_box_24 (by decide) ?_
      refine s_goto (pc := 25) (tgt := 34) C dX4_box_25 (by decide) ?_
      exact s_iret (pc := 34) C hr hlk dX4_box_34 (congrArg (fun z => some (Value.int z)) (rt hf).1) (rt hf).2
def lp_X4_count_18 (N : Nat) (a1 : Int32) : Nat → Int32 → Int32 → Int32 → Int32 → Int32 → Int32 → St → Option (Int32 × St)
  | 0, _, _, _, _, _, _, _ => none
  | n + 1, v1, v2, v3, v4, v5, v6, σ =>
    if (σ 25 4) ≤ v6 then
      if v1 = 0 then
        some ((σ 25 4), σ)
      else
        if v1 = 1 then
          some (v2, σ)
        else
          if v1 = 2 then
            some (v3, σ)
          else
            if v1 = 3 then
              some ((σ 25 12), σ)
            else
              if v1 = 4 then
                bn (f_X4_volumeNow N σ) fun r_1 τ_1 =>
                some (r_1, τ_1)
              else
                if v1 = 5 then
                  some (v4, σ)
                else
                  if v1 = 6 then
                    some (v5, σ)
                  else
                    some ((-1), σ)
    else
      if inb v6 6 = true then
      if 0 ≤ (σ 31 (ix v6)) then
        if inb v6 6 = true then
        if (σ 32 (ix v6)) < 0 then
          lp_X4_count_18 N a1  n v1 v2 (v3 + 0) v4 v5 (v6 + 1) σ
        else
          if inb v6 6 = true then
          if inb v6 6 = true then
          if inb v6 6 = true then
          if ((σ 35 (ix v6)) + (σ 38 (ix v6))) ≤ v5 then
            lp_X4_count_18 N a1  n v1 (v2 + 1) (v3 + 0) (v4 + (σ 27 (ix v6))) v5 (v6 + 1) σ
          else
            if inb v6 6 = true then
            if inb v6 6 = true then
            lp_X4_count_18 N a1  n v1 (v2 + 1) (v3 + 0) (v4 + (σ 27 (ix v6))) ((σ 35 (ix v6)) + (σ 38 (ix v6))) (v6 + 1) σ
            else none
            else none
          else none
          else none
          else none
        else none
      else
        if inb v6 6 = true then
        if (σ 32 (ix v6)) < 0 then
          lp_X4_count_18 N a1  n v1 v2 (v3 + 1) v4 v5 (v6 + 1) σ
        else
          if inb v6 6 = true then
          if inb v6 6 = true then
          if inb v6 6 = true then
          if ((σ 35 (ix v6)) + (σ 38 (ix v6))) ≤ v5 then
            lp_X4_count_18 N a1  n v1 (v2 + 1) (v3 + 1) (v4 + (σ 27 (ix v6))) v5 (v6 + 1) σ
          else
            if inb v6 6 = true then
            if inb v6 6 = true then
            lp_X4_count_18 N a1  n v1 (v2 + 1) (v3 + 1) (v4 + (σ 27 (ix v6))) ((σ 35 (ix v6)) + (σ 38 (ix v6))) (v6 + 1) σ
            else none
            else none
          else none
          else none
          else none
        else none
      else none
set_option maxRecDepth 100000 in
set_option maxHeartbeats 4000000 in
theorem w_X4_count_18 {l : Launch} {D : va_G} {ca : Nat → ClassId} {ad : Nat → Nat} {p : Program} {e : Env} {s : State} {m : MethodId} {args : Array Value} {below : List Frame} {meth : Method} {c : Code} {A : Nat → Prop} (C : CX p s m args c D ca A RX4 cX4_count 7) (hr : meth.sig.returnType = (some .int)) (hlk : meth.locks = false) (N : Nat) (a1 : Int32) (r : Int32) (τ : St)  : ∀ (n : Nat) (v1 v2 v3 v4 v5 v6 : Int32) (σ : St), lp_X4_count_18 N a1  n v1 v2 v3 v4 v5 v6 σ = some (r, τ) → WW p l e (rmk 2) s m args below meth c 0 0 (EQ D ca ad SH A below args s (some (.int r)) τ) A D ca ad SH 18 [some (.ref (ad 25)), some (.int v1), some (.int v2), some (.int v3), some (.int v4), some (.int v5), some (.int v6)] [] σ := by
  intro n
  induction n with
  | zero => intro v1 v2 v3 v4 v5 v6 σ hf; cases hf
  | succ n ih =>
    intro v1 v2 v3 v4 v5 v6 σ hf
    rw [lp_X4_count_18] at hf
    refine s_iload (pc := 18) C dX4_count_18 rfl ?_
    refine s_aloadn (pc := 20) C dX4_count_20 rfl ?_
    refine s_getI (pc := 21) C fl_X4_13 SH_25 rfl dX4_count_21 ?_
    refine s_icmp_ge (pc := 24) (tgt := 113) C dX4_count_24 (by decide) (fun h_1 => ?_) (fun h_1 => ?_)
    · replace hf := ifp h_1 hf
      refine s_iloadn (pc := 113) C dX4_count_113 rfl ?_
      by_cases h_2 : v1 = 0
      · replace hf := ifp h_2 hf
        refine s_tsw (pc := 114) (off := 42) (tgt := 156) C h_2 dX4_count_114 (by decide) ?_
        refine s_aloadn (pc := 156) C dX4_count_156 rfl ?_
        refine s_getI (pc := 157) C fl_X4_13 SH_25 rfl dX4_count_157 ?_
        exact s_iret (pc := 160) C hr hlk dX4_count_160 (congrArg (fun z => some (Value.int z)) (rt hf).1) (rt hf).2
      · replace hf := ifn h_2 hf
        by_cases h_3 : v1 = 1
        · replace hf := ifp h_3 hf
          refine s_tsw (pc := 114) (off := 47) (tgt := 161) C h_3 dX4_count_114 (by decide) ?_
          refine s_iloadn (pc := 161) C dX4_count_161 rfl ?_
          exact s_iret (pc := 162) C hr hlk dX4_count_162 (congrArg (fun z => some (Value.int z)) (rt hf).1) (rt hf).2
        · replace hf := ifn h_3 hf
          by_cases h_4 : v1 = 2
          · replace hf := ifp h_4 hf
            refine s_tsw (pc := 114) (off := 49) (tgt := 163) C h_4 dX4_count_114 (by decide) ?_
            refine s_iloadn (pc := 163) C dX4_count_163 rfl ?_
            exact s_iret (pc := 164) C hr hlk dX4_count_164 (congrArg (fun z => some (Value.int z)) (rt hf).1) (rt hf).2
          · replace hf := ifn h_4 hf
            by_cases h_5 : v1 = 3
            · replace hf := ifp h_5 hf
              refine s_tsw (pc := 114) (off := 51) (tgt := 165) C h_5 dX4_count_114 (by decide) ?_
              refine s_aloadn (pc := 165) C dX4_count_165 rfl ?_
              refine s_getI (pc := 166) C fl_X4_38 SH_25 rfl dX4_count_166 ?_
              exact s_iret (pc := 169) C hr hlk dX4_count_169 (congrArg (fun z => some (Value.int z)) (rt hf).1) (rt hf).2
            · replace hf := ifn h_5 hf
              by_cases h_6 : v1 = 4
              · replace hf := ifp h_6 hf
                refine s_tsw (pc := 114) (off := 56) (tgt := 170) C h_6 dX4_count_114 (by decide) ?_
                refine s_aloadn (pc := 170) C dX4_count_170 rfl ?_
                obtain ⟨r_1, τ_1, e_1, hf⟩ := bnd hf
                refine s_callV (pc := 171) (rest := []) C rfl (c_X4_volumeNow l D ca ad N  σ r_1 τ_1 e_1) kv_X4_165 ⟨rfl, rfl⟩ (by decide) SH_25 ⟨_, rfl, rfl⟩ rfl rfl (Nat.le_of_ble_eq_true rfl) dX4_count_171 ⟨Nat.zero_le _, Nat.zero_le _⟩ ?_
                refine s_st (st' := [.int r_1]) rfl ?_
                exact s_iret (pc := 174) C hr hlk dX4_count_174 (congrArg (fun z => some (Value.int z)) (rt hf).1) (rt hf).2
              · replace hf := ifn h_6 hf
                by_cases h_7 : v1 = 5
                · replace hf := ifp h_7 hf
                  refine s_tsw (pc := 114) (off := 61) (tgt := 175) C h_7 dX4_count_114 (by decide) ?_
                  refine s_iload (pc := 175) C dX4_count_175 rfl ?_
                  exact s_iret (pc := 177) C hr hlk dX4_count_177 (congrArg (fun z => some (Value.int z)) (rt hf).1) (rt hf).2
                · replace hf := ifn h_7 hf
                  by_cases h_8 : v1 = 6
                  · replace hf := ifp h_8 hf
                    refine s_tsw (pc := 114) (off := 64) (tgt := 178) C h_8 dX4_count_114 (by decide) ?_
                    refine s_iload (pc := 178) C dX4_count_178 rfl ?_
                    exact s_iret (pc := 180) C hr hlk dX4_count_180 (congrArg (fun z => some (Value.int z)) (rt hf).1) (rt hf).2
                  · replace hf := ifn h_8 hf
                    have ho : (Int32.toInt v1) < 0 ∨ 6 < Int32.toInt v1 := by
                      have z0 := lv_neT h_2 (a := 0) (by decide)
                      have z1 := lv_neT h_3 (a := 1) (by decide)
                      have z2 := lv_neT h_4 (a := 2) (by decide)
                      have z3 := lv_neT h_5 (a := 3) (by decide)
                      have z4 := lv_neT h_6 (a := 4) (by decide)
                      have z5 := lv_neT h_7 (a := 5) (by decide)
                      have z6 := lv_neT h_8 (a := 6) (by decide)
                      omega
                    refine s_tswD (pc := 114) (tgt := 181) C ho dX4_count_114 (by decide) ?_
                    refine s_iconst (pc := 181) (v := (-1)) C dX4_count_181 (by decide) ?_
                    exact s_iret (pc := 182) C hr hlk dX4_count_182 (congrArg (fun z => some (Value.int z)) (rt hf).1) (rt hf).2
    · replace hf := ifn h_1 hf
      refine s_iloadn (pc := 27) C dX4_count_27 rfl ?_
      refine s_aloadn (pc := 28) C dX4_count_28 rfl ?_
      refine s_getR (pc := 29) (r := 31) C fl_X4_32 SH_25 rfl dX4_count_29 ?_
      refine s_iload (pc := 32) C dX4_count_32 rfl ?_
      obtain ⟨g_1, hf⟩ := gd hf
      refine s_iald (pc := 34) C SH_31 (ty0 ca) g_1 dX4_count_34 ?_
      refine s_if_ge (pc := 35) (tgt := 42) C dX4_count_35 (by decide) (fun h_9 => ?_) (fun h_9 => ?_)
      · replace hf := ifp h_9 hf
        refine s_iconst (pc := 42) (v := 0) C dX4_count_42 (by decide) ?_
        refine s_iadd (pc := 43) C dX4_count_43 ?_
        refine s_istoren (pc := 44) (lo' := [some (.ref (ad 25)), some (.int v1), some (.int v2), some (.int (v3 + 0)), some (.int v4), some (.int v5), some (.int v6)]) C dX4_count_44 (Nat.le_of_ble_eq_true rfl) rfl ?_
        refine s_aloadn (pc := 45) C dX4_count_45 rfl ?_
        refine s_getR (pc := 46) (r := 32) C fl_X4_41 SH_25 rfl dX4_count_46 ?_
        refine s_iload (pc := 49) C dX4_count_49 rfl ?_
        obtain ⟨g_2, hf⟩ := gd hf
        refine s_iald (pc := 51) C SH_32 (ty0 ca) g_2 dX4_count_51 ?_
        refine s_if_lt (pc := 52) (tgt := 107) C dX4_count_52 (by decide) (fun h_10 => ?_) (fun h_10 => ?_)
        · replace hf := ifp h_10 hf
          refine s_iinc (pc := 107) (v := (v6 + 1)) (lo' := [some (.ref (ad 25)), some (.int v1), some (.int v2), some (.int (v3 + 0)), some (.int v4), some (.int v5), some (.int (v6 + 1))]) C dX4_count_107 rfl rfl rfl ?_
          refine s_goto (pc := 110) (tgt := 18) C dX4_count_110 (by decide) ?_
          refine s_few (lo' := [some (.ref (ad 25)), some (.int v1), some (.int v2), some (.int (v3 + 0)), some (.int v4), some (.int v5), some (.int (v6 + 1))]) (lfS (lfS (lfS (lfS (lfS (lfS (lfS lf0))))))) ?_
          exact ih v1 v2 (v3 + 0) v4 v5 (v6 + 1) σ hf
        · replace hf := ifn h_10 hf
          refine s_iinc (pc := 55) (v := (v2 + 1)) (lo' := [some (.ref (ad 25)), some (.int v1), some (.int (v2 + 1)), some (.int (v3 + 0)), some (.int v4), some (.int v5), some (.int v6)]) C dX4_count_55 rfl rfl rfl ?_
          refine s_iload (pc := 58) C dX4_count_58 rfl ?_
          refine s_aloadn (pc := 60) C dX4_count_60 rfl ?_
          refine s_getR (pc := 61) (r := 27) C fl_X4_20 SH_25 rfl dX4_count_61 ?_
          refine s_iload (pc := 64) C dX4_count_64 rfl ?_
          obtain ⟨g_3, hf⟩ := gd hf
          refine s_iald (pc := 66) C SH_27 (ty0 ca) g_3 dX4_count_66 ?_
          refine s_iadd (pc := 67) C dX4_count_67 ?_
          refine s_istore (pc := 68) (lo' := [some (.ref (ad 25)), some (.int v1), some (.int (v2 + 1)), some (.int (v3 + 0)), some (.int (v4 + (σ 27 (ix v6)))), some (.int v5), some (.int v6)]) C dX4_count_68 (Nat.le_of_ble_eq_true rfl) rfl ?_
          refine s_aloadn (pc := 70) C dX4_count_70 rfl ?_
          refine s_getR (pc := 71) (r := 35) C fl_X4_50 SH_25 rfl dX4_count_71 ?_
          refine s_iload (pc := 74) C dX4_count_74 rfl ?_
          obtain ⟨g_4, hf⟩ := gd hf
          refine s_iald (pc := 76) C SH_35 (ty0 ca) g_4 dX4_count_76 ?_
          refine s_aloadn (pc := 77) C dX4_count_77 rfl ?_
          refine s_getR (pc := 78) (r := 38) C fl_X4_59 SH_25 rfl dX4_count_78 ?_
          refine s_iload (pc := 81) C dX4_count_81 rfl ?_
          obtain ⟨g_5, hf⟩ := gd hf
          refine s_iald (pc := 83) C SH_38 (ty0 ca) g_5 dX4_count_83 ?_
          refine s_iadd (pc := 84) C dX4_count_84 ?_
          refine s_iload (pc := 85) C dX4_count_85 rfl ?_
          refine s_icmp_le (pc := 87) (tgt := 107) C dX4_count_87 (by decide) (fun h_11 => ?_) (fun h_11 => ?_)
          · replace hf := ifp h_11 hf
            refine s_iinc (pc := 107) (v := (v6 + 1)) (lo' := [some (.ref (ad 25)), some (.int v1), some (.int (v2 + 1)), some (.int (v3 + 0)), some (.int (v4 + (σ 27 (ix v6)))), some (.int v5), some (.int (v6 + 1))]) C dX4_count_107 rfl rfl rfl ?_
            refine s_goto (pc := 110) (tgt := 18) C dX4_count_110 (by decide) ?_
            refine s_few (lo' := [some (.ref (ad 25)), some (.int v1), some (.int (v2 + 1)), some (.int (v3 + 0)), some (.int (v4 + (σ 27 (ix v6)))), some (.int v5), some (.int (v6 + 1))]) (lfS (lfS (lfS (lfS (lfS (lfS (lfS lf0))))))) ?_
            exact ih v1 (v2 + 1) (v3 + 0) (v4 + (σ 27 (ix v6))) v5 (v6 + 1) σ hf
          · replace hf := ifn h_11 hf
            refine s_aloadn (pc := 90) C dX4_count_90 rfl ?_
            refine s_getR (pc := 91) (r := 35) C fl_X4_50 SH_25 rfl dX4_count_91 ?_
            refine s_iload (pc := 94) C dX4_count_94 rfl ?_
            obtain ⟨g_6, hf⟩ := gd hf
            refine s_iald (pc := 96) C SH_35 (ty0 ca) g_6 dX4_count_96 ?_
            refine s_aloadn (pc := 97) C dX4_count_97 rfl ?_
            refine s_getR (pc := 98) (r := 38) C fl_X4_59 SH_25 rfl dX4_count_98 ?_
            refine s_iload (pc := 101) C dX4_count_101 rfl ?_
            obtain ⟨g_7, hf⟩ := gd hf
            refine s_iald (pc := 103) C SH_38 (ty0 ca) g_7 dX4_count_103 ?_
            refine s_iadd (pc := 104) C dX4_count_104 ?_
            refine s_istore (pc := 105) (lo' := [some (.ref (ad 25)), some (.int v1), some (.int (v2 + 1)), some (.int (v3 + 0)), some (.int (v4 + (σ 27 (ix v6)))), some (.int ((σ 35 (ix v6)) + (σ 38 (ix v6)))), some (.int v6)]) C dX4_count_105 (Nat.le_of_ble_eq_true rfl) rfl ?_
            refine s_iinc (pc := 107) (v := (v6 + 1)) (lo' := [some (.ref (ad 25)), some (.int v1), some (.int (v2 + 1)), some (.int (v3 + 0)), some (.int (v4 + (σ 27 (ix v6)))), some (.int ((σ 35 (ix v6)) + (σ 38 (ix v6)))), some (.int (v6 + 1))]) C dX4_count_107 rfl rfl rfl ?_
            refine s_goto (pc := 110) (tgt := 18) C dX4_count_110 (by decide) ?_
            refine s_few (lo' := [some (.ref (ad 25)), some (.int v1), some (.int (v2 + 1)), some (.int (v3 + 0)), some (.int (v4 + (σ 27 (ix v6)))), some (.int ((σ 35 (ix v6)) + (σ 38 (ix v6)))), some (.int (v6 + 1))]) (lfS (lfS (lfS (lfS (lfS (lfS (lfS lf0))))))) ?_
            exact ih v1 (v2 + 1) (v3 + 0) (v4 + (σ 27 (ix v6))) ((σ 35 (ix v6)) + (σ 38 (ix v6))) (v6 + 1) σ hf
      · replace hf := ifn h_9 hf
        refine s_iconst (pc := 38) (v := 1) C dX4_count_38 (by decide) ?_
        refine s_goto (pc := 39) (tgt := 43) C dX4_count_39 (by decide) ?_
        refine s_iadd (pc := 43) C dX4_count_43 ?_
        refine s_istoren (pc := 44) (lo' := [some (.ref (ad 25)), some (.int v1), some (.int v2), some (.int (v3 + 1)), some (.int v4), some (.int v5), some (.int v6)]) C dX4_count_44 (Nat.le_of_ble_eq_true rfl) rfl ?_
        refine s_aloadn (pc := 45) C dX4_count_45 rfl ?_
        refine s_getR (pc := 46) (r := 32) C fl_X4_41 SH_25 rfl dX4_count_46 ?_
        refine s_iload (pc := 49) C dX4_count_49 rfl ?_
        obtain ⟨g_8, hf⟩ := gd hf
        refine s_iald (pc := 51) C SH_32 (ty0 ca) g_8 dX4_count_51 ?_
        refine s_if_lt (pc := 52) (tgt := 107) C dX4_count_52 (by decide) (fun h_12 => ?_) (fun h_12 => ?_)
        · replace hf := ifp h_12 hf
          refine s_iinc (pc := 107) (v := (v6 + 1)) (lo' := [some (.ref (ad 25)), some (.int v1), some (.int v2), some (.int (v3 + 1)), some (.int v4), some (.int v5), some (.int (v6 + 1))]) C dX4_count_107 rfl rfl rfl ?_
          refine s_goto (pc := 110) (tgt := 18) C dX4_count_110 (by decide) ?_
          refine s_few (lo' := [some (.ref (ad 25)), some (.int v1), some (.int v2), some (.int (v3 + 1)), some (.int v4), some (.int v5), some (.int (v6 + 1))]) (lfS (lfS (lfS (lfS (lfS (lfS (lfS lf0))))))) ?_
          exact ih v1 v2 (v3 + 1) v4 v5 (v6 + 1) σ hf
        · replace hf := ifn h_12 hf
          refine s_iinc (pc := 55) (v := (v2 + 1)) (lo' := [some (.ref (ad 25)), some (.int v1), some (.int (v2 + 1)), some (.int (v3 + 1)), some (.int v4), some (.int v5), some (.int v6)]) C dX4_count_55 rfl rfl rfl ?_
          refine s_iload (pc := 58) C dX4_count_58 rfl ?_
          refine s_aloadn (pc := 60) C dX4_count_60 rfl ?_
          refine s_getR (pc := 61) (r := 27) C fl_X4_20 SH_25 rfl dX4_count_61 ?_
          refine s_iload (pc := 64) C dX4_count_64 rfl ?_
          obtain ⟨g_9, hf⟩ := gd hf
          refine s_iald (pc := 66) C SH_27 (ty0 ca) g_9 dX4_count_66 ?_
          refine s_iadd (pc := 67) C dX4_count_67 ?_
          refine s_istore (pc := 68) (lo' := [some (.ref (ad 25)), some (.int v1), some (.int (v2 + 1)), some (.int (v3 + 1)), some (.int (v4 + (σ 27 (ix v6)))), some (.int v5), some (.int v6)]) C dX4_count_68 (Nat.le_of_ble_eq_true rfl) rfl ?_
          refine s_aloadn (pc := 70) C dX4_count_70 rfl ?_
          refine s_getR (pc := 71) (r := 35) C fl_X4_50 SH_25 rfl dX4_count_71 ?_
          refine s_iload (pc := 74) C dX4_count_74 rfl ?_
          obtain ⟨g_10, hf⟩ := gd hf
          refine s_iald (pc := 76) C SH_35 (ty0 ca) g_10 dX4_count_76 ?_
          refine s_aloadn (pc := 77) C dX4_count_77 rfl ?_
          refine s_getR (pc := 78) (r := 38) C fl_X4_59 SH_25 rfl dX4_count_78 ?_
          refine s_iload (pc := 81) C dX4_count_81 rfl ?_
          obtain ⟨g_11, hf⟩ := gd hf
          refine s_iald (pc := 83) C SH_38 (ty0 ca) g_11 dX4_count_83 ?_
          refine s_iadd (pc := 84) C dX4_count_84 ?_
          refine s_iload (pc := 85) C dX4_count_85 rfl ?_
          refine s_icmp_le (pc := 87) (tgt := 107) C dX4_count_87 (by decide) (fun h_13 => ?_) (fun h_13 => ?_)
          · replace hf := ifp h_13 hf
            refine s_iinc (pc := 107) (v := (v6 + 1)) (lo' := [some (.ref (ad 25)), some (.int v1), some (.int (v2 + 1)), some (.int (v3 + 1)), some (.int (v4 + (σ 27 (ix v6)))), some (.int v5), some (.int (v6 + 1))]) C dX4_count_107 rfl rfl rfl ?_
            refine s_goto (pc := 110) (tgt := 18) C dX4_count_110 (by decide) ?_
            refine s_few (lo' := [some (.ref (ad 25)), some (.int v1), some (.int (v2 + 1)), some (.int (v3 + 1)), some (.int (v4 + (σ 27 (ix v6)))), some (.int v5), some (.int (v6 + 1))]) (lfS (lfS (lfS (lfS (lfS (lfS (lfS lf0))))))) ?_
            exact ih v1 (v2 + 1) (v3 + 1) (v4 + (σ 27 (ix v6))) v5 (v6 + 1) σ hf
          · replace hf := ifn h_13 hf
            refine s_aloadn (pc := 90) C dX4_count_90 rfl ?_
            refine s_getR (pc := 91) (r := 35) C fl_X4_50 SH_25 rfl dX4_count_91 ?_
            refine s_iload (pc := 94) C dX4_count_94 rfl ?_
            obtain ⟨g_12, hf⟩ := gd hf
            refine s_iald (pc := 96) C SH_35 (ty0 ca) g_12 dX4_count_96 ?_
            refine s_aloadn (pc := 97) C dX4_count_97 rfl ?_
            refine s_getR (pc := 98) (r := 38) C fl_X4_59 SH_25 rfl dX4_count_98 ?_
            refine s_iload (pc := 101) C dX4_count_101 rfl ?_
            obtain ⟨g_13, hf⟩ := gd hf
            refine s_iald (pc := 103) C SH_38 (ty0 ca) g_13 dX4_count_103 ?_
            refine s_iadd (pc := 104) C dX4_count_104 ?_
            refine s_istore (pc := 105) (lo' := [some (.ref (ad 25)), some (.int v1), some (.int (v2 + 1)), some (.int (v3 + 1)), some (.int (v4 + (σ 27 (ix v6)))), some (.int ((σ 35 (ix v6)) + (σ 38 (ix v6)))), some (.int v6)]) C dX4_count_105 (Nat.le_of_ble_eq_true rfl) rfl ?_
            refine s_iinc (pc := 107) (v := (v6 + 1)) (lo' := [some (.ref (ad 25)), some (.int v1), some (.int (v2 + 1)), some (.int (v3 + 1)), some (.int (v4 + (σ 27 (ix v6)))), some (.int ((σ 35 (ix v6)) + (σ 38 (ix v6)))), some (.int (v6 + 1))]) C dX4_count_107 rfl rfl rfl ?_
            refine s_goto (pc := 110) (tgt := 18) C dX4_count_110 (by decide) ?_
            refine s_few (lo' := [some (.ref (ad 25)), some (.int v1), some (.int (v2 + 1)), some (.int (v3 + 1)), some (.int (v4 + (σ 27 (ix v6)))), some (.int ((σ 35 (ix v6)) + (σ 38 (ix v6)))), some (.int (v6 + 1))]) (lfS (lfS (lfS (lfS (lfS (lfS (lfS lf0))))))) ?_
            exact ih v1 (v2 + 1) (v3 + 1) (v4 + (σ 27 (ix v6))) ((σ 35 (ix v6)) + (σ 38 (ix v6))) (v6 + 1) σ hf
def f_X4_count (N : Nat) (a1 : Int32) (σ : St) : Option (Int32 × St) :=
  lp_X4_count_18 N a1 N a1 0 0 0 0 0 (su σ 25 0 0)
set_option maxRecDepth 100000 in
set_option maxHeartbeats 4000000 in
theorem c_X4_count (l : Launch) (D : va_G) (ca : Nat → ClassId) (ad : Nat → Nat) (N : Nat) (a1 : Int32) (σ : St) (r : Int32) (τ : St) (hf : f_X4_count N a1 σ = some (r, τ)) : cM l yX4_count (.code yX4_count cX4_count 7 (some .int)) (rmk 2) D ca ad SH [.ref (ad 25), .int a1] σ (some (.int r)) τ := by
  refine cM.intro2 (own := RX4) (lo := [some (.ref (ad 25)), some (.int a1), none, none, none, none, none]) (by decide) rfl (ccR (ccI cc0)) (Nat.le_of_ble_eq_true rfl) rfl ?_
  intro p e s m args below meth c A C hr hlk
  unfold f_X4_count at hf
  refine s_aloadn (pc := 0) C dX4_count_0 rfl ?_
  refine s_iconst (pc := 1) (v := 0) C dX4_count_1 (by decide) ?_
  refine s_putI (pc := 2) C fp_X4_7 SH_25 rfl dX4_count_2 ?_
  refine s_iconst (pc := 5) (v := 0) C dX4_count_5 (by decide) ?_
  refine s_istoren (pc := 6) (lo' := [some (.ref (ad 25)), some (.int a1), some (.int 0), none, none, none, none]) C dX4_count_6 (Nat.le_of_ble_eq_true rfl) rfl ?_
  refine s_iconst (pc := 7) (v := 0) C dX4_count_7 (by decide) ?_
  refine s_istoren (pc := 8) (lo' := [some (.ref (ad 25)), some (.int a1), some (.int 0), some (.int 0), none, none, none]) C dX4_count_8 (Nat.le_of_ble_eq_true rfl) rfl ?_
  refine s_iconst (pc := 9) (v := 0) C dX4_count_9 (by decide) ?_
  refine s_istore (pc := 10) (lo' := [some (.ref (ad 25)), some (.int a1), some (.int 0), some (.int 0), some (.int 0), none, none]) C dX4_count_10 (Nat.le_of_ble_eq_true rfl) rfl ?_
  refine s_iconst (pc := 12) (v := 0) C dX4_count_12 (by decide) ?_
  refine s_istore (pc := 13) (lo' := [some (.ref (ad 25)), some (.int a1), some (.int 0), some (.int 0), some (.int 0), some (.int 0), none]) C dX4_count_13 (Nat.le_of_ble_eq_true rfl) rfl ?_
  refine s_iconst (pc := 15) (v := 0) C dX4_count_15 (by decide) ?_
  refine s_istore (pc := 16) (lo' := [some (.ref (ad 25)), some (.int a1), some (.int 0), some (.int 0), some (.int 0), some (.int 0), some (.int 0)]) C dX4_count_16 (Nat.le_of_ble_eq_true rfl) rfl ?_
  refine s_few (lo' := [some (.ref (ad 25)), some (.int a1), some (.int 0), some (.int 0), some (.int 0), some (.int 0), some (.int 0)]) (lfS (lfS (lfS (lfS (lfS (lfS (lfS lf0))))))) ?_
  exact w_X4_count_18 C hr hlk N a1 r τ  N a1 0 0 0 0 0 (su σ 25 0 0) hf
