def f_X3_known (N : Nat) (a1 : Int32) (σ : St) : Option ((Nat × St) ⊕ (String × St)) :=
  if a1 < 0 then
    some (.inr ("java/util/NoSuchElementException", σ))
  else
    if a1 < (σ 0 4) then
      if inb a1 6 = true then
      some (.inl ((5 + ix a1), σ))
      else none
    else
      some (.inr ("java/util/NoSuchElementException", σ))
set_option maxRecDepth 100000 in
set_option maxHeartbeats 4000000 in
theorem c_X3_known (l : Launch) (D : va_G) (ca : Nat → ClassId) (ad : Nat → Nat) (hl : l.stackTraces = false) (N : Nat) (a1 : Int32) (σ : St) (r : (Nat × St) ⊕ (String × St)) (hf : f_X3_known N a1 σ = some r) : cT l yX3_known (.code yX3_known cX3_known 2 (some (.object "PackingSearch$Piece"))) (rmx 8 1) D ca ad SH [.ref (ad 0), .int a1] σ (toRL ad r) 1 := by
  refine cT.intro2 (own := RX3) (lo := [some (.ref (ad 0)), some (.int a1)]) (by decide) rfl (ccR (ccI cc0)) (Nat.le_of_ble_eq_true rfl) rfl ?_
  intro p e s m args below meth c A C hr hlk hout hXE
  unfold f_X3_known at hf
  refine s_iloadn (pc := 0) C dX3_known_0 rfl ?_
  refine s_if_lt (pc := 1) (tgt := 12) C dX3_known_1 (by decide) (fun h_1 => ?_) (fun h_1 => ?_)
  · replace hf := ifp h_1 hf
    exact t_throwN (pc := 12) C rfl hl hlk hout hXE th_218_220_222 dX3_known_12 dX3_known_15 dX3_known_16 dX3_known_18 dX3_known_21 ⟨by decide, Nat.le_of_ble_eq_true rfl, by decide, by decide, by decide, by decide⟩ (by rw [← Option.some.inj hf]; rfl)
  · replace hf := ifn h_1 hf
    refine s_iloadn (pc := 4) C dX3_known_4 rfl ?_
    refine s_aloadn (pc := 5) C dX3_known_5 rfl ?_
    refine s_getI (pc := 6) C fl_X3_49 SH_0 rfl dX3_known_6 ?_
    refine s_icmp_lt (pc := 9) (tgt := 22) C dX3_known_9 (by decide) (fun h_2 => ?_) (fun h_2 => ?_)
    · replace hf := ifp h_2 hf
      refine s_aloadn (pc := 22) C dX3_known_22 rfl ?_
      refine s_getR (pc := 23) (r := 1) C fl_X3_15 SH_0 rfl dX3_known_23 ?_
      refine s_iloadn (pc := 26) C dX3_known_26 rfl ?_
      obtain ⟨g_1, hf⟩ := gd hf
      refine s_aald (pc := 27) C SH_1 (ty1 ca) g_1 dX3_known_27 ?_
      exact t_aret (pc := 28) C hr hlk dX3_known_28 ⟨by decide, by decide⟩ (by rw [← Option.some.inj hf]; rfl)
    · replace hf := ifn h_2 hf
      exact t_throwN (pc := 12) C rfl hl hlk hout hXE th_218_220_222 dX3_known_12 dX3_known_15 dX3_known_16 dX3_known_18 dX3_known_21 ⟨by decide, Nat.le_of_ble_eq_true rfl, by decide, by decide, by decide, by decide⟩ (by rw [← Option.some.inj hf]; rfl)
theorem sh_X3_known {N : Nat} {a : Int32} {σ τ : St} {r : Nat} (h : f_X3_known N a σ = some (.inl (r, τ))) : SH[r]? = some oPiece := by
  unfold f_X3_known at h
  split at h
  · cases h
  · split at h
    · obtain ⟨g, h⟩ := gd h
      cases h
      exact SH_piece (inb_lt g)
    · cases h
def f_X3_spotOf (N : Nat) (a1 : Int32) (σ : St) : Option ((Nat × St) ⊕ (String × St)) :=
  if a1 < 0 then
    some (.inr ("java/util/NoSuchElementException", σ))
  else
    if a1 < (σ 0 4) then
      if inb a1 6 = true then
      some (.inl ((13 + 6 * 0 + ix a1), σ))
      else none
    else
      some (.inr ("java/util/NoSuchElementException", σ))
set_option maxRecDepth 100000 in
set_option maxHeartbeats 4000000 in
theorem c_X3_spotOf (l : Launch) (D : va_G) (ca : Nat → ClassId) (ad : Nat → Nat) (hl : l.stackTraces = false) (N : Nat) (a1 : Int32) (σ : St) (r : (Nat × St) ⊕ (String × St)) (hf : f_X3_spotOf N a1 σ = some r) : cT l yX3_spotOf (.code yX3_spotOf cX3_spotOf 2 (some (.object "PackingSearch$Spot"))) (rmx 8 1) D ca ad SH [.ref (ad 0), .int a1] σ (toRL ad r) 1 := by
  refine cT.intro2 (own := RX3) (lo := [some (.ref (ad 0)), some (.int a1)]) (by decide) rfl (ccR (ccI cc0)) (Nat.le_of_ble_eq_true rfl) rfl ?_
  intro p e s m args below meth c A C hr hlk hout hXE
  unfold f_X3_spotOf at hf
  refine s_iloadn (pc := 0) C dX3_spotOf_0 rfl ?_
  refine s_if_lt (pc := 1) (tgt := 12) C dX3_spotOf_1 (by decide) (fun h_1 => ?_) (fun h_1 => ?_)
  · replace hf := ifp h_1 hf
    exact t_throwN (pc := 12) C rfl hl hlk hout hXE th_218_220_222 dX3_spotOf_12 dX3_spotOf_15 dX3_spotOf_16 dX3_spotOf_18 dX3_spotOf_21 ⟨by decide, Nat.le_of_ble_eq_true rfl, by decide, by decide, by decide, by decide⟩ (by rw [← Option.some.inj hf]; rfl)
  · replace hf := ifn h_1 hf
    refine s_iloadn (pc := 4) C dX3_spotOf_4 rfl ?_
    refine s_aloadn (pc := 5) C dX3_spotOf_5 rfl ?_
    refine s_getI (pc := 6) C fl_X3_49 SH_0 rfl dX3_spotOf_6 ?_
    refine s_icmp_lt (pc := 9) (tgt := 22) C dX3_spotOf_9 (by decide) (fun h_2 => ?_) (fun h_2 => ?_)
    · replace hf := ifp h_2 hf
      refine s_aloadn (pc := 22) C dX3_spotOf_22 rfl ?_
      refine s_getR (pc := 23) (r := 2) C fl_X3_25 SH_0 rfl dX3_spotOf_23 ?_
      refine s_getR (pc := 26) (r := (11 + 0)) C fl_X3_196 (SH_plan (by decide : 0 < 2)) rfl dX3_spotOf_26 ?_
      refine s_iloadn (pc := 29) C dX3_spotOf_29 rfl ?_
      obtain ⟨g_1, hf⟩ := gd hf
      refine s_aald (pc := 30) C (SH_spots (by decide : 0 < 2)) (ty2 ca) g_1 dX3_spotOf_30 ?_
      exact t_aret (pc := 31) C hr hlk dX3_spotOf_31 ⟨by decide, by decide⟩ (by rw [← Option.some.inj hf]; rfl)
    · replace hf := ifn h_2 hf
      exact t_throwN (pc := 12) C rfl hl hlk hout hXE th_218_220_222 dX3_spotOf_12 dX3_spotOf_15 dX3_spotOf_16 dX3_spotOf_18 dX3_spotOf_21 ⟨by decide, Nat.le_of_ble_eq_true rfl, by decide, by decide, by decide, by decide⟩ (by rw [← Option.some.inj hf]; rfl)
theorem sh_X3_spotOf {N : Nat} {a : Int32} {σ τ : St} {r : Nat} (h : f_X3_spotOf N a σ = some (.inl (r, τ))) : SH[r]? = some oSpot := by
  unfold f_X3_spotOf at h
  split at h
  · cases h
  · split at h
    · obtain ⟨g, h⟩ := gd h
      cases h
      exact SH_spot (b := 0) (by decide) (inb_lt g)
    · cases h
def f_X3_piece (N : Nat) (a1 : Int32) (a2 : Int32) (a3 : Int32) (a4 : Int32) (σ : St) : Option ((Int32 × St) ⊕ (String × St)) :=
  bn (f_X3_isSide N a1 σ) fun r_1 τ_1 =>
  if r_1 = 0 then
    some (.inr ("java/lang/IllegalArgumentException", τ_1))
  else
    bn (f_X3_isSide N a2 τ_1) fun r_2 τ_2 =>
    if r_2 = 0 then
      some (.inr ("java/lang/IllegalArgumentException", τ_2))
    else
      bn (f_X3_isSide N a3 τ_2) fun r_3 τ_3 =>
      if r_3 = 0 then
        some (.inr ("java/lang/IllegalArgumentException", τ_3))
      else
        if a4 < 0 then
          some (.inr ("java/lang/IllegalArgumentException", τ_3))
        else
          if a4 ≤ 100 then
            if (τ_3 0 4) < 6 then
              if inb (τ_3 0 4) 6 = true then
              bv (f_X0_become N (5 + ix (τ_3 0 4)) a1 a2 a3 a4 τ_3) fun τ_4 =>
              some (.inl ((τ_3 0 4), (su τ_4 0 4 ((τ_4 0 4) + 1))))
              else none
            else
              some (.inr ("java/lang/UnsupportedOperationException", τ_3))
          else
            some (.inr ("java/lang/IllegalArgumentException", τ_3))
set_option maxRecDepth 100000 in
set_option maxHeartbeats 4000000 in
theorem c_X3_piece (l : Launch) (D : va_G) (ca : Nat → ClassId) (ad : Nat → Nat) (hl : l.stackTraces = false) (N : Nat) (a1 : Int32) (a2 : Int32) (a3 : Int32) (a4 : Int32) (σ : St) (r : (Int32 × St) ⊕ (String × St)) (hf : f_X3_piece N a1 a2 a3 a4 σ = some r) : cT l yX3_piece (.code yX3_piece cX3_piece 6 (some .int)) (rmx 8 1) D ca ad SH [.ref (ad 0), .int a1, .int a2, .int a3, .int a4] σ (toRI r) 1 := by
  refine cT.intro2 (own := RX3) (lo := [some (.ref (ad 0)), some (.int a1), some (.int a2), some (.int a3), some (.int a4), none]) (by decide) rfl (ccR (ccI (ccI (ccI (ccI cc0))))) (Nat.le_of_ble_eq_true rfl) rfl ?_
  intro p e s m args below meth c A C hr hlk hout hXE
  unfold f_X3_piece at hf
  refine s_iloadn (pc := 0) C dX3_piece_0 rfl ?_
  obtain ⟨r_1, τ_1, e_1, hf⟩ := bnd hf
  refine s_callO (pc := 1) (rest := []) C rfl (c_X3_isSide l D ca ad N a1 σ r_1 τ_1 e_1) ko_X3_36 ⟨rfl, rfl⟩ (by decide) rfl rfl (Nat.le_of_ble_eq_true rfl) dX3_piece_1 ⟨by decide, by decide⟩ ?_
  refine s_st (st' := [.int r_1]) rfl ?_
  refine s_if_eq (pc := 4) (tgt := 21) C dX3_piece_4 (by decide) (fun h_1 => ?_) (fun h_1 => ?_)
  · replace hf := ifp h_1 hf
    exact t_throw (pc := 21) C rfl hl hlk hout hXE th_40_42_44 dX3_piece_21 dX3_piece_24 dX3_piece_25 dX3_piece_27 dX3_piece_30 ⟨by decide, Nat.le_of_ble_eq_true rfl, by decide, by decide, by decide, by decide⟩ (by rw [← Option.some.inj hf]; rfl)
  · replace hf := ifn h_1 hf
    refine s_iloadn (pc := 7) C dX3_piece_7 rfl ?_
    obtain ⟨r_2, τ_2, e_2, hf⟩ := bnd hf
    refine s_callO (pc := 8) (rest := []) C rfl (c_X3_isSide l D ca ad N a2 τ_1 r_2 τ_2 e_2) ko_X3_36 ⟨rfl, rfl⟩ (by decide) rfl rfl (Nat.le_of_ble_eq_true rfl) dX3_piece_8 ⟨by decide, by decide⟩ ?_
    refine s_st (st' := [.int r_2]) rfl ?_
    refine s_if_eq (pc := 11) (tgt := 21) C dX3_piece_11 (by decide) (fun h_2 => ?_) (fun h_2 => ?_)
    · replace hf := ifp h_2 hf
      exact t_throw (pc := 21) C rfl hl hlk hout hXE th_40_42_44 dX3_piece_21 dX3_piece_24 dX3_piece_25 dX3_piece_27 dX3_piece_30 ⟨by decide, Nat.le_of_ble_eq_true rfl, by decide, by decide, by decide, by decide⟩ (by rw [← Option.some.inj hf]; rfl)
    · replace hf := ifn h_2 hf
      refine s_iloadn (pc := 14) C dX3_piece_14 rfl ?_
      obtain ⟨r_3, τ_3, e_3, hf⟩ := bnd hf
      refine s_callO (pc := 15) (rest := []) C rfl (c_X3_isSide l D ca ad N a3 τ_2 r_3 τ_3 e_3) ko_X3_36 ⟨rfl, rfl⟩ (by decide) rfl rfl (Nat.le_of_ble_eq_true rfl) dX3_piece_15 ⟨by decide, by decide⟩ ?_
      refine s_st (st' := [.int r_3]) rfl ?_
      refine s_if_ne (pc := 18) (tgt := 31) C dX3_piece_18 (by decide) (fun h_3 => ?_) (fun h_3 => ?_)
      · replace hf := ifn h_3 hf
        refine s_iload (pc := 31) C dX3_piece_31 rfl ?_
        refine s_if_lt (pc := 33) (tgt := 43) C dX3_piece_33 (by decide) (fun h_4 => ?_) (fun h_4 => ?_)
        · replace hf := ifp h_4 hf
          exact t_throw (pc := 43) C rfl hl hlk hout hXE th_40_47_44 dX3_piece_43 dX3_piece_46 dX3_piece_47 dX3_piece_49 dX3_piece_52 ⟨by decide, Nat.le_of_ble_eq_true rfl, by decide, by decide, by decide, by decide⟩ (by rw [← Option.some.inj hf]; rfl)
        · replace hf := ifn h_4 hf
          refine s_iload (pc := 36) C dX3_piece_36 rfl ?_
          refine s_bipush (pc := 38) (v := 100) C dX3_piece_38 (by decide) ?_
          refine s_icmp_le (pc := 40) (tgt := 53) C dX3_piece_40 (by decide) (fun h_5 => ?_) (fun h_5 => ?_)
          · replace hf := ifp h_5 hf
            refine s_aloadn (pc := 53) C dX3_piece_53 rfl ?_
            refine s_getI (pc := 54) C fl_X3_49 SH_0 rfl dX3_piece_54 ?_
            refine s_aloadn (pc := 57) C dX3_piece_57 rfl ?_
            refine s_getR (pc := 58) (r := 1) C fl_X3_15 SH_0 rfl dX3_piece_58 ?_
            refine s_alenI (pc := 61) (v := 6) C SH_1 (ty1 ca) (by decide) dX3_piece_61 ?_
            refine s_icmp_lt (pc := 62) (tgt := 75) C dX3_piece_62 (by decide) (fun h_6 => ?_) (fun h_6 => ?_)
            · replace hf := ifp h_6 hf
              refine s_aloadn (pc := 75) C dX3_piece_75 rfl ?_
              refine s_getI (pc := 76) C fl_X3_49 SH_0 rfl dX3_piece_76 ?_
              refine s_istore (pc := 79) (lo' := [some (.ref (ad 0)), some (.int a1), some (.int a2), some (.int a3), some (.int a4), some (.int (τ_3 0 4))]) C dX3_piece_79 (Nat.le_of_ble_eq_true rfl) rfl ?_
              refine s_aloadn (pc := 81) C dX3_piece_81 rfl ?_
              refine s_getR (pc := 82) (r := 1) C fl_X3_15 SH_0 rfl dX3_piece_82 ?_
              refine s_iload (pc := 85) C dX3_piece_85 rfl ?_
              obtain ⟨g_1, hf⟩ := gd hf
              refine s_aald (pc := 87) C SH_1 (ty1 ca) g_1 dX3_piece_87 ?_
              refine s_iloadn (pc := 88) C dX3_piece_88 rfl ?_
              refine s_iloadn (pc := 89) C dX3_piece_89 rfl ?_
              refine s_iloadn (pc := 90) C dX3_piece_90 rfl ?_
              refine s_iload (pc := 91) C dX3_piece_91 rfl ?_
              obtain ⟨τ_4, e_4, hf⟩ := bvd hf
              refine s_callV (pc := 93) (rest := []) C rfl (c_X0_become l D ca ad N (5 + ix (τ_3 0 4)) (SH_piece (inb_lt g_1)) a1 a2 a3 a4 τ_3 τ_4 e_4) kv_X3_58 ⟨rfl, rfl⟩ (by decide) (SH_piece (inb_lt g_1)) ⟨_, rfl, rfl⟩ rfl rfl (Nat.le_of_ble_eq_true rfl) dX3_piece_93 ⟨by decide, by decide⟩ ?_
              refine s_st (st' := []) rfl ?_
              refine s_aloadn (pc := 96) C dX3_piece_96 rfl ?_
              refine s_dup (pc := 97) C dX3_piece_97 rfl ?_
              refine s_getI (pc := 98) C fl_X3_49 SH_0 rfl dX3_piece_98 ?_
              refine s_iconst (pc := 101) (v := 1) C dX3_piece_101 (by decide) ?_
              refine s_iadd (pc := 102) C dX3_piece_102 ?_
              refine s_putI (pc := 103) C fp_X3_49 SH_0 rfl dX3_piece_103 ?_
              refine s_iload (pc := 106) C dX3_piece_106 rfl ?_
              exact t_iret (pc := 108) C hr hlk dX3_piece_108 ⟨by decide, by decide⟩ (by rw [← Option.some.inj hf]; rfl)
            · replace hf := ifn h_6 hf
              exact t_throw (pc := 65) C rfl hl hlk hout hXE th_53_55_57 dX3_piece_65 dX3_piece_68 dX3_piece_69 dX3_piece_71 dX3_piece_74 ⟨by decide, Nat.le_of_ble_eq_true rfl, by decide, by decide, by decide, by decide⟩ (by rw [← Option.some.inj hf]; rfl)
          · replace hf := ifn h_5 hf
            exact t_throw (pc := 43) C rfl hl hlk hout hXE th_40_47_44 dX3_piece_43 dX3_piece_46 dX3_piece_47 dX3_piece_49 dX3_piece_52 ⟨by decide, Nat.le_of_ble_eq_true rfl, by decide, by decide, by decide, by decide⟩ (by rw [← Option.some.inj hf]; rfl)
      · replace hf := ifp h_3 hf
        exact t_throw (pc := 21) C rfl hl hlk hout hXE th_40_42_44 dX3_piece_21 dX3_piece_24 dX3_piece_25 dX3_piece_27 dX3_piece_30 ⟨by decide, Nat.le_of_ble_eq_true rfl, by decide, by decide, by decide, by decide⟩ (by rw [← Option.some.inj hf]; rfl)
def f_X3_turn (N : Nat) (a1 : Int32) (a2 : Int32) (σ : St) : Option ((Int32 × St) ⊕ (String × St)) :=
  bt (f_X3_known N a1 σ) fun r_1 τ_1 =>
  if a2 < 0 then
    some (.inr ("java/lang/IllegalArgumentException", τ_1))
  else
    if a2 ≤ 3 then
      bv (f_X0_mark N r_1 a2 τ_1) fun τ_2 =>
      bn (f_X0_wayCount N r_1 τ_2) fun r_3 τ_3 =>
      some (.inl (r_3, τ_3))
    else
      some (.inr ("java/lang/IllegalArgumentException", τ_1))
set_option maxRecDepth 100000 in
set_option maxHeartbeats 4000000 in
theorem c_X3_turn (l : Launch) (D : va_G) (ca : Nat → ClassId) (ad : Nat → Nat) (hl : l.stackTraces = false) (N : Nat) (a1 : Int32) (a2 : Int32) (σ : St) (r : (Int32 × St) ⊕ (String × St)) (hf : f_X3_turn N a1 a2 σ = some r) : cT l yX3_turn (.code yX3_turn cX3_turn 4 (some .int)) (rmx 9 2) D ca ad SH [.ref (ad 0), .int a1, .int a2] σ (toRI r) 2 := by
  refine cT.intro2 (own := RX3) (lo := [some (.ref (ad 0)), some (.int a1), some (.int a2), none]) (by decide) rfl (ccR (ccI (ccI cc0))) (Nat.le_of_ble_eq_true rfl) rfl ?_
  intro p e s m args below meth c A C hr hlk hout hXE
  unfold f_X3_turn at hf
  refine s_aloadn (pc := 0) C dX3_turn_0 rfl ?_
  refine s_iloadn (pc := 1) C dX3_turn_1 rfl ?_
  rcases btd hf with ⟨r_1, τ_1, e_1, hf⟩ | ⟨E_1, τ_1, e_1, hf⟩
  · refine t_call (pc := 2) (rest := []) C hXE rfl (c_X3_known l D ca ad hl N a1 σ _ e_1) kv_X3_62 ⟨rfl, rfl⟩ (by decide) SH_0 ⟨_, rfl, rfl⟩ rfl rfl (Nat.le_of_ble_eq_true rfl) dX3_turn_2 ⟨by decide, by decide⟩ (fun ov τ h => ?_) (fun E τ h => nomatch (show (Sum.inl (some (Value.ref (ad r_1)), τ_1) : RES) = .inr (E, τ) from h))
    cases (show (Sum.inl (some (Value.ref (ad r_1)), τ_1) : RES) = .inl (ov, τ) from h)
    refine s_st (st' := [.ref (ad r_1)]) rfl ?_
    refine s_astoren (pc := 5) (lo' := [some (.ref (ad 0)), some (.int a1), some (.int a2), some (.ref (ad r_1))]) C dX3_turn_5 (Nat.le_of_ble_eq_true rfl) rfl ?_
    refine s_iloadn (pc := 6) C dX3_turn_6 rfl ?_
    refine s_if_lt (pc := 7) (tgt := 15) C dX3_turn_7 (by decide) (fun h_1 => ?_) (fun h_1 => ?_)
    · replace hf := ifp h_1 hf
      exact t_throw (pc := 15) C rfl hl hlk hout hXE th_40_66_44 dX3_turn_15 dX3_turn_18 dX3_turn_19 dX3_turn_21 dX3_turn_24 ⟨by decide, Nat.le_of_ble_eq_true rfl, by decide, by decide, by decide, by decide⟩ (by rw [← Option.some.inj hf]; rfl)
    · replace hf := ifn h_1 hf
      refine s_iloadn (pc := 10) C dX3_turn_10 rfl ?_
      refine s_iconst (pc := 11) (v := 3) C dX3_turn_11 (by decide) ?_
      refine s_icmp_le (pc := 12) (tgt := 25) C dX3_turn_12 (by decide) (fun h_2 => ?_) (fun h_2 => ?_)
      · replace hf := ifp h_2 hf
        refine s_aloadn (pc := 25) C dX3_turn_25 rfl ?_
        refine s_iloadn (pc := 26) C dX3_turn_26 rfl ?_
        obtain ⟨τ_2, e_2, hf⟩ := bvd hf
        refine s_callV (pc := 27) (rest := []) C rfl (c_X0_mark l D ca ad N r_1 (sh_X3_known e_1) a2 τ_1 τ_2 e_2) kv_X3_68 ⟨rfl, rfl⟩ (by decide) (sh_X3_known e_1) ⟨_, rfl, rfl⟩ rfl rfl (Nat.le_of_ble_eq_true rfl) dX3_turn_27 ⟨by decide, by decide⟩ ?_
        refine s_st (st' := []) rfl ?_
        refine s_aloadn (pc := 30) C dX3_turn_30 rfl ?_
        obtain ⟨r_3, τ_3, e_3, hf⟩ := bnd hf
        refine s_callV (pc := 31) (rest := []) C rfl (c_X0_wayCount l D ca ad N r_1 (sh_X3_known e_1) τ_2 r_3 τ_3 e_3) kv_X3_72 ⟨rfl, rfl⟩ (by decide) (sh_X3_known e_1) ⟨_, rfl, rfl⟩ rfl rfl (Nat.le_of_ble_eq_true rfl) dX3_turn_31 ⟨by decide, by decide⟩ ?_
        refine s_st (st' := [.int r_3]) rfl ?_
        exact t_iret (pc := 34) C hr hlk dX3_turn_34 ⟨by decide, by decide⟩ (by rw [← Option.some.inj hf]; rfl)
      · replace hf := ifn h_2 hf
        exact t_throw (pc := 15) C rfl hl hlk hout hXE th_40_66_44 dX3_turn_15 dX3_turn_18 dX3_turn_19 dX3_turn_21 dX3_turn_24 ⟨by decide, Nat.le_of_ble_eq_true rfl, by decide, by decide, by decide, by decide⟩ (by rw [← Option.some.inj hf]; rfl)
  · refine t_call (pc := 2) (rest := []) C hXE rfl (c_X3_known l D ca ad hl N a1 σ _ e_1) kv_X3_62 ⟨rfl, rfl⟩ (by decide) SH_0 ⟨_, rfl, rfl⟩ rfl rfl (Nat.le_of_ble_eq_true rfl) dX3_turn_2 ⟨by decide, by decide⟩ (fun ov τ h => nomatch (show (Sum.inr (E_1, τ_1) : RES) = .inl (ov, τ) from h)) (fun E τ h => ?_)
    cases (show (Sum.inr (E_1, τ_1) : RES) = .inr (E, τ) from h)
    exact t_out C hlk hout ⟨by decide, by decide⟩ (by rw [hf]; rfl)
def f_X3_limit (N : Nat) (a1 : Int32) (a2 : Int32) (σ : St) : Option ((St) ⊕ (String × St)) :=
  bt (f_X3_known N a1 σ) fun r_1 τ_1 =>
  if a2 < (-1) then
    some (.inr ("java/lang/IllegalArgumentException", τ_1))
  else
    if a2 ≤ 1000 then
      some (.inl (su τ_1 r_1 5 a2))
    else
      some (.inr ("java/lang/IllegalArgumentException", τ_1))
set_option maxRecDepth 100000 in
set_option maxHeartbeats 4000000 in
theorem c_X3_limit (l : Launch) (D : va_G) (ca : Nat → ClassId) (ad : Nat → Nat) (hl : l.stackTraces = false) (N : Nat) (a1 : Int32) (a2 : Int32) (σ : St) (r : (St) ⊕ (String × St)) (hf : f_X3_limit N a1 a2 σ = some r) : cT l yX3_limit (.code yX3_limit cX3_limit 4 none) (rmx 9 2) D ca ad SH [.ref (ad 0), .int a1, .int a2] σ (toRV r) 2 := by
  refine cT.intro2 (own := RX3) (lo := [some (.ref (ad 0)), some (.int a1), some (.int a2), none]) (by decide) rfl (ccR (ccI (ccI cc0))) (Nat.le_of_ble_eq_true rfl) rfl ?_
  intro p e s m args below meth c A C hr hlk hout hXE
  unfold f_X3_limit at hf
  refine s_aloadn (pc := 0) C dX3_limit_0 rfl ?_
  refine s_iloadn (pc := 1) C dX3_limit_1 rfl ?_
  rcases btd hf with ⟨r_1, τ_1, e_1, hf⟩ | ⟨E_1, τ_1, e_1, hf⟩
  · refine t_call (pc := 2) (rest := []) C hXE rfl (c_X3_known l D ca ad hl N a1 σ _ e_1) kv_X3_62 ⟨rfl, rfl⟩ (by decide) SH_0 ⟨_, rfl, rfl⟩ rfl rfl (Nat.le_of_ble_eq_true rfl) dX3_limit_2 ⟨by decide, by decide⟩ (fun ov τ h => ?_) (fun E τ h => nomatch (show (Sum.inl (some (Value.ref (ad r_1)), τ_1) : RES) = .inr (E, τ) from h))
    cases (show (Sum.inl (some (Value.ref (ad r_1)), τ_1) : RES) = .inl (ov, τ) from h)
    refine s_st (st' := [.ref (ad r_1)]) rfl ?_
    refine s_astoren (pc := 5) (lo' := [some (.ref (ad 0)), some (.int a1), some (.int a2), some (.ref (ad r_1))]) C dX3_limit_5 (Nat.le_of_ble_eq_true rfl) rfl ?_
    refine s_iloadn (pc := 6) C dX3_limit_6 rfl ?_
    refine s_iconst (pc := 7) (v := (-1)) C dX3_limit_7 (by decide) ?_
    refine s_icmp_lt (pc := 8) (tgt := 18) C dX3_limit_8 (by decide) (fun h_1 => ?_) (fun h_1 => ?_)
    · replace hf := ifp h_1 hf
      exact t_throw (pc := 18) C rfl hl hlk hout hXE th_40_76_44 dX3_limit_18 dX3_limit_21 dX3_limit_22 dX3_limit_24 dX3_limit_27 ⟨by decide, Nat.le_of_ble_eq_true rfl, by decide, by decide, by decide, by decide⟩ (by rw [← Option.some.inj hf]; rfl)
    · replace hf := ifn h_1 hf
      refine s_iloadn (pc := 11) C dX3_limit_11 rfl ?_
      refine s_sipush (pc := 12) (v := 1000) C dX3_limit_12 (by decide) ?_
      refine s_icmp_le (pc := 15) (tgt := 28) C dX3_limit_15 (by decide) (fun h_2 => ?_) (fun h_2 => ?_)
      · replace hf := ifp h_2 hf
        refine s_aloadn (pc := 28) C dX3_limit_28 rfl ?_
        refine s_iloadn (pc := 29) C dX3_limit_29 rfl ?_
        refine s_putI (pc := 30) C fp_X3_78 (sh_X3_known e_1) rfl dX3_limit_30 ?_
        exact t_vret (pc := 33) C hr hlk dX3_limit_33 ⟨by decide, by decide⟩ (by rw [← Option.some.inj hf]; rfl)
      · replace hf := ifn h_2 hf
        exact t_throw (pc := 18) C rfl hl hlk hout hXE th_40_76_44 dX3_limit_18 dX3_limit_21 dX3_limit_22 dX3_limit_24 dX3_limit_27 ⟨by decide, Nat.le_of_ble_eq_true rfl, by decide, by decide, by decide, by decide⟩ (by rw [← Option.some.inj hf]; rfl)
  · refine t_call (pc := 2) (rest := []) C hXE rfl (c_X3_known l D ca ad hl N a1 σ _ e_1) kv_X3_62 ⟨rfl, rfl⟩ (by decide) SH_0 ⟨_, rfl, rfl⟩ rfl rfl (Nat.le_of_ble_eq_true rfl) dX3_limit_2 ⟨by decide, by decide⟩ (fun ov τ h => nomatch (show (Sum.inr (E_1, τ_1) : RES) = .inl (ov, τ) from h)) (fun E τ h => ?_)
    cases (show (Sum.inr (E_1, τ_1) : RES) = .inr (E, τ) from h)
    exact t_out C hlk hout ⟨by decide, by decide⟩ (by rw [hf]; rfl)
def f_X3_rank (N : Nat) (a1 : Int32) (a2 : Int32) (σ : St) : Option ((Int32 × St) ⊕ (String × St)) :=
  bt (f_X3_known N a1 σ) fun r_1 τ_1 =>
  if a2 < 0 then
    some (.inr ("java/lang/IllegalArgumentException", τ_1))
  else
    if a2 ≤ 9 then
      bn (f_X0_isPacked N r_1 (su τ_1 r_1 6 a2)) fun r_2 τ_2 =>
      if r_2 = 0 then
        bn (f_X3_positionOf N r_1 a1 τ_2) fun r_3 τ_3 =>
        some (.inl (r_3, τ_3))
      else
        some (.inl ((-1), τ_2))
    else
      some (.inr ("java/lang/IllegalArgumentException", τ_1))
set_option maxRecDepth 100000 in
set_option maxHeartbeats 4000000 in
theorem c_X3_rank (l : Launch) (D : va_G) (ca : Nat → ClassId) (ad : Nat → Nat) (hl : l.stackTraces = false) (N : Nat) (a1 : Int32) (a2 : Int32) (σ : St) (r : (Int32 × St) ⊕ (String × St)) (hf : f_X3_rank N a1 a2 σ = some r) : cT l yX3_rank (.code yX3_rank cX3_rank 4 (some .int)) (rmx 9 2) D ca ad SH [.ref (ad 0), .int a1, .int a2] σ (toRI r) 2 := by
  refine cT.intro2 (own := RX3) (lo := [some (.ref (ad 0)), some (.int a1), some (.int a2), none]) (by decide) rfl (ccR (ccI (ccI cc0))) (Nat.le_of_ble_eq_true rfl) rfl ?_
  intro p e s m args below meth c A C hr hlk hout hXE
  unfold f_X3_rank at hf
  refine s_aloadn (pc := 0) C dX3_rank_0 rfl ?_
  refine s_iloadn (pc := 1) C dX3_rank_1 rfl ?_
  rcases btd hf with ⟨r_1, τ_1, e_1, hf⟩ | ⟨E_1, τ_1, e_1, hf⟩
  · refine t_call (pc := 2) (rest := []) C hXE rfl (c_X3_known l D ca ad hl N a1 σ _ e_1) kv_X3_62 ⟨rfl, rfl⟩ (by decide) SH_0 ⟨_, rfl, rfl⟩ rfl rfl (Nat.le_of_ble_eq_true rfl) dX3_rank_2 ⟨by decide, by decide⟩ (fun ov τ h => ?_) (fun E τ h => nomatch (show (Sum.inl (some (Value.ref (ad r_1)), τ_1) : RES) = .inr (E, τ) from h))
    cases (show (Sum.inl (some (Value.ref (ad r_1)), τ_1) : RES) = .inl (ov, τ) from h)
    refine s_st (st' := [.ref (ad r_1)]) rfl ?_
    refine s_astoren (pc := 5) (lo' := [some (.ref (ad 0)), some (.int a1), some (.int a2), some (.ref (ad r_1))]) C dX3_rank_5 (Nat.le_of_ble_eq_true rfl) rfl ?_
    refine s_iloadn (pc := 6) C dX3_rank_6 rfl ?_
    refine s_if_lt (pc := 7) (tgt := 16) C dX3_rank_7 (by decide) (fun h_1 => ?_) (fun h_1 => ?_)
    · replace hf := ifp h_1 hf
      exact t_throw (pc := 16) C rfl hl hlk hout hXE th_40_81_44 dX3_rank_16 dX3_rank_19 dX3_rank_20 dX3_rank_22 dX3_rank_25 ⟨by decide, Nat.le_of_ble_eq_true rfl, by decide, by decide, by decide, by decide⟩ (by rw [← Option.some.inj hf]; rfl)
    · replace hf := ifn h_1 hf
      refine s_iloadn (pc := 10) C dX3_rank_10 rfl ?_
      refine s_bipush (pc := 11) (v := 9) C dX3_rank_11 (by decide) ?_
      refine s_icmp_le (pc := 13) (tgt := 26) C dX3_rank_13 (by decide) (fun h_2 => ?_) (fun h_2 => ?_)
      · replace hf := ifp h_2 hf
        refine s_aloadn (pc := 26) C dX3_rank_26 rfl ?_
        refine s_iloadn (pc := 27) C dX3_rank_27 rfl ?_
        refine s_putI (pc := 28) C fp_X3_83 (sh_X3_known e_1) rfl dX3_rank_28 ?_
        refine s_aloadn (pc := 31) C dX3_rank_31 rfl ?_
        obtain ⟨r_2, τ_2, e_2, hf⟩ := bnd hf
        refine s_callV (pc := 32) (rest := []) C rfl (c_X0_isPacked l D ca ad N r_1 (sh_X3_known e_1) (su τ_1 r_1 6 a2) r_2 τ_2 e_2) kv_X3_86 ⟨rfl, rfl⟩ (by decide) (sh_X3_known e_1) ⟨_, rfl, rfl⟩ rfl rfl (Nat.le_of_ble_eq_true rfl) dX3_rank_32 ⟨by decide, by decide⟩ ?_
        refine s_st (st' := [.int r_2]) rfl ?_
        refine s_if_eq (pc := 35) (tgt := 42) C dX3_rank_35 (by decide) (fun h_3 => ?_) (fun h_3 => ?_)
        · replace hf := ifp h_3 hf
          refine s_aloadn (pc := 42) C dX3_rank_42 rfl ?_
          refine s_aloadn (pc := 43) C dX3_rank_43 rfl ?_
          refine s_iloadn (pc := 44) C dX3_rank_44 rfl ?_
          obtain ⟨r_3, τ_3, e_3, hf⟩ := bnd hf
          refine s_callV (pc := 45) (rest := []) C rfl (c_X3_positionOf l D ca ad N r_1 (sh_X3_known e_1) a1 τ_2 r_3 τ_3 e_3) kv_X3_90 ⟨rfl, rfl⟩ (by decide) SH_0 ⟨_, rfl, rfl⟩ rfl rfl (Nat.le_of_ble_eq_true rfl) dX3_rank_45 ⟨by decide, by decide⟩ ?_
          refine s_st (st' := [.int r_3]) rfl ?_
          exact t_iret (pc := 48) C hr hlk dX3_rank_48 ⟨by decide, by decide⟩ (by rw [← Option.some.inj hf]; rfl)
        · replace hf := ifn h_3 hf
          refine s_iconst (pc := 38) (v := (-1)) C dX3_rank_38 (by decide) ?_
          refine s_goto (pc := 39) (tgt := 48) C dX3_rank_39 (by decide) ?_
          exact t_iret (pc := 48) C hr hlk dX3_rank_48 ⟨by decide, by decide⟩ (by rw [← Option.some.inj hf]; rfl)
      · replace hf := ifn h_2 hf
        exact t_throw (pc := 16) C rfl hl hlk hout hXE th_40_81_44 dX3_rank_16 dX3_rank_19 dX3_rank_20 dX3_rank_22 dX3_rank_25 ⟨by decide, Nat.le_of_ble_eq_true rfl, by decide, by decide, by decide, by decide⟩ (by rw [← Option.some.inj hf]; rfl)
  · refine t_call (pc := 2) (rest := []) C hXE rfl (c_X3_known l D ca ad hl N a1 σ _ e_1) kv_X3_62 ⟨rfl, rfl⟩ (by decide) SH_0 ⟨_, rfl, rfl⟩ rfl rfl (Nat.le_of_ble_eq_true rfl) dX3_rank_2 ⟨by decide, by decide⟩ (fun ov τ h => nomatch (show (Sum.inr (E_1, τ_1) : RES) = .inl (ov, τ) from h)) (fun E τ h => ?_)
    cases (show (Sum.inr (E_1, τ_1) : RES) = .inr (E, τ) from h)
    exact t_out C hlk hout ⟨by decide, by decide⟩ (by rw [hf]; rfl)
def f_X3_share (N : Nat) (a1 : Int32) (σ : St) : Option ((St) ⊕ (String × St)) :=
  if a1 < 0 then
    some (.inr ("java/lang/IllegalArgumentException", σ))
  else
    if a1 ≤ 100 then
      some (.inl (su σ 0 6 a1))
    else
      some (.inr ("java/lang/IllegalArgumentException", σ))
set_option maxRecDepth 100000 in
set_option maxHeartbeats 4000000 in
theorem c_X3_share (l : Launch) (D : va_G) (ca : Nat → ClassId) (ad : Nat → Nat) (hl : l.stackTraces = false) (N : Nat) (a1 : Int32) (σ : St) (r : (St) ⊕ (String × St)) (hf : f_X3_share N a1 σ = some r) : cT l yX3_share (.code yX3_share cX3_share 2 none) (rmx 8 1) D ca ad SH [.ref (ad 0), .int a1] σ (toRV r) 1 := by
  refine cT.intro2 (own := RX3) (lo := [some (.ref (ad 0)), some (.int a1)]) (by decide) rfl (ccR (ccI cc0)) (Nat.le_of_ble_eq_true rfl) rfl ?_
  intro p e s m args below meth c A C hr hlk hout hXE
  unfold f_X3_share at hf
  refine s_iloadn (pc := 0) C dX3_share_0 rfl ?_
  refine s_if_lt (pc := 1) (tgt := 10) C dX3_share_1 (by decide) (fun h_1 => ?_) (fun h_1 => ?_)
  · replace hf := ifp h_1 hf
    exact t_throw (pc := 10) C rfl hl hlk hout hXE th_40_94_44 dX3_share_10 dX3_share_13 dX3_share_14 dX3_share_16 dX3_share_19 ⟨by decide, Nat.le_of_ble_eq_true rfl, by decide, by decide, by decide, by decide⟩ (by rw [← Option.some.inj hf]; rfl)
  · replace hf := ifn h_1 hf
    refine s_iloadn (pc := 4) C dX3_share_4 rfl ?_
    refine s_bipush (pc := 5) (v := 100) C dX3_share_5 (by decide) ?_
    refine s_icmp_le (pc := 7) (tgt := 20) C dX3_share_7 (by decide) (fun h_2 => ?_) (fun h_2 => ?_)
    · replace hf := ifp h_2 hf
      refine s_aloadn (pc := 20) C dX3_share_20 rfl ?_
      refine s_iloadn (pc := 21) C dX3_share_21 rfl ?_
      refine s_putI (pc := 22) C fp_X3_96 SH_0 rfl dX3_share_22 ?_
      exact t_vret (pc := 25) C hr hlk dX3_share_25 ⟨by decide, by decide⟩ (by rw [← Option.some.inj hf]; rfl)
    · replace hf := ifn h_2 hf
      exact t_throw (pc := 10) C rfl hl hlk hout hXE th_40_94_44 dX3_share_10 dX3_share_13 dX3_share_14 dX3_share_16 dX3_share_19 ⟨by decide, Nat.le_of_ble_eq_true rfl, by decide, by decide, by decide, by decide⟩ (by rw [← Option.some.inj hf]; rfl)
def f_X3_solve (N : Nat) (a1 : Int32) (σ : St) : Option ((Int32 × St) ⊕ (String × St)) :=
  if a1 < 0 then
    some (.inr ("java/lang/IllegalArgumentException", σ))
  else
    if a1 ≤ 3000 then
      bv (f_X3_startSearch N a1 σ) fun τ_1 =>
      bv (f_X3_searchFrom N 8 0 τ_1) fun τ_2 =>
      if (τ_2 0 11 &&& 1) = 0 then
        bn (f_X1_volume N 0 (su τ_2 0 12 1)) fun r_4 τ_4 =>
        some (.inl (r_4, τ_4))
      else
        bn (f_X1_volume N 0 (su τ_2 0 12 0)) fun r_3 τ_3 =>
        some (.inl (r_3, τ_3))
    else
      some (.inr ("java/lang/IllegalArgumentException", σ))
set_option maxRecDepth 100000 in
set_option maxHeartbeats 4000000 in
theorem c_X3_solve (l : Launch) (D : va_G) (ca : Nat → ClassId) (ad : Nat → Nat) (hl : l.stackTraces = false) (N : Nat) (a1 : Int32) (σ : St) (r : (Int32 × St) ⊕ (String × St)) (hf : f_X3_solve N a1 σ = some r) : cT l yX3_solve (.code yX3_solve cX3_solve 2 (some .int)) (rmx 24 1) D ca ad SH [.ref (ad 0), .int a1] σ (toRI r) 1 := by
  refine cT.intro2 (own := RX3) (lo := [some (.ref (ad 0)), some (.int a1)]) (by decide) rfl (ccR (ccI cc0)) (Nat.le_of_ble_eq_true rfl) rfl ?_
  intro p e s m args below meth c A C hr hlk hout hXE
  unfold f_X3_solve at hf
  refine s_iloadn (pc := 0) C dX3_solve_0 rfl ?_
  refine s_if_lt (pc := 1) (tgt := 11) C dX3_solve_1 (by decide) (fun h_1 => ?_) (fun h_1 => ?_)
  · replace hf := ifp h_1 hf
    exact t_throw (pc := 11) C rfl hl hlk hout hXE th_40_99_44 dX3_solve_11 dX3_solve_14 dX3_solve_15 dX3_solve_17 dX3_solve_20 ⟨by decide, Nat.le_of_ble_eq_true rfl, by decide, by decide, by decide, by decide⟩ (by rw [← Option.some.inj hf]; rfl)
  · replace hf := ifn h_1 hf
    refine s_iloadn (pc := 4) C dX3_solve_4 rfl ?_
    refine s_sipush (pc := 5) (v := 3000) C dX3_solve_5 (by decide) ?_
    refine s_icmp_le (pc := 8) (tgt := 21) C dX3_solve_8 (by decide) (fun h_2 => ?_) (fun h_2 => ?_)
    · replace hf := ifp h_2 hf
      refine s_aloadn (pc := 21) C dX3_solve_21 rfl ?_
      refine s_iloadn (pc := 22) C dX3_solve_22 rfl ?_
      obtain ⟨τ_1, e_1, hf⟩ := bvd hf
      refine s_callV (pc := 23) (rest := []) C rfl (c_X3_startSearch l D ca ad N a1 σ τ_1 e_1) kv_X3_101 ⟨rfl, rfl⟩ (by decide) SH_0 ⟨_, rfl, rfl⟩ rfl rfl (Nat.le_of_ble_eq_true rfl) dX3_solve_23 ⟨by decide, by decide⟩ ?_
      refine s_st (st' := []) rfl ?_
      refine s_aloadn (pc := 26) C dX3_solve_26 rfl ?_
      refine s_iconst (pc := 27) (v := 0) C dX3_solve_27 (by decide) ?_
      obtain ⟨τ_2, e_2, hf⟩ := bvd hf
      refine s_callV (pc := 28) (rest := []) C rfl (c_X3_searchFrom l D ca ad N 8 0 τ_1 τ_2 e_2) kv_X3_104 ⟨rfl, rfl⟩ (by decide) SH_0 ⟨_, rfl, rfl⟩ rfl rfl (Nat.le_of_ble_eq_true rfl) dX3_solve_28 ⟨by decide, by decide⟩ ?_
      refine s_st (st' := []) rfl ?_
      refine s_aloadn (pc := 31) C dX3_solve_31 rfl ?_
      refine s_aloadn (pc := 32) C dX3_solve_32 rfl ?_
      refine s_getZ (pc := 33) C fl_X3_107 SH_0 rfl dX3_solve_33 ?_
      refine s_if_ne (pc := 36) (tgt := 43) C dX3_solve_36 (by decide) (fun h_3 => ?_) (fun h_3 => ?_)
      · replace hf := ifn h_3 hf
        refine s_iconst (pc := 43) (v := 0) C dX3_solve_43 (by decide) ?_
        refine s_putZ (pc := 44) C fp_X3_111 SH_0 rfl (by decide) dX3_solve_44 ?_
        refine s_aloadn (pc := 47) C dX3_solve_47 rfl ?_
        refine s_getR (pc := 48) (r := 2) C fl_X3_25 SH_0 rfl dX3_solve_48 ?_
        obtain ⟨r_3, τ_3, e_3, hf⟩ := bnd hf
        refine s_callV (pc := 51) (rest := []) C rfl (c_X1_volume l D ca ad N 0 (by decide : 0 < 2) (su τ_2 0 12 0) r_3 τ_3 e_3) kv_X3_114 ⟨rfl, rfl⟩ (by decide) (SH_plan (by decide : 0 < 2)) ⟨_, rfl, rfl⟩ rfl rfl (Nat.le_of_ble_eq_true rfl) dX3_solve_51 ⟨by decide, by decide⟩ ?_
        refine s_st (st' := [.int r_3]) rfl ?_
        exact t_iret (pc := 54) C hr hlk dX3_solve_54 ⟨by decide, by decide⟩ (by rw [← Option.some.inj hf]; rfl)
      · replace hf := ifp h_3 hf
        refine s_iconst (pc := 39) (v := 1) C dX3_solve_39 (by decide) ?_
        refine s_goto (pc := 40) (tgt := 44) C dX3_solve_40 (by decide) ?_
        refine s_putZ (pc := 44) C fp_X3_111 SH_0 rfl (by decide) dX3_solve_44 ?_
        refine s_aloadn (pc := 47) C dX3_solve_47 rfl ?_
        refine s_getR (pc := 48) (r := 2) C fl_X3_25 SH_0 rfl dX3_solve_48 ?_
        obtain ⟨r_4, τ_4, e_4, hf⟩ := bnd hf
        refine s_callV (pc := 51) (rest := []) C rfl (c_X1_volume l D ca ad N 0 (by decide : 0 < 2) (su τ_2 0 12 1) r_4 τ_4 e_4) kv_X3_114 ⟨rfl, rfl⟩ (by decide) (SH_plan (by decide : 0 < 2)) ⟨_, rfl, rfl⟩ rfl rfl (Nat.le_of_ble_eq_true rfl) dX3_solve_51 ⟨by decide, by decide⟩ ?_
        refine s_st (st' := [.int r_4]) rfl ?_
        exact t_iret (pc := 54) C hr hlk dX3_solve_54 ⟨by decide, by decide⟩ (by rw [← Option.some.inj hf]; rfl)
    · replace hf := ifn h_2 hf
      exact t_throw (pc := 11) C rfl hl hlk hout hXE th_40_99_44 dX3_solve_11 dX3_solve_14 dX3_solve_15 dX3_solve_17 dX3_solve_20 ⟨by decide, Nat.le_of_ble_eq_true rfl, by decide, by decide, by decide, by decide⟩ (by rw [← Option.some.inj hf]; rfl)
def f_X3_at (N : Nat) (a1 : Int32) (a2 : Int32) (σ : St) : Option ((Int32 × St) ⊕ (String × St)) :=
  bt (f_X3_spotOf N a1 σ) fun r_1 τ_1 =>
  if a2 < 0 then
    some (.inr ("java/lang/IllegalArgumentException", τ_1))
  else
    if a2 ≤ 6 then
      if (τ_1 r_1 0 &&& 1) = 0 then
        some (.inl ((-1), τ_1))
      else
        bn (f_X2_detail N r_1 a2 τ_1) fun r_2 τ_2 =>
        some (.inl (r_2, τ_2))
    else
      some (.inr ("java/lang/IllegalArgumentException", τ_1))
set_option maxRecDepth 100000 in
set_option maxHeartbeats 4000000 in
theorem c_X3_at (l : Launch) (D : va_G) (ca : Nat → ClassId) (ad : Nat → Nat) (hl : l.stackTraces = false) (N : Nat) (a1 : Int32) (a2 : Int32) (σ : St) (r : (Int32 × St) ⊕ (String × St)) (hf : f_X3_at N a1 a2 σ = some r) : cT l yX3_at (.code yX3_at cX3_at 4 (some .int)) (rmx 9 2) D ca ad SH [.ref (ad 0), .int a1, .int a2] σ (toRI r) 2 := by
  refine cT.intro2 (own := RX3) (lo := [some (.ref (ad 0)), some (.int a1), some (.int a2), none]) (by decide) rfl (ccR (ccI (ccI cc0))) (Nat.le_of_ble_eq_true rfl) rfl ?_
  intro p e s m args below meth c A C hr hlk hout hXE
  unfold f_X3_at at hf
  refine s_aloadn (pc := 0) C dX3_at_0 rfl ?_
  refine s_iloadn (pc := 1) C dX3_at_1 rfl ?_
  rcases btd hf with ⟨r_1, τ_1, e_1, hf⟩ | ⟨E_1, τ_1, e_1, hf⟩
  · refine t_call (pc := 2) (rest := []) C hXE rfl (c_X3_spotOf l D ca ad hl N a1 σ _ e_1) kv_X3_134 ⟨rfl, rfl⟩ (by decide) SH_0 ⟨_, rfl, rfl⟩ rfl rfl (Nat.le_of_ble_eq_true rfl) dX3_at_2 ⟨by decide, by decide⟩ (fun ov τ h => ?_) (fun E τ h => nomatch (show (Sum.inl (some (Value.ref (ad r_1)), τ_1) : RES) = .inr (E, τ) from h))
    cases (show (Sum.inl (some (Value.ref (ad r_1)), τ_1) : RES) = .inl (ov, τ) from h)
    refine s_st (st' := [.ref (ad r_1)]) rfl ?_
    refine s_astoren (pc := 5) (lo' := [some (.ref (ad 0)), some (.int a1), some (.int a2), some (.ref (ad r_1))]) C dX3_at_5 (Nat.le_of_ble_eq_true rfl) rfl ?_
    refine s_iloadn (pc := 6) C dX3_at_6 rfl ?_
    refine s_if_lt (pc := 7) (tgt := 16) C dX3_at_7 (by decide) (fun h_1 => ?_) (fun h_1 => ?_)
    · replace hf := ifp h_1 hf
      exact t_throw (pc := 16) C rfl hl hlk hout hXE th_40_138_44 dX3_at_16 dX3_at_19 dX3_at_20 dX3_at_22 dX3_at_25 ⟨by decide, Nat.le_of_ble_eq_true rfl, by decide, by decide, by decide, by decide⟩ (by rw [← Option.some.inj hf]; rfl)
    · replace hf := ifn h_1 hf
      refine s_iloadn (pc := 10) C dX3_at_10 rfl ?_
      refine s_bipush (pc := 11) (v := 6) C dX3_at_11 (by decide) ?_
      refine s_icmp_le (pc := 13) (tgt := 26) C dX3_at_13 (by decide) (fun h_2 => ?_) (fun h_2 => ?_)
      · replace hf := ifp h_2 hf
        refine s_aloadn (pc := 26) C dX3_at_26 rfl ?_
        refine s_getZ (pc := 27) C fl_X3_140 (sh_X3_spotOf e_1) rfl dX3_at_27 ?_
        refine s_if_eq (pc := 30) (tgt := 41) C dX3_at_30 (by decide) (fun h_3 => ?_) (fun h_3 => ?_)
        · replace hf := ifp h_3 hf
          refine s_iconst (pc := 41) (v := (-1)) C dX3_at_41 (by decide) ?_
          exact t_iret (pc := 42) C hr hlk dX3_at_42 ⟨by decide, by decide⟩ (by rw [← Option.some.inj hf]; rfl)
        · replace hf := ifn h_3 hf
          refine s_aloadn (pc := 33) C dX3_at_33 rfl ?_
          refine s_iloadn (pc := 34) C dX3_at_34 rfl ?_
          obtain ⟨r_2, τ_2, e_2, hf⟩ := bnd hf
          refine s_callV (pc := 35) (rest := []) C rfl (c_X2_detail l D ca ad N r_1 (sh_X3_spotOf e_1) a2 τ_1 r_2 τ_2 e_2) kv_X3_145 ⟨rfl, rfl⟩ (by decide) (sh_X3_spotOf e_1) ⟨_, rfl, rfl⟩ rfl rfl (Nat.le_of_ble_eq_true rfl) dX3_at_35 ⟨by decide, by decide⟩ ?_
          refine s_st (st' := [.int r_2]) rfl ?_
          refine s_goto (pc := 38) (tgt := 42) C dX3_at_38 (by decide) ?_
          exact t_iret (pc := 42) C hr hlk dX3_at_42 ⟨by decide, by decide⟩ (by rw [← Option.some.inj hf]; rfl)
      · replace hf := ifn h_2 hf
        exact t_throw (pc := 16) C rfl hl hlk hout hXE th_40_138_44 dX3_at_16 dX3_at_19 dX3_at_20 dX3_at_22 dX3_at_25 ⟨by decide, Nat.le_of_ble_eq_true rfl, by decide, by decide, by decide, by decide⟩ (by rw [← Option.some.inj hf]; rfl)
  · refine t_call (pc := 2) (rest := []) C hXE rfl (c_X3_spotOf l D ca ad hl N a1 σ _ e_1) kv_X3_134 ⟨rfl, rfl⟩ (by decide) SH_0 ⟨_, rfl, rfl⟩ rfl rfl (Nat.le_of_ble_eq_true rfl) dX3_at_2 ⟨by decide, by decide⟩ (fun ov τ h => nomatch (show (Sum.inr (E_1, τ_1) : RES) = .inl (ov, τ) from h)) (fun E τ h => ?_)
    cases (show (Sum.inr (E_1, τ_1) : RES) = .inr (E, τ) from h)
    exact t_out C hlk hout ⟨by decide, by decide⟩ (by rw [hf]; rfl)
def f_X3_over (N : Nat) (a1 : Int32) (a2 : Int32) (σ : St) : Option ((Int32 × St) ⊕ (String × St)) :=
  bt (f_X3_spotOf N a1 σ) fun r_1 τ_1 =>
  bt (f_X3_spotOf N a2 τ_1) fun r_2 τ_2 =>
  if a1 = a2 then
    some (.inr ("java/lang/IllegalStateException", τ_2))
  else
    if (τ_2 r_1 0 &&& 1) = 0 then
      some (.inr ("java/lang/IllegalStateException", τ_2))
    else
      if (τ_2 r_2 0 &&& 1) = 0 then
        some (.inr ("java/lang/IllegalStateException", τ_2))
      else
        bn (f_X2_meetsFromAbove N r_1 r_2 τ_2) fun r_3 τ_3 =>
        if r_3 = 0 ∨ r_3 = 1 then some (.inl (r_3, τ_3)) else none
set_option maxRecDepth 100000 in
set_option maxHeartbeats 4000000 in
theorem c_X3_over (l : Launch) (D : va_G) (ca : Nat → ClassId) (ad : Nat → Nat) (hl : l.stackTraces = false) (N : Nat) (a1 : Int32) (a2 : Int32) (σ : St) (r : (Int32 × St) ⊕ (String × St)) (hf : f_X3_over N a1 a2 σ = some r) : cT l yX3_over (.code yX3_over cX3_over 5 (some .boolean)) (rmx 9 3) D ca ad SH [.ref (ad 0), .int a1, .int a2] σ (toRI r) 3 := by
  refine cT.intro2 (own := RX3) (lo := [some (.ref (ad 0)), some (.int a1), some (.int a2), none, none]) (by decide) rfl (ccR (ccI (ccI cc0))) (Nat.le_of_ble_eq_true rfl) rfl ?_
  intro p e s m args below meth c A C hr hlk hout hXE
  unfold f_X3_over at hf
  refine s_aloadn (pc := 0) C dX3_over_0 rfl ?_
  refine s_iloadn (pc := 1) C dX3_over_1 rfl ?_
  rcases btd hf with ⟨r_1, τ_1, e_1, hf⟩ | ⟨E_1, τ_1, e_1, hf⟩
  · refine t_call (pc := 2) (rest := []) C hXE rfl (c_X3_spotOf l D ca ad hl N a1 σ _ e_1) kv_X3_134 ⟨rfl, rfl⟩ (by decide) SH_0 ⟨_, rfl, rfl⟩ rfl rfl (Nat.le_of_ble_eq_true rfl) dX3_over_2 ⟨by decide, by decide⟩ (fun ov τ h => ?_) (fun E τ h => nomatch (show (Sum.inl (some (Value.ref (ad r_1)), τ_1) : RES) = .inr (E, τ) from h))
    cases (show (Sum.inl (some (Value.ref (ad r_1)), τ_1) : RES) = .inl (ov, τ) from h)
    refine s_st (st' := [.ref (ad r_1)]) rfl ?_
    refine s_astoren (pc := 5) (lo' := [some (.ref (ad 0)), some (.int a1), some (.int a2), some (.ref (ad r_1)), none]) C dX3_over_5 (Nat.le_of_ble_eq_true rfl) rfl ?_
    refine s_aloadn (pc := 6) C dX3_over_6 rfl ?_
    refine s_iloadn (pc := 7) C dX3_over_7 rfl ?_
    rcases btd hf with ⟨r_2, τ_2, e_2, hf⟩ | ⟨E_2, τ_2, e_2, hf⟩
    · refine t_call (pc := 8) (rest := []) C hXE rfl (c_X3_spotOf l D ca ad hl N a2 τ_1 _ e_2) kv_X3_134 ⟨rfl, rfl⟩ (by decide) SH_0 ⟨_, rfl, rfl⟩ rfl rfl (Nat.le_of_ble_eq_true rfl) dX3_over_8 ⟨by decide, by decide⟩ (fun ov τ h => ?_) (fun E τ h => nomatch (show (Sum.inl (some (Value.ref (ad r_2)), τ_2) : RES) = .inr (E, τ) from h))
      cases (show (Sum.inl (some (Value.ref (ad r_2)), τ_2) : RES) = .inl (ov, τ) from h)
      refine s_st (st' := [.ref (ad r_2)]) rfl ?_
      refine s_astore (pc := 11) (lo' := [some (.ref (ad 0)), some (.int a1), some (.int a2), some (.ref (ad r_1)), some (.ref (ad r_2))]) C dX3_over_11 (Nat.le_of_ble_eq_true rfl) rfl ?_
      refine s_iloadn (pc := 13) C dX3_over_13 rfl ?_
      refine s_iloadn (pc := 14) C dX3_over_14 rfl ?_
      refine s_icmp_eq (pc := 15) (tgt := 33) C dX3_over_15 (by decide) (fun h_1 => ?_) (fun h_1 => ?_)
      · replace hf := ifp h_1 hf
        exact t_throw (pc := 33) C rfl hl hlk hout hXE th_148_150_152 dX3_over_33 dX3_over_36 dX3_over_37 dX3_over_39 dX3_over_42 ⟨by decide, Nat.le_of_ble_eq_true rfl, by decide, by decide, by decide, by decide⟩ (by rw [← Option.some.inj hf]; rfl)
      · replace hf := ifn h_1 hf
        refine s_aloadn (pc := 18) C dX3_over_18 rfl ?_
        refine s_getZ (pc := 19) C fl_X3_140 (sh_X3_spotOf e_1) rfl dX3_over_19 ?_
        refine s_if_eq (pc := 22) (tgt := 33) C dX3_over_22 (by decide) (fun h_2 => ?_) (fun h_2 => ?_)
        · replace hf := ifp h_2 hf
          exact t_throw (pc := 33) C rfl hl hlk hout hXE th_148_150_152 dX3_over_33 dX3_over_36 dX3_over_37 dX3_over_39 dX3_over_42 ⟨by decide, Nat.le_of_ble_eq_true rfl, by decide, by decide, by decide, by decide⟩ (by rw [← Option.some.inj hf]; rfl)
        · replace hf := ifn h_2 hf
          refine s_aload (pc := 25) C dX3_over_25 rfl ?_
          refine s_getZ (pc := 27) C fl_X3_140 (sh_X3_spotOf e_2) rfl dX3_over_27 ?_
          refine s_if_ne (pc := 30) (tgt := 43) C dX3_over_30 (by decide) (fun h_3 => ?_) (fun h_3 => ?_)
          · replace hf := ifn h_3 hf
            refine s_aloadn (pc := 43) C dX3_over_43 rfl ?_
            refine s_aload (pc := 44) C dX3_over_44 rfl ?_
            obtain ⟨r_3, τ_3, e_3, hf⟩ := bnd hf
            refine s_callV (pc := 46) (rest := []) C rfl (c_X2_meetsFromAbove l D ca ad N r_1 (sh_X3_spotOf e_1) r_2 (sh_X3_spotOf e_2) τ_2 r_3 τ_3 e_3) kv_X3_153 ⟨rfl, rfl⟩ (by decide) (sh_X3_spotOf e_1) ⟨_, rfl, rfl⟩ rfl rfl (Nat.le_of_ble_eq_true rfl) dX3_over_46 ⟨by decide, by decide⟩ ?_
            refine s_st (st' := [.int r_3]) rfl ?_
            obtain ⟨g_1, hf⟩ := gd hf
            exact t_zret (pc := 49) C hr hlk dX3_over_49 g_1 ⟨by decide, by decide⟩ (by rw [← Option.some.inj hf]; rfl)
          · replace hf := ifp h_3 hf
            exact t_throw (pc := 33) C rfl hl hlk hout hXE th_148_150_152 dX3_over_33 dX3_over_36 dX3_over_37 dX3_over_39 dX3_over_42 ⟨by decide, Nat.le_of_ble_eq_true rfl, by decide, by decide, by decide, by decide⟩ (by rw [← Option.some.inj hf]; rfl)
    · refine t_call (pc := 8) (rest := []) C hXE rfl (c_X3_spotOf l D ca ad hl N a2 τ_1 _ e_2) kv_X3_134 ⟨rfl, rfl⟩ (by decide) SH_0 ⟨_, rfl, rfl⟩ rfl rfl (Nat.le_of_ble_eq_true rfl) dX3_over_8 ⟨by decide, by decide⟩ (fun ov τ h => nomatch (show (Sum.inr (E_2, τ_2) : RES) = .inl (ov, τ) from h)) (fun E τ h => ?_)
      cases (show (Sum.inr (E_2, τ_2) : RES) = .inr (E, τ) from h)
      exact t_out C hlk hout ⟨by decide, by decide⟩ (by rw [hf]; rfl)
  · refine t_call (pc := 2) (rest := []) C hXE rfl (c_X3_spotOf l D ca ad hl N a1 σ _ e_1) kv_X3_134 ⟨rfl, rfl⟩ (by decide) SH_0 ⟨_, rfl, rfl⟩ rfl rfl (Nat.le_of_ble_eq_true rfl) dX3_over_2 ⟨by decide, by decide⟩ (fun ov τ h => nomatch (show (Sum.inr (E_1, τ_1) : RES) = .inl (ov, τ) from h)) (fun E τ h => ?_)
    cases (show (Sum.inr (E_1, τ_1) : RES) = .inr (E, τ) from h)
    exact t_out C hlk hout ⟨by decide, by decide⟩ (by rw [hf]; rfl)
def f_X3_support (N : Nat) (a1 : Int32) (σ : St) : Option ((Int32 × St) ⊕ (String × St)) :=
  bt (f_X3_spotOf N a1 σ) fun r_1 τ_1 =>
  bn (f_X2_area N r_1 τ_1) fun r_2 τ_2 =>
  if r_2 = 0 then
    some (.inr ("java/lang/ArithmeticException", τ_2))
  else
    bn (f_X1_supportOf N 0 r_1 τ_2) fun r_3 τ_3 =>
    if ¬ r_2 = 0 then
    some (.inl (((100 * r_3) / r_2), τ_3))
    else none
set_option maxRecDepth 100000 in
set_option maxHeartbeats 4000000 in
theorem c_X3_support (l : Launch) (D : va_G) (ca : Nat → ClassId) (ad : Nat → Nat) (hl : l.stackTraces = false) (N : Nat) (a1 : Int32) (σ : St) (r : (Int32 × St) ⊕ (String × St)) (hf : f_X3_support N a1 σ = some r) : cT l yX3_support (.code yX3_support cX3_support 4 (some .int)) (rmx 9 3) D ca ad SH [.ref (ad 0), .int a1] σ (toRI r) 3 := by
  refine cT.intro2 (own := RX3) (lo := [some (.ref (ad 0)), some (.int a1), none, none]) (by decide) rfl (ccR (ccI cc0)) (Nat.le_of_ble_eq_true rfl) rfl ?_
  intro p e s m args below meth c A C hr hlk hout hXE
  unfold f_X3_support at hf
  refine s_aloadn (pc := 0) C dX3_support_0 rfl ?_
  refine s_iloadn (pc := 1) C dX3_support_1 rfl ?_
  rcases btd hf with ⟨r_1, τ_1, e_1, hf⟩ | ⟨E_1, τ_1, e_1, hf⟩
  · refine t_call (pc := 2) (rest := []) C hXE rfl (c_X3_spotOf l D ca ad hl N a1 σ _ e_1) kv_X3_134 ⟨rfl, rfl⟩ (by decide) SH_0 ⟨_, rfl, rfl⟩ rfl rfl (Nat.le_of_ble_eq_true rfl) dX3_support_2 ⟨by decide, by decide⟩ (fun ov τ h => ?_) (fun E τ h => nomatch (show (Sum.inl (some (Value.ref (ad r_1)), τ_1) : RES) = .inr (E, τ) from h))
    cases (show (Sum.inl (some (Value.ref (ad r_1)), τ_1) : RES) = .inl (ov, τ) from h)
    refine s_st (st' := [.ref (ad r_1)]) rfl ?_
    refine s_astoren (pc := 5) (lo' := [some (.ref (ad 0)), some (.int a1), some (.ref (ad r_1)), none]) C dX3_support_5 (Nat.le_of_ble_eq_true rfl) rfl ?_
    refine s_aloadn (pc := 6) C dX3_support_6 rfl ?_
    obtain ⟨r_2, τ_2, e_2, hf⟩ := bnd hf
    refine s_callV (pc := 7) (rest := []) C rfl (c_X2_area l D ca ad N r_1 (sh_X3_spotOf e_1) τ_1 r_2 τ_2 e_2) kv_X3_157 ⟨rfl, rfl⟩ (by decide) (sh_X3_spotOf e_1) ⟨_, rfl, rfl⟩ rfl rfl (Nat.le_of_ble_eq_true rfl) dX3_support_7 ⟨by decide, by decide⟩ ?_
    refine s_st (st' := [.int r_2]) rfl ?_
    refine s_istoren (pc := 10) (lo' := [some (.ref (ad 0)), some (.int a1), some (.ref (ad r_1)), some (.int r_2)]) C dX3_support_10 (Nat.le_of_ble_eq_true rfl) rfl ?_
    refine s_iloadn (pc := 11) C dX3_support_11 rfl ?_
    refine s_if_ne (pc := 12) (tgt := 25) C dX3_support_12 (by decide) (fun h_1 => ?_) (fun h_1 => ?_)
    · replace hf := ifn h_1 hf
      refine s_bipush (pc := 25) (v := 100) C dX3_support_25 (by decide) ?_
      refine s_aloadn (pc := 27) C dX3_support_27 rfl ?_
      refine s_getR (pc := 28) (r := 2) C fl_X3_25 SH_0 rfl dX3_support_28 ?_
      refine s_aloadn (pc := 31) C dX3_support_31 rfl ?_
      obtain ⟨r_3, τ_3, e_3, hf⟩ := bnd hf
      refine s_callV (pc := 32) (rest := [.int 100]) C rfl (c_X1_supportOf l D ca ad N 0 (by decide : 0 < 2) r_1 (sh_X3_spotOf e_1) τ_2 r_3 τ_3 e_3) kv_X3_165 ⟨rfl, rfl⟩ (by decide) (SH_plan (by decide : 0 < 2)) ⟨_, rfl, rfl⟩ rfl rfl (Nat.le_of_ble_eq_true rfl) dX3_support_32 ⟨by decide, by decide⟩ ?_
      refine s_st (st' := [.int r_3, .int 100]) rfl ?_
      refine s_imul (pc := 35) C dX3_support_35 ?_
      refine s_iloadn (pc := 36) C dX3_support_36 rfl ?_
      obtain ⟨g_1, hf⟩ := gd hf
      refine s_idiv (pc := 37) C dX3_support_37 g_1 ?_
      exact t_iret (pc := 38) C hr hlk dX3_support_38 ⟨by decide, by decide⟩ (by rw [← Option.some.inj hf]; rfl)
    · replace hf := ifp h_1 hf
      exact t_throw (pc := 15) C rfl hl hlk hout hXE th_160_162_164 dX3_support_15 dX3_support_18 dX3_support_19 dX3_support_21 dX3_support_24 ⟨by decide, Nat.le_of_ble_eq_true rfl, by decide, by decide, by decide, by decide⟩ (by rw [← Option.some.inj hf]; rfl)
  · refine t_call (pc := 2) (rest := []) C hXE rfl (c_X3_spotOf l D ca ad hl N a1 σ _ e_1) kv_X3_134 ⟨rfl, rfl⟩ (by decide) SH_0 ⟨_, rfl, rfl⟩ rfl rfl (Nat.le_of_ble_eq_true rfl) dX3_support_2 ⟨by decide, by decide⟩ (fun ov τ h => nomatch (show (Sum.inr (E_1, τ_1) : RES) = .inl (ov, τ) from h)) (fun E τ h => ?_)
    cases (show (Sum.inr (E_1, τ_1) : RES) = .inr (E, τ) from h)
    exact t_out C hlk hout ⟨by decide, by decide⟩ (by rw [hf]; rfl)
def f_X3_bears (N : Nat) (a1 : Int32) (σ : St) : Option ((Int32 × St) ⊕ (String × St)) :=
  bt (f_X3_spotOf N a1 σ) fun r_1 τ_1 =>
  if (τ_1 r_1 0 &&& 1) = 0 then
    some (.inr ("java/lang/IllegalStateException", τ_1))
  else
    bv (f_X1_noteStanders N 0 τ_1) fun τ_2 =>
    bn (f_X1_weightOn N 0 r_1 τ_2) fun r_3 τ_3 =>
    some (.inl (r_3, τ_3))
set_option maxRecDepth 100000 in
set_option maxHeartbeats 4000000 in
theorem c_X3_bears (l : Launch) (D : va_G) (ca : Nat → ClassId) (ad : Nat → Nat) (hl : l.stackTraces = false) (N : Nat) (a1 : Int32) (σ : St) (r : (Int32 × St) ⊕ (String × St)) (hf : f_X3_bears N a1 σ = some r) : cT l yX3_bears (.code yX3_bears cX3_bears 3 (some .int)) (rmx 9 2) D ca ad SH [.ref (ad 0), .int a1] σ (toRI r) 2 := by
  refine cT.intro2 (own := RX3) (lo := [some (.ref (ad 0)), some (.int a1), none]) (by decide) rfl (ccR (ccI cc0)) (Nat.le_of_ble_eq_true rfl) rfl ?_
  intro p e s m args below meth c A C hr hlk hout hXE
  unfold f_X3_bears at hf
  refine s_aloadn (pc := 0) C dX3_bears_0 rfl ?_
  refine s_iloadn (pc := 1) C dX3_bears_1 rfl ?_
  rcases btd hf with ⟨r_1, τ_1, e_1, hf⟩ | ⟨E_1, τ_1, e_1, hf⟩
  · refine t_call (pc := 2) (rest := []) C hXE rfl (c_X3_spotOf l D ca ad hl N a1 σ _ e_1) kv_X3_134 ⟨rfl, rfl⟩ (by decide) SH_0 ⟨_, rfl, rfl⟩ rfl rfl (Nat.le_of_ble_eq_true rfl) dX3_bears_2 ⟨by decide, by decide⟩ (fun ov τ h => ?_) (fun E τ h => nomatch (show (Sum.inl (some (Value.ref (ad r_1)), τ_1) : RES) = .inr (E, τ) from h))
    cases (show (Sum.inl (some (Value.ref (ad r_1)), τ_1) : RES) = .inl (ov, τ) from h)
    refine s_st (st' := [.ref (ad r_1)]) rfl ?_
    refine s_astoren (pc := 5) (lo' := [some (.ref (ad 0)), some (.int a1), some (.ref (ad r_1))]) C dX3_bears_5 (Nat.le_of_ble_eq_true rfl) rfl ?_
    refine s_aloadn (pc := 6) C dX3_bears_6 rfl ?_
    refine s_getZ (pc := 7) C fl_X3_140 (sh_X3_spotOf e_1) rfl dX3_bears_7 ?_
    refine s_if_ne (pc := 10) (tgt := 23) C dX3_bears_10 (by decide) (fun h_1 => ?_) (fun h_1 => ?_)
    · replace hf := ifn h_1 hf
      refine s_aloadn (pc := 23) C dX3_bears_23 rfl ?_
      refine s_getR (pc := 24) (r := 2) C fl_X3_25 SH_0 rfl dX3_bears_24 ?_
      obtain ⟨τ_2, e_2, hf⟩ := bvd hf
      refine s_callV (pc := 27) (rest := []) C rfl (c_X1_noteStanders l D ca ad N 0 (by decide : 0 < 2) τ_1 τ_2 e_2) kv_X3_169 ⟨rfl, rfl⟩ (by decide) (SH_plan (by decide : 0 < 2)) ⟨_, rfl, rfl⟩ rfl rfl (Nat.le_of_ble_eq_true rfl) dX3_bears_27 ⟨by decide, by decide⟩ ?_
      refine s_st (st' := []) rfl ?_
      refine s_aloadn (pc := 30) C dX3_bears_30 rfl ?_
      refine s_getR (pc := 31) (r := 2) C fl_X3_25 SH_0 rfl dX3_bears_31 ?_
      refine s_aloadn (pc := 34) C dX3_bears_34 rfl ?_
      obtain ⟨r_3, τ_3, e_3, hf⟩ := bnd hf
      refine s_callV (pc := 35) (rest := []) C rfl (c_X1_weightOn l D ca ad N 0 (by decide : 0 < 2) r_1 (sh_X3_spotOf e_1) τ_2 r_3 τ_3 e_3) kv_X3_172 ⟨rfl, rfl⟩ (by decide) (SH_plan (by decide : 0 < 2)) ⟨_, rfl, rfl⟩ rfl rfl (Nat.le_of_ble_eq_true rfl) dX3_bears_35 ⟨by decide, by decide⟩ ?_
      refine s_st (st' := [.int r_3]) rfl ?_
      exact t_iret (pc := 38) C hr hlk dX3_bears_38 ⟨by decide, by decide⟩ (by rw [← Option.some.inj hf]; rfl)
    · replace hf := ifp h_1 hf
      exact t_throw (pc := 13) C rfl hl hlk hout hXE th_148_162_152 dX3_bears_13 dX3_bears_16 dX3_bears_17 dX3_bears_19 dX3_bears_22 ⟨by decide, Nat.le_of_ble_eq_true rfl, by decide, by decide, by decide, by decide⟩ (by rw [← Option.some.inj hf]; rfl)
  · refine t_call (pc := 2) (rest := []) C hXE rfl (c_X3_spotOf l D ca ad hl N a1 σ _ e_1) kv_X3_134 ⟨rfl, rfl⟩ (by decide) SH_0 ⟨_, rfl, rfl⟩ rfl rfl (Nat.le_of_ble_eq_true rfl) dX3_bears_2 ⟨by decide, by decide⟩ (fun ov τ h => nomatch (show (Sum.inr (E_1, τ_1) : RES) = .inl (ov, τ) from h)) (fun E τ h => ?_)
    cases (show (Sum.inr (E_1, τ_1) : RES) = .inr (E, τ) from h)
    exact t_out C hlk hout ⟨by decide, by decide⟩ (by rw [hf]; rfl)
def f_X3_cell (N : Nat) (a1 : Int32) (a2 : Int32) (a3 : Int32) (σ : St) : Option ((Int32 × St) ⊕ (String × St)) :=
  bn (f_X1_hasCell N 0 a1 a2 a3 σ) fun r_1 τ_1 =>
  if r_1 = 0 then
    some (.inr ("java/lang/ArrayIndexOutOfBoundsException", τ_1))
  else
    bn (f_X1_pieceIn N 0 a1 a2 a3 τ_1) fun r_2 τ_2 =>
    some (.inl (r_2, τ_2))
set_option maxRecDepth 100000 in
set_option maxHeartbeats 4000000 in
theorem c_X3_cell (l : Launch) (D : va_G) (ca : Nat → ClassId) (ad : Nat → Nat) (hl : l.stackTraces = false) (N : Nat) (a1 : Int32) (a2 : Int32) (a3 : Int32) (σ : St) (r : (Int32 × St) ⊕ (String × St)) (hf : f_X3_cell N a1 a2 a3 σ = some r) : cT l yX3_cell (.code yX3_cell cX3_cell 4 (some .int)) (rmx 8 1) D ca ad SH [.ref (ad 0), .int a1, .int a2, .int a3] σ (toRI r) 1 := by
  refine cT.intro2 (own := RX3) (lo := [some (.ref (ad 0)), some (.int a1), some (.int a2), some (.int a3)]) (by decide) rfl (ccR (ccI (ccI (ccI cc0)))) (Nat.le_of_ble_eq_true rfl) rfl ?_
  intro p e s m args below meth c A C hr hlk hout hXE
  unfold f_X3_cell at hf
  refine s_aloadn (pc := 0) C dX3_cell_0 rfl ?_
  refine s_getR (pc := 1) (r := 2) C fl_X3_25 SH_0 rfl dX3_cell_1 ?_
  refine s_iloadn (pc := 4) C dX3_cell_4 rfl ?_
  refine s_iloadn (pc := 5) C dX3_cell_5 rfl ?_
  refine s_iloadn (pc := 6) C dX3_cell_6 rfl ?_
  obtain ⟨r_1, τ_1, e_1, hf⟩ := bnd hf
  refine s_callV (pc := 7) (rest := []) C rfl (c_X1_hasCell l D ca ad N 0 (by decide : 0 < 2) a1 a2 a3 σ r_1 τ_1 e_1) kv_X3_175 ⟨rfl, rfl⟩ (by decide) (SH_plan (by decide : 0 < 2)) ⟨_, rfl, rfl⟩ rfl rfl (Nat.le_of_ble_eq_true rfl) dX3_cell_7 ⟨by decide, by decide⟩ ?_
  refine s_st (st' := [.int r_1]) rfl ?_
  refine s_if_ne (pc := 10) (tgt := 23) C dX3_cell_10 (by decide) (fun h_1 => ?_) (fun h_1 => ?_)
  · replace hf := ifn h_1 hf
    refine s_aloadn (pc := 23) C dX3_cell_23 rfl ?_
    refine s_getR (pc := 24) (r := 2) C fl_X3_25 SH_0 rfl dX3_cell_24 ?_
    refine s_iloadn (pc := 27) C dX3_cell_27 rfl ?_
    refine s_iloadn (pc := 28) C dX3_cell_28 rfl ?_
    refine s_iloadn (pc := 29) C dX3_cell_29 rfl ?_
    obtain ⟨r_2, τ_2, e_2, hf⟩ := bnd hf
    refine s_callV (pc := 30) (rest := []) C rfl (c_X1_pieceIn l D ca ad N 0 (by decide : 0 < 2) a1 a2 a3 τ_1 r_2 τ_2 e_2) kv_X3_184 ⟨rfl, rfl⟩ (by decide) (SH_plan (by decide : 0 < 2)) ⟨_, rfl, rfl⟩ rfl rfl (Nat.le_of_ble_eq_true rfl) dX3_cell_30 ⟨by decide, by decide⟩ ?_
    refine s_st (st' := [.int r_2]) rfl ?_
    exact t_iret (pc := 33) C hr hlk dX3_cell_33 ⟨by decide, by decide⟩ (by rw [← Option.some.inj hf]; rfl)
  · replace hf := ifp h_1 hf
    exact t_throw (pc := 13) C rfl hl hlk hout hXE th_179_181_183 dX3_cell_13 dX3_cell_16 dX3_cell_17 dX3_cell_19 dX3_cell_22 ⟨by decide, Nat.le_of_ble_eq_true rfl, by decide, by decide, by decide, by decide⟩ (by rw [← Option.some.inj hf]; rfl)
def lp_X3_close_27 (N : Nat)  : Nat → Int32 → Int32 → St → Option ((Int32 × St) ⊕ (String × St))
  | 0, _, _, _ => none
  | n + 1, v1, v2, σ =>
    if (σ 0 4) ≤ v2 then
      bv (f_X1_clear N 0 σ) fun τ_1 =>
      some (.inl (v1, (su τ_1 0 7 ((τ_1 0 7) + 1))))
    else
      if inb v2 6 = true then
      if (σ (13 + 6 * 0 + ix v2) 0 &&& 1) = 0 then
        lp_X3_close_27 N   n v1 (v2 + 1) σ
      else
        if inb v2 6 = true then
        lp_X3_close_27 N   n v1 (v2 + 1) (su σ (5 + ix v2) 7 v1)
        else none
      else none
set_option maxRecDepth 100000 in
set_option maxHeartbeats 4000000 in
theorem w_X3_close_27 {l : Launch} {D : va_G} {ca : Nat → ClassId} {ad : Nat → Nat} {p : Program} {e : Env} {s : State} {m : MethodId} {args : Array Value} {below : List Frame} {meth : Method} {c : Code} {A : Nat → Prop} (C : CX p s m args c D ca A RX3 cX3_close 3) (hr : meth.sig.returnType = (some .int)) (hlk : meth.locks = false) (hl : l.stackTraces = false) (hout : ∀ x ∈ c.exceptionTable.toList, False) (hXE : XE A s s.heap) (N : Nat)  (r : (Int32 × St) ⊕ (String × St))  : ∀ (n : Nat) (v1 v2 : Int32) (σ : St), lp_X3_close_27 N   n v1 v2 σ = some r → WW p l e (rmx 8 1) s m args below meth c 0 0 (ET D ca ad SH A below args s (toRI r) 1) A D ca ad SH 27 [some (.ref (ad 0)), some (.int v1), some (.int v2)] [] σ := by
  intro n
  induction n with
  | zero => intro v1 v2 σ hf; cases hf
  | succ n ih =>
    intro v1 v2 σ hf
    rw [lp_X3_close_27] at hf
    refine s_iloadn (pc := 27) C dX3_close_27 rfl ?_
    refine s_aloadn (pc := 28) C dX3_close_28 rfl ?_
    refine s_getI (pc := 29) C fl_X3_49 SH_0 rfl dX3_close_29 ?_
    refine s_icmp_ge (pc := 32) (tgt := 66) C dX3_close_32 (by decide) (fun h_1 => ?_) (fun h_1 => ?_)
    · replace hf := ifp h_1 hf
      refine s_aloadn (pc := 66) C dX3_close_66 rfl ?_
      refine s_getR (pc := 67) (r := 2) C fl_X3_25 SH_0 rfl dX3_close_67 ?_
      obtain ⟨τ_1, e_1, hf⟩ := bvd hf
      refine s_callV (pc := 70) (rest := []) C rfl (c_X1_clear l D ca ad N 0 (by decide : 0 < 2) σ τ_1 e_1) kv_X3_203 ⟨rfl, rfl⟩ (by decide) (SH_plan (by decide : 0 < 2)) ⟨_, rfl, rfl⟩ rfl rfl (Nat.le_of_ble_eq_true rfl) dX3_close_70 ⟨by decide, by decide⟩ ?_
      refine s_st (st' := []) rfl ?_
      refine s_aloadn (pc := 73) C dX3_close_73 rfl ?_
      refine s_dup (pc := 74) C dX3_close_74 rfl ?_
      refine s_getI (pc := 75) C fl_X3_193 SH_0 rfl dX3_close_75 ?_
      refine s_iconst (pc := 78) (v := 1) C dX3_close_78 (by decide) ?_
      refine s_iadd (pc := 79) C dX3_close_79 ?_
      refine s_putI (pc := 80) C fp_X3_193 SH_0 rfl dX3_close_80 ?_
      refine s_iloadn (pc := 83) C dX3_close_83 rfl ?_
      exact t_iret (pc := 84) C hr hlk dX3_close_84 ⟨by decide, by decide⟩ (by rw [← Option.some.inj hf]; rfl)
    · replace hf := ifn h_1 hf
      refine s_aloadn (pc := 35) C dX3_close_35 rfl ?_
      refine s_getR (pc := 36) (r := 2) C fl_X3_25 SH_0 rfl dX3_close_36 ?_
      refine s_getR (pc := 39) (r := (11 + 0)) C fl_X3_196 (SH_plan (by decide : 0 < 2)) rfl dX3_close_39 ?_
      refine s_iloadn (pc := 42) C dX3_close_42 rfl ?_
      obtain ⟨g_1, hf⟩ := gd hf
      refine s_aald (pc := 43) C (SH_spots (by decide : 0 < 2)) (ty2 ca) g_1 dX3_close_43 ?_
      refine s_getZ (pc := 44) C fl_X3_140 (SH_spot (by decide : 0 < 2) (inb_lt g_1)) rfl dX3_close_44 ?_
      refine s_if_eq (pc := 47) (tgt := 60) C dX3_close_47 (by decide) (fun h_2 => ?_) (fun h_2 => ?_)
      · replace hf := ifp h_2 hf
        refine s_iinc (pc := 60) (v := (v2 + 1)) (lo' := [some (.ref (ad 0)), some (.int v1), some (.int (v2 + 1))]) C dX3_close_60 rfl rfl rfl ?_
        refine s_goto (pc := 63) (tgt := 27) C dX3_close_63 (by decide) ?_
        refine s_few (lo' := [some (.ref (ad 0)), some (.int v1), some (.int (v2 + 1))]) (lfS (lfS (lfS lf0))) ?_
        exact ih v1 (v2 + 1) σ hf
      · replace hf := ifn h_2 hf
        refine s_aloadn (pc := 50) C dX3_close_50 rfl ?_
        refine s_getR (pc := 51) (r := 1) C fl_X3_15 SH_0 rfl dX3_close_51 ?_
        refine s_iloadn (pc := 54) C dX3_close_54 rfl ?_
        obtain ⟨g_2, hf⟩ := gd hf
        refine s_aald (pc := 55) C SH_1 (ty1 ca) g_2 dX3_close_55 ?_
        refine s_iloadn (pc := 56) C dX3_close_56 rfl ?_
        refine s_putI (pc := 57) C fp_X3_200 (SH_piece (inb_lt g_2)) rfl dX3_close_57 ?_
        refine s_iinc (pc := 60) (v := (v2 + 1)) (lo' := [some (.ref (ad 0)), some (.int v1), some (.int (v2 + 1))]) C dX3_close_60 rfl rfl rfl ?_
        refine s_goto (pc := 63) (tgt := 27) C dX3_close_63 (by decide) ?_
        refine s_few (lo' := [some (.ref (ad 0)), some (.int v1), some (.int (v2 + 1))]) (lfS (lfS (lfS lf0))) ?_
        exact ih v1 (v2 + 1) (su σ (5 + ix v2) 7 v1) hf
def f_X3_close (N : Nat)  (σ : St) : Option ((Int32 × St) ⊕ (String × St)) :=
  bn (f_X1_size N 0 σ) fun r_1 τ_1 =>
  if r_1 = 0 then
    some (.inr ("java/lang/IllegalStateException", τ_1))
  else
    lp_X3_close_27 N  N (τ_1 0 7) 0 τ_1
set_option maxRecDepth 100000 in
set_option maxHeartbeats 4000000 in
theorem c_X3_close (l : Launch) (D : va_G) (ca : Nat → ClassId) (ad : Nat → Nat) (hl : l.stackTraces = false) (N : Nat)  (σ : St) (r : (Int32 × St) ⊕ (String × St)) (hf : f_X3_close N  σ = some r) : cT l yX3_close (.code yX3_close cX3_close 3 (some .int)) (rmx 8 1) D ca ad SH [.ref (ad 0)] σ (toRI r) 1 := by
  refine cT.intro2 (own := RX3) (lo := [some (.ref (ad 0)), none, none]) (by decide) rfl (ccR cc0) (Nat.le_of_ble_eq_true rfl) rfl ?_
  intro p e s m args below meth c A C hr hlk hout hXE
  unfold f_X3_close at hf
  refine s_aloadn (pc := 0) C dX3_close_0 rfl ?_
  refine s_getR (pc := 1) (r := 2) C fl_X3_25 SH_0 rfl dX3_close_1 ?_
  obtain ⟨r_1, τ_1, e_1, hf⟩ := bnd hf
  refine s_callV (pc := 4) (rest := []) C rfl (c_X1_size l D ca ad N 0 (by decide : 0 < 2) σ r_1 τ_1 e_1) kv_X3_188 ⟨rfl, rfl⟩ (by decide) (SH_plan (by decide : 0 < 2)) ⟨_, rfl, rfl⟩ rfl rfl (Nat.le_of_ble_eq_true rfl) dX3_close_4 ⟨by decide, by decide⟩ ?_
  refine s_st (st' := [.int r_1]) rfl ?_
  refine s_if_ne (pc := 7) (tgt := 20) C dX3_close_7 (by decide) (fun h_1 => ?_) (fun h_1 => ?_)
  · replace hf := ifn h_1 hf
    refine s_aloadn (pc := 20) C dX3_close_20 rfl ?_
    refine s_getI (pc := 21) C fl_X3_193 SH_0 rfl dX3_close_21 ?_
    refine s_istoren (pc := 24) (lo' := [some (.ref (ad 0)), some (.int (τ_1 0 7)), none]) C dX3_close_24 (Nat.le_of_ble_eq_true rfl) rfl ?_
    refine s_iconst (pc := 25) (v := 0) C dX3_close_25 (by decide) ?_
    refine s_istoren (pc := 26) (lo' := [some (.ref (ad 0)), some (.int (τ_1 0 7)), some (.int 0)]) C dX3_close_26 (Nat.le_of_ble_eq_true rfl) rfl ?_
    refine s_few (lo' := [some (.ref (ad 0)), some (.int (τ_1 0 7)), some (.int 0)]) (lfS (lfS (lfS lf0))) ?_
    exact w_X3_close_27 C hr hlk hl hout hXE N  r  N (τ_1 0 7) 0 τ_1 hf
  · replace hf := ifp h_1 hf
    exact t_throw (pc := 10) C rfl hl hlk hout hXE th_148_191_152 dX3_close_10 dX3_close_13 dX3_close_14 dX3_close_16 dX3_close_19 ⟨by decide, Nat.le_of_ble_eq_true rfl, by decide, by decide, by decide, by decide⟩ (by rw [← Option.some.inj hf]; rfl)
def f_X3_box (N : Nat) (a1 : Int32) (σ : St) : Option ((Int32 × St) ⊕ (String × St)) :=
  bt (f_X3_known N a1 σ) fun r_1 τ_1 =>
  some (.inl ((τ_1 r_1 7), τ_1))
set_option maxRecDepth 100000 in
set_option maxHeartbeats 4000000 in
theorem c_X3_box (l : Launch) (D : va_G) (ca : Nat → ClassId) (ad : Nat → Nat) (hl : l.stackTraces = false) (N : Nat) (a1 : Int32) (σ : St) (r : (Int32 × St) ⊕ (String × St)) (hf : f_X3_box N a1 σ = some r) : cT l yX3_box (.code yX3_box cX3_box 2 (some .int)) (rmx 9 1) D ca ad SH [.ref (ad 0), .int a1] σ (toRI r) 1 := by
  refine cT.intro2 (own := RX3) (lo := [some (.ref (ad 0)), some (.int a1)]) (by decide) rfl (ccR (ccI cc0)) (Nat.le_of_ble_eq_true rfl) rfl ?_
  intro p e s m args below meth c A C hr hlk hout hXE
  unfold f_X3_box at hf
  refine s_aloadn (pc := 0) C dX3_box_0 rfl ?_
  refine s_iloadn (pc := 1) C dX3_box_1 rfl ?_
  rcases btd hf with ⟨r_1, τ_1, e_1, hf⟩ | ⟨E_1, τ_1, e_1, hf⟩
  · refine t_call (pc := 2) (rest := []) C hXE rfl (c_X3_known l D ca ad hl N a1 σ _ e_1) kv_X3_62 ⟨rfl, rfl⟩ (by decide) SH_0 ⟨_, rfl, rfl⟩ rfl rfl (Nat.le_of_ble_eq_true rfl) dX3_box_2 ⟨by decide, by decide⟩ (fun ov τ h => ?_) (fun E τ h => nomatch (show (Sum.inl (some (Value.ref (ad r_1)), τ_1) : RES) = .inr (E, τ) from h))
    cases (show (Sum.inl (some (Value.ref (ad r_1)), τ_1) : RES) = .inl (ov, τ) from h)
    refine s_st (st' := [.ref (ad r_1)]) rfl ?_
    refine s_getI (pc := 5) C fl_X3_200 (sh_X3_known e_1) rfl dX3_box_5 ?_
    exact t_iret (pc := 8) C hr hlk dX3_box_8 ⟨by decide, by decide⟩ (by rw [← Option.some.inj hf]; rfl)
  · refine t_call (pc := 2) (rest := []) C hXE rfl (c_X3_known l D ca ad hl N a1 σ _ e_1) kv_X3_62 ⟨rfl, rfl⟩ (by decide) SH_0 ⟨_, rfl, rfl⟩ rfl rfl (Nat.le_of_ble_eq_true rfl) dX3_box_2 ⟨by decide, by decide⟩ (fun ov τ h => nomatch (show (Sum.inr (E_1, τ_1) : RES) = .inl (ov, τ) from h)) (fun E τ h => ?_)
    cases (show (Sum.inr (E_1, τ_1) : RES) = .inr (E, τ) from h)
    exact t_out C hlk hout ⟨by decide, by decide⟩ (by rw [hf]; rfl)
