def lp_X4_isPlan_139 (N : Nat)  (k2 : Int32 → St → Option (Int32 × St)) : Nat → Int32 → Int32 → St → Option (Int32 × St)
  | 0, _, _, _ => none
  | n + 1, v1, v2, σ =>
    if v1 ≤ v2 then
      k2 (v1 + 1) σ
    else
      if inb v2 6 = true then
      if (σ 32 (ix v2)) < 0 then
        lp_X4_isPlan_139 N  k2 n v1 (v2 + 1) σ
      else
        bn (f_X4_area N v1 v2 σ) fun r_1 τ_1 =>
        if r_1 ≤ 0 then
          lp_X4_isPlan_139 N  k2 n v1 (v2 + 1) τ_1
        else
          if inb v1 6 = true then
          if inb v1 6 = true then
          if inb v2 6 = true then
          if inb v2 6 = true then
          bn (f_X4_common N (τ_1 35 (ix v1)) (τ_1 38 (ix v1)) (τ_1 35 (ix v2)) (τ_1 38 (ix v2)) τ_1) fun r_2 τ_2 =>
          if r_2 ≤ 0 then
            lp_X4_isPlan_139 N  k2 n v1 (v2 + 1) τ_2
          else
            some (0, τ_2)
          else none
          else none
          else none
          else none
      else none
set_option maxRecDepth 100000 in
set_option maxHeartbeats 4000000 in
theorem w_X4_isPlan_139 {l : Launch} {D : va_G} {ca : Nat → ClassId} {ad : Nat → Nat} {p : Program} {e : Env} {s : State} {m : MethodId} {args : Array Value} {below : List Frame} {meth : Method} {c : Code} {A : Nat → Prop} (C : CX p s m args c D ca A RX4 cX4_isPlan 3) (hr : meth.sig.returnType = (some .boolean)) (hlk : meth.locks = false) (N : Nat)  (r : Int32) (τ : St) (k2 : Int32 → St → Option (Int32 × St))  (hk2 : ∀ (w1 : Int32) (σ : St), k2 w1 σ = some (r, τ) → WW p l e (rmk 4) s m args below meth c 0 0 (EQ D ca ad SH A below args s (some (.int r)) τ) A D ca ad SH 2 [some (.ref (ad 25)), some (.int w1), none] [] σ) : ∀ (n : Nat) (v1 v2 : Int32) (σ : St), lp_X4_isPlan_139 N  k2 n v1 v2 σ = some (r, τ) → WW p l e (rmk 4) s m args below meth c 0 0 (EQ D ca ad SH A below args s (some (.int r)) τ) A D ca ad SH 139 [some (.ref (ad 25)), some (.int v1), some (.int v2)] [] σ := by
  intro n
  induction n with
  | zero => intro v1 v2 σ hf; cases hf
  | succ n ih =>
    intro v1 v2 σ hf
    rw [lp_X4_isPlan_139] at hf
    refine s_iloadn (pc := 139) C dX4_isPlan_139 rfl ?_
    refine s_iloadn (pc := 140) C dX4_isPlan_140 rfl ?_
    refine s_icmp_ge (pc := 141) (tgt := 200) C dX4_isPlan_141 (by decide) (fun h_1 => ?_) (fun h_1 => ?_)
    · replace hf := ifp h_1 hf
      refine s_iinc (pc := 200) (v := (v1 + 1)) (lo' := [some (.ref (ad 25)), some (.int (v1 + 1)), some (.int v2)]) C dX4_isPlan_200 rfl rfl rfl ?_
      refine s_goto (pc := 203) (tgt := 2) C dX4_isPlan_203 (by decide) ?_
      refine s_few (lo' := [some (.ref (ad 25)), some (.int (v1 + 1)), none]) (lfS (lfS (lfN lf0))) ?_
      exact hk2 (v1 + 1) σ hf
    · replace hf := ifn h_1 hf
      refine s_aloadn (pc := 144) C dX4_isPlan_144 rfl ?_
      refine s_getR (pc := 145) (r := 32) C fl_X4_41 SH_25 rfl dX4_isPlan_145 ?_
      refine s_iloadn (pc := 148) C dX4_isPlan_148 rfl ?_
      obtain ⟨g_1, hf⟩ := gd hf
      refine s_iald (pc := 149) C SH_32 (ty0 ca) g_1 dX4_isPlan_149 ?_
      refine s_if_lt (pc := 150) (tgt := 194) C dX4_isPlan_150 (by decide) (fun h_2 => ?_) (fun h_2 => ?_)
      · replace hf := ifp h_2 hf
        refine s_iinc (pc := 194) (v := (v2 + 1)) (lo' := [some (.ref (ad 25)), some (.int v1), some (.int (v2 + 1))]) C dX4_isPlan_194 rfl rfl rfl ?_
        refine s_goto (pc := 197) (tgt := 139) C dX4_isPlan_197 (by decide) ?_
        refine s_few (lo' := [some (.ref (ad 25)), some (.int v1), some (.int (v2 + 1))]) (lfS (lfS (lfS lf0))) ?_
        exact ih v1 (v2 + 1) σ hf
      · replace hf := ifn h_2 hf
        refine s_aloadn (pc := 153) C dX4_isPlan_153 rfl ?_
        refine s_iloadn (pc := 154) C dX4_isPlan_154 rfl ?_
        refine s_iloadn (pc := 155) C dX4_isPlan_155 rfl ?_
        obtain ⟨r_1, τ_1, e_1, hf⟩ := bnd hf
        refine s_callV (pc := 156) (rest := []) C rfl (c_X4_area l D ca ad N v1 v2 σ r_1 τ_1 e_1) kv_X4_143 ⟨rfl, rfl⟩ (by decide) SH_25 ⟨_, rfl, rfl⟩ rfl rfl (Nat.le_of_ble_eq_true rfl) dX4_isPlan_156 ⟨Nat.zero_le _, Nat.zero_le _⟩ ?_
        refine s_st (st' := [.int r_1]) rfl ?_
        refine s_if_le (pc := 159) (tgt := 194) C dX4_isPlan_159 (by decide) (fun h_3 => ?_) (fun h_3 => ?_)
        · replace hf := ifp h_3 hf
          refine s_iinc (pc := 194) (v := (v2 + 1)) (lo' := [some (.ref (ad 25)), some (.int v1), some (.int (v2 + 1))]) C dX4_isPlan_194 rfl rfl rfl ?_
          refine s_goto (pc := 197) (tgt := 139) C dX4_isPlan_197 (by decide) ?_
          refine s_few (lo' := [some (.ref (ad 25)), some (.int v1), some (.int (v2 + 1))]) (lfS (lfS (lfS lf0))) ?_
          exact ih v1 (v2 + 1) τ_1 hf
        · replace hf := ifn h_3 hf
          refine s_aloadn (pc := 162) C dX4_isPlan_162 rfl ?_
          refine s_getR (pc := 163) (r := 35) C fl_X4_50 SH_25 rfl dX4_isPlan_163 ?_
          refine s_iloadn (pc := 166) C dX4_isPlan_166 rfl ?_
          obtain ⟨g_2, hf⟩ := gd hf
          refine s_iald (pc := 167) C SH_35 (ty0 ca) g_2 dX4_isPlan_167 ?_
          refine s_aloadn (pc := 168) C dX4_isPlan_168 rfl ?_
          refine s_getR (pc := 169) (r := 38) C fl_X4_59 SH_25 rfl dX4_isPlan_169 ?_
          refine s_iloadn (pc := 172) C dX4_isPlan_172 rfl ?_
          obtain ⟨g_3, hf⟩ := gd hf
          refine s_iald (pc := 173) C SH_38 (ty0 ca) g_3 dX4_isPlan_173 ?_
          refine s_aloadn (pc := 174) C dX4_isPlan_174 rfl ?_
          refine s_getR (pc := 175) (r := 35) C fl_X4_50 SH_25 rfl dX4_isPlan_175 ?_
          refine s_iloadn (pc := 178) C dX4_isPlan_178 rfl ?_
          obtain ⟨g_4, hf⟩ := gd hf
          refine s_iald (pc := 179) C SH_35 (ty0 ca) g_4 dX4_isPlan_179 ?_
          refine s_aloadn (pc := 180) C dX4_isPlan_180 rfl ?_
          refine s_getR (pc := 181) (r := 38) C fl_X4_59 SH_25 rfl dX4_isPlan_181 ?_
          refine s_iloadn (pc := 184) C dX4_isPlan_184 rfl ?_
          obtain ⟨g_5, hf⟩ := gd hf
          refine s_iald (pc := 185) C SH_38 (ty0 ca) g_5 dX4_isPlan_185 ?_
          obtain ⟨r_2, τ_2, e_2, hf⟩ := bnd hf
          refine s_callO (pc := 186) (rest := []) C rfl (c_X4_common l D ca ad N (τ_1 35 (ix v1)) (τ_1 38 (ix v1)) (τ_1 35 (ix v2)) (τ_1 38 (ix v2)) τ_1 r_2 τ_2 e_2) ko_X4_139 ⟨rfl, rfl⟩ (by decide) rfl rfl (Nat.le_of_ble_eq_true rfl) dX4_isPlan_186 ⟨Nat.zero_le _, Nat.zero_le _⟩ ?_
          refine s_st (st' := [.int r_2]) rfl ?_
          refine s_if_le (pc := 189) (tgt := 194) C dX4_isPlan_189 (by decide) (fun h_4 => ?_) (fun h_4 => ?_)
          · replace hf := ifp h_4 hf
            refine s_iinc (pc := 194) (v := (v2 + 1)) (lo' := [some (.ref (ad 25)), some (.int v1), some (.int (v2 + 1))]) C dX4_isPlan_194 rfl rfl rfl ?_
            refine s_goto (pc := 197) (tgt := 139) C dX4_isPlan_197 (by decide) ?_
            refine s_few (lo' := [some (.ref (ad 25)), some (.int v1), some (.int (v2 + 1))]) (lfS (lfS (lfS lf0))) ?_
            exact ih v1 (v2 + 1) τ_2 hf
          · replace hf := ifn h_4 hf
            refine s_iconst (pc := 192) (v := 0) C dX4_isPlan_192 (by decide) ?_
            exact s_zret (pc := 193) C hr hlk dX4_isPlan_193 (by decide) (congrArg (fun z => some (Value.int z)) (rt hf).1) (rt hf).2
def lp_X4_isPlan_2 (N : Nat)  : Nat → Int32 → St → Option (Int32 × St)
  | 0, _, _ => none
  | n + 1, v1, σ =>
    if (σ 25 4) ≤ v1 then
      some (1, σ)
    else
      if inb v1 6 = true then
      if (σ 32 (ix v1)) < 0 then
        lp_X4_isPlan_2 N   n (v1 + 1) σ
      else
        if inb v1 6 = true then
        if inb v1 6 = true then
        if (σ 25 1) < ((σ 33 (ix v1)) + (σ 36 (ix v1))) then
          some (0, σ)
        else
          if inb v1 6 = true then
          if inb v1 6 = true then
          if (σ 25 2) < ((σ 34 (ix v1)) + (σ 37 (ix v1))) then
            some (0, σ)
          else
            if inb v1 6 = true then
            if inb v1 6 = true then
            if ((σ 35 (ix v1)) + (σ 38 (ix v1))) ≤ (σ 25 3) then
              bn (f_X4_supportOf N v1 σ) fun r_1 τ_1 =>
              if inb v1 6 = true then
              if inb v1 6 = true then
              if (((τ_1 25 11) * (τ_1 36 (ix v1))) * (τ_1 37 (ix v1))) ≤ (r_1 * 100) then
                if inb v1 6 = true then
                if (τ_1 29 (ix v1)) < 0 then
                  lp_X4_isPlan_139 N  (fun w1 σ => lp_X4_isPlan_2 N   n w1 σ) N v1 0 τ_1
                else
                  bn (f_X4_borne N v1 τ_1) fun r_2 τ_2 =>
                  if inb v1 6 = true then
                  if r_2 ≤ (τ_2 29 (ix v1)) then
                    lp_X4_isPlan_139 N  (fun w1 σ => lp_X4_isPlan_2 N   n w1 σ) N v1 0 τ_2
                  else
                    some (0, τ_2)
                  else none
                else none
              else
                some (0, τ_1)
              else none
              else none
            else
              some (0, σ)
            else none
            else none
          else none
          else none
        else none
        else none
      else none
set_option maxRecDepth 100000 in
set_option maxHeartbeats 4000000 in
theorem w_X4_isPlan_2 {l : Launch} {D : va_G} {ca : Nat → ClassId} {ad : Nat → Nat} {p : Program} {e : Env} {s : State} {m : MethodId} {args : Array Value} {below : List Frame} {meth : Method} {c : Code} {A : Nat → Prop} (C : CX p s m args c D ca A RX4 cX4_isPlan 3) (hr : meth.sig.returnType = (some .boolean)) (hlk : meth.locks = false) (N : Nat)  (r : Int32) (τ : St)  : ∀ (n : Nat) (v1 : Int32) (σ : St), lp_X4_isPlan_2 N   n v1 σ = some (r, τ) → WW p l e (rmk 4) s m args below meth c 0 0 (EQ D ca ad SH A below args s (some (.int r)) τ) A D ca ad SH 2 [some (.ref (ad 25)), some (.int v1), none] [] σ := by
  intro n
  induction n with
  | zero => intro v1 σ hf; cases hf
  | succ n ih =>
    intro v1 σ hf
    rw [lp_X4_isPlan_2] at hf
    refine s_iloadn (pc := 2) C dX4_isPlan_2 rfl ?_
    refine s_aloadn (pc := 3) C dX4_isPlan_3 rfl ?_
    refine s_getI (pc := 4) C fl_X4_13 SH_25 rfl dX4_isPlan_4 ?_
    refine s_icmp_ge (pc := 7) (tgt := 206) C dX4_isPlan_7 (by decide) (fun h_1 => ?_) (fun h_1 => ?_)
    · replace hf := ifp h_1 hf
      refine s_iconst (pc := 206) (v := 1) C dX4_isPlan_206 (by decide) ?_
      exact s_zret (pc := 207) C hr hlk dX4_isPlan_207 (by decide) (congrArg (fun z => some (Value.int z)) (rt hf).1) (rt hf).2
    · replace hf := ifn h_1 hf
      refine s_aloadn (pc := 10) C dX4_isPlan_10 rfl ?_
      refine s_getR (pc := 11) (r := 32) C fl_X4_41 SH_25 rfl dX4_isPlan_11 ?_
      refine s_iloadn (pc := 14) C dX4_isPlan_14 rfl ?_
      obtain ⟨g_1, hf⟩ := gd hf
      refine s_iald (pc := 15) C SH_32 (ty0 ca) g_1 dX4_isPlan_15 ?_
      refine s_if_lt (pc := 16) (tgt := 200) C dX4_isPlan_16 (by decide) (fun h_2 => ?_) (fun h_2 => ?_)
      · replace hf := ifp h_2 hf
        refine s_iinc (pc := 200) (v := (v1 + 1)) (lo' := [some (.ref (ad 25)), some (.int (v1 + 1)), none]) C dX4_isPlan_200 rfl rfl rfl ?_
        refine s_goto (pc := 203) (tgt := 2) C dX4_isPlan_203 (by decide) ?_
        refine s_few (lo' := [some (.ref (ad 25)), some (.int (v1 + 1)), none]) (lfS (lfS (lfN lf0))) ?_
        exact ih (v1 + 1) σ hf
      · replace hf := ifn h_2 hf
        refine s_aloadn (pc := 19) C dX4_isPlan_19 rfl ?_
        refine s_getR (pc := 20) (r := 33) C fl_X4_44 SH_25 rfl dX4_isPlan_20 ?_
        refine s_iloadn (pc := 23) C dX4_isPlan_23 rfl ?_
        obtain ⟨g_2, hf⟩ := gd hf
        refine s_iald (pc := 24) C SH_33 (ty0 ca) g_2 dX4_isPlan_24 ?_
        refine s_aloadn (pc := 25) C dX4_isPlan_25 rfl ?_
        refine s_getR (pc := 26) (r := 36) C fl_X4_53 SH_25 rfl dX4_isPlan_26 ?_
        refine s_iloadn (pc := 29) C dX4_isPlan_29 rfl ?_
        obtain ⟨g_3, hf⟩ := gd hf
        refine s_iald (pc := 30) C SH_36 (ty0 ca) g_3 dX4_isPlan_30 ?_
        refine s_iadd (pc := 31) C dX4_isPlan_31 ?_
        refine s_aloadn (pc := 32) C dX4_isPlan_32 rfl ?_
        refine s_getI (pc := 33) C fl_X4_118 SH_25 rfl dX4_isPlan_33 ?_
        refine s_icmp_gt (pc := 36) (tgt := 79) C dX4_isPlan_36 (by decide) (fun h_3 => ?_) (fun h_3 => ?_)
        · replace hf := ifp h_3 hf
          refine s_iconst (pc := 79) (v := 0) C dX4_isPlan_79 (by decide) ?_
          exact s_zret (pc := 80) C hr hlk dX4_isPlan_80 (by decide) (congrArg (fun z => some (Value.int z)) (rt hf).1) (rt hf).2
        · replace hf := ifn h_3 hf
          refine s_aloadn (pc := 39) C dX4_isPlan_39 rfl ?_
          refine s_getR (pc := 40) (r := 34) C fl_X4_47 SH_25 rfl dX4_isPlan_40 ?_
          refine s_iloadn (pc := 43) C dX4_isPlan_43 rfl ?_
          obtain ⟨g_4, hf⟩ := gd hf
          refine s_iald (pc := 44) C SH_34 (ty0 ca) g_4 dX4_isPlan_44 ?_
          refine s_aloadn (pc := 45) C dX4_isPlan_45 rfl ?_
          refine s_getR (pc := 46) (r := 37) C fl_X4_56 SH_25 rfl dX4_isPlan_46 ?_
          refine s_iloadn (pc := 49) C dX4_isPlan_49 rfl ?_
          obtain ⟨g_5, hf⟩ := gd hf
          refine s_iald (pc := 50) C SH_37 (ty0 ca) g_5 dX4_isPlan_50 ?_
          refine s_iadd (pc := 51) C dX4_isPlan_51 ?_
          refine s_aloadn (pc := 52) C dX4_isPlan_52 rfl ?_
          refine s_getI (pc := 53) C fl_X4_121 SH_25 rfl dX4_isPlan_53 ?_
          refine s_icmp_gt (pc := 56) (tgt := 79) C dX4_isPlan_56 (by decide) (fun h_4 => ?_) (fun h_4 => ?_)
          · replace hf := ifp h_4 hf
            refine s_iconst (pc := 79) (v := 0) C dX4_isPlan_79 (by decide) ?_
            exact s_zret (pc := 80) C hr hlk dX4_isPlan_80 (by decide) (congrArg (fun z => some (Value.int z)) (rt hf).1) (rt hf).2
          · replace hf := ifn h_4 hf
            refine s_aloadn (pc := 59) C dX4_isPlan_59 rfl ?_
            refine s_getR (pc := 60) (r := 35) C fl_X4_50 SH_25 rfl dX4_isPlan_60 ?_
            refine s_iloadn (pc := 63) C dX4_isPlan_63 rfl ?_
            obtain ⟨g_6, hf⟩ := gd hf
            refine s_iald (pc := 64) C SH_35 (ty0 ca) g_6 dX4_isPlan_64 ?_
            refine s_aloadn (pc := 65) C dX4_isPlan_65 rfl ?_
            refine s_getR (pc := 66) (r := 38) C fl_X4_59 SH_25 rfl dX4_isPlan_66 ?_
            refine s_iloadn (pc := 69) C dX4_isPlan_69 rfl ?_
            obtain ⟨g_7, hf⟩ := gd hf
            refine s_iald (pc := 70) C SH_38 (ty0 ca) g_7 dX4_isPlan_70 ?_
            refine s_iadd (pc := 71) C dX4_isPlan_71 ?_
            refine s_aloadn (pc := 72) C dX4_isPlan_72 rfl ?_
            refine s_getI (pc := 73) C fl_X4_124 SH_25 rfl dX4_isPlan_73 ?_
            refine s_icmp_le (pc := 76) (tgt := 81) C dX4_isPlan_76 (by decide) (fun h_5 => ?_) (fun h_5 => ?_)
            · replace hf := ifp h_5 hf
              refine s_aloadn (pc := 81) C dX4_isPlan_81 rfl ?_
              refine s_iloadn (pc := 82) C dX4_isPlan_82 rfl ?_
              obtain ⟨r_1, τ_1, e_1, hf⟩ := bnd hf
              refine s_callV (pc := 83) (rest := []) C rfl (c_X4_supportOf l D ca ad N v1 σ r_1 τ_1 e_1) kv_X4_149 ⟨rfl, rfl⟩ (by decide) SH_25 ⟨_, rfl, rfl⟩ rfl rfl (Nat.le_of_ble_eq_true rfl) dX4_isPlan_83 ⟨Nat.zero_le _, Nat.zero_le _⟩ ?_
              refine s_st (st' := [.int r_1]) rfl ?_
              refine s_bipush (pc := 86) (v := 100) C dX4_isPlan_86 (by decide) ?_
              refine s_imul (pc := 88) C dX4_isPlan_88 ?_
              refine s_aloadn (pc := 89) C dX4_isPlan_89 rfl ?_
              refine s_getI (pc := 90) C fl_X4_35 SH_25 rfl dX4_isPlan_90 ?_
              refine s_aloadn (pc := 93) C dX4_isPlan_93 rfl ?_
              refine s_getR (pc := 94) (r := 36) C fl_X4_53 SH_25 rfl dX4_isPlan_94 ?_
              refine s_iloadn (pc := 97) C dX4_isPlan_97 rfl ?_
              obtain ⟨g_8, hf⟩ := gd hf
              refine s_iald (pc := 98) C SH_36 (ty0 ca) g_8 dX4_isPlan_98 ?_
              refine s_imul (pc := 99) C dX4_isPlan_99 ?_
              refine s_aloadn (pc := 100) C dX4_isPlan_100 rfl ?_
              refine s_getR (pc := 101) (r := 37) C fl_X4_56 SH_25 rfl dX4_isPlan_101 ?_
              refine s_iloadn (pc := 104) C dX4_isPlan_104 rfl ?_
              obtain ⟨g_9, hf⟩ := gd hf
              refine s_iald (pc := 105) C SH_37 (ty0 ca) g_9 dX4_isPlan_105 ?_
              refine s_imul (pc := 106) C dX4_isPlan_106 ?_
              refine s_icmp_ge (pc := 107) (tgt := 112) C dX4_isPlan_107 (by decide) (fun h_6 => ?_) (fun h_6 => ?_)
              · replace hf := ifp h_6 hf
                refine s_aloadn (pc := 112) C dX4_isPlan_112 rfl ?_
                refine s_getR (pc := 113) (r := 29) C fl_X4_26 SH_25 rfl dX4_isPlan_113 ?_
                refine s_iloadn (pc := 116) C dX4_isPlan_116 rfl ?_
                obtain ⟨g_10, hf⟩ := gd hf
                refine s_iald (pc := 117) C SH_29 (ty0 ca) g_10 dX4_isPlan_117 ?_
                refine s_if_lt (pc := 118) (tgt := 137) C dX4_isPlan_118 (by decide) (fun h_7 => ?_) (fun h_7 => ?_)
                · replace hf := ifp h_7 hf
                  refine s_iconst (pc := 137) (v := 0) C dX4_isPlan_137 (by decide) ?_
                  refine s_istoren (pc := 138) (lo' := [some (.ref (ad 25)), some (.int v1), some (.int 0)]) C dX4_isPlan_138 (Nat.le_of_ble_eq_true rfl) rfl ?_
                  refine s_few (lo' := [some (.ref (ad 25)), some (.int v1), some (.int 0)]) (lfS (lfS (lfS lf0))) ?_
                  exact w_X4_isPlan_139 C hr hlk N  r τ (fun w1 σ => lp_X4_isPlan_2 N   n w1 σ) (fun w1 σ h => ih w1 σ h) N v1 0 τ_1 hf
                · replace hf := ifn h_7 hf
                  refine s_aloadn (pc := 121) C dX4_isPlan_121 rfl ?_
                  refine s_iloadn (pc := 122) C dX4_isPlan_122 rfl ?_
                  obtain ⟨r_2, τ_2, e_2, hf⟩ := bnd hf
                  refine s_callV (pc := 123) (rest := []) C rfl (c_X4_borne l D ca ad N v1 τ_1 r_2 τ_2 e_2) kv_X4_152 ⟨rfl, rfl⟩ (by decide) SH_25 ⟨_, rfl, rfl⟩ rfl rfl (Nat.le_of_ble_eq_true rfl) dX4_isPlan_123 ⟨Nat.zero_le _, Nat.zero_le _⟩ ?_
                  refine s_st (st' := [.int r_2]) rfl ?_
                  refine s_aloadn (pc := 126) C dX4_isPlan_126 rfl ?_
                  refine s_getR (pc := 127) (r := 29) C fl_X4_26 SH_25 rfl dX4_isPlan_127 ?_
                  refine s_iloadn (pc := 130) C dX4_isPlan_130 rfl ?_
                  obtain ⟨g_11, hf⟩ := gd hf
                  refine s_iald (pc := 131) C SH_29 (ty0 ca) g_11 dX4_isPlan_131 ?_
                  refine s_icmp_le (pc := 132) (tgt := 137) C dX4_isPlan_132 (by decide) (fun h_8 => ?_) (fun h_8 => ?_)
                  · replace hf := ifp h_8 hf
                    refine s_iconst (pc := 137) (v := 0) C dX4_isPlan_137 (by decide) ?_
                    refine s_istoren (pc := 138) (lo' := [some (.ref (ad 25)), some (.int v1), some (.int 0)]) C dX4_isPlan_138 (Nat.le_of_ble_eq_true rfl) rfl ?_
                    refine s_few (lo' := [some (.ref (ad 25)), some (.int v1), some (.int 0)]) (lfS (lfS (lfS lf0))) ?_
                    exact w_X4_isPlan_139 C hr hlk N  r τ (fun w1 σ => lp_X4_isPlan_2 N   n w1 σ) (fun w1 σ h => ih w1 σ h) N v1 0 τ_2 hf
                  · replace hf := ifn h_8 hf
                    refine s_iconst (pc := 135) (v := 0) C dX4_isPlan_135 (by decide) ?_
                    exact s_zret (pc := 136) C hr hlk dX4_isPlan_136 (by decide) (congrArg (fun z => some (Value.int z)) (rt hf).1) (rt hf).2
              · replace hf := ifn h_6 hf
                refine s_iconst (pc := 110) (v := 0) C dX4_isPlan_110 (by decide) ?_
                exact s_zret (pc := 111) C hr hlk dX4_isPlan_111 (by decide) (congrArg (fun z => some (Value.int z)) (rt hf).1) (rt hf).2
            · replace hf := ifn h_5 hf
              refine s_iconst (pc := 79) (v := 0) C dX4_isPlan_79 (by decide) ?_
              exact s_zret (pc := 80) C hr hlk dX4_isPlan_80 (by decide) (congrArg (fun z => some (Value.int z)) (rt hf).1) (rt hf).2
def f_X4_isPlan (N : Nat)  (σ : St) : Option (Int32 × St) :=
  lp_X4_isPlan_2 N  N 0 σ
set_option maxRecDepth 100000 in
set_option maxHeartbeats 4000000 in
theorem c_X4_isPlan (l : Launch) (D : va_G) (ca : Nat → ClassId) (ad : Nat → Nat) (N : Nat)  (σ : St) (r : Int32) (τ : St) (hf : f_X4_isPlan N  σ = some (r, τ)) : cM l yX4_isPlan (.code yX4_isPlan cX4_isPlan 3 (some .boolean)) (rmk 4) D ca ad SH [.ref (ad 25)] σ (some (.int r)) τ := by
  refine cM.intro2 (own := RX4) (lo := [some (.ref (ad 25)), none, none]) (by decide) rfl (ccR cc0) (Nat.le_of_ble_eq_true rfl) rfl ?_
  intro p e s m args below meth c A C hr hlk
  unfold f_X4_isPlan at hf
  refine s_iconst (pc := 0) (v := 0) C dX4_isPlan_0 (by decide) ?_
  refine s_istoren (pc := 1) (lo' := [some (.ref (ad 25)), some (.int 0), none]) C dX4_isPlan_1 (Nat.le_of_ble_eq_true rfl) rfl ?_
  refine s_few (lo' := [some (.ref (ad 25)), some (.int 0), none]) (lfS (lfS (lfN lf0))) ?_
  exact w_X4_isPlan_2 C hr hlk N  r τ  N 0 σ hf
def f_X4_volume (N : Nat) (a1 : Int32) (σ : St) : Option (Int32 × St) :=
  if inb (3 * a1) 18 = true then
  if inb ((3 * a1) + 1) 18 = true then
  if inb ((3 * a1) + 2) 18 = true then
  some ((((σ 26 (ix (3 * a1))) * (σ 26 (ix ((3 * a1) + 1)))) * (σ 26 (ix ((3 * a1) + 2)))), σ)
  else none
  else none
  else none
set_option maxRecDepth 100000 in
set_option maxHeartbeats 4000000 in
theorem c_X4_volume (l : Launch) (D : va_G) (ca : Nat → ClassId) (ad : Nat → Nat) (N : Nat) (a1 : Int32) (σ : St) (r : Int32) (τ : St) (hf : f_X4_volume N a1 σ = some (r, τ)) : cM l yX4_volume (.code yX4_volume cX4_volume 2 (some .int)) (rmk 0) D ca ad SH [.ref (ad 25), .int a1] σ (some (.int r)) τ := by
  refine cM.intro2 (own := RX4) (lo := [some (.ref (ad 25)), some (.int a1)]) (by decide) rfl (ccR (ccI cc0)) (Nat.le_of_ble_eq_true rfl) rfl ?_
  intro p e s m args below meth c A C hr hlk
  unfold f_X4_volume at hf
  refine s_aloadn (pc := 0) C dX4_volume_0 rfl ?_
  refine s_getR (pc := 1) (r := 26) C fl_X4_16 SH_25 rfl dX4_volume_1 ?_
  refine s_iconst (pc := 4) (v := 3) C dX4_volume_4 (by decide) ?_
  refine s_iloadn (pc := 5) C dX4_volume_5 rfl ?_
  refine s_imul (pc := 6) C dX4_volume_6 ?_
  obtain ⟨g_1, hf⟩ := gd hf
  refine s_iald (pc := 7) C SH_26 (ty0 ca) g_1 dX4_volume_7 ?_
  refine s_aloadn (pc := 8) C dX4_volume_8 rfl ?_
  refine s_getR (pc := 9) (r := 26) C fl_X4_16 SH_25 rfl dX4_volume_9 ?_
  refine s_iconst (pc := 12) (v := 3) C dX4_volume_12 (by decide) ?_
  refine s_iloadn (pc := 13) C dX4_volume_13 rfl ?_
  refine s_imul (pc := 14) C dX4_volume_14 ?_
  refine s_iconst (pc := 15) (v := 1) C dX4_volume_15 (by decide) ?_
  refine s_iadd (pc := 16) C dX4_volume_16 ?_
  obtain ⟨g_2, hf⟩ := gd hf
  refine s_iald (pc := 17) C SH_26 (ty0 ca) g_2 dX4_volume_17 ?_
  refine s_imul (pc := 18) C dX4_volume_18 ?_
  refine s_aloadn (pc := 19) C dX4_volume_19 rfl ?_
  refine s_getR (pc := 20) (r := 26) C fl_X4_16 SH_25 rfl dX4_volume_20 ?_
  refine s_iconst (pc := 23) (v := 3) C dX4_volume_23 (by decide) ?_
  refine s_iloadn (pc := 24) C dX4_volume_24 rfl ?_
  refine s_imul (pc := 25) C dX4_volume_25 ?_
  refine s_iconst (pc := 26) (v := 2) C dX4_volume_26 (by decide) ?_
  refine s_iadd (pc := 27) C dX4_volume_27 ?_
  obtain ⟨g_3, hf⟩ := gd hf
  refine s_iald (pc := 28) C SH_26 (ty0 ca) g_3 dX4_volume_28 ?_
  refine s_imul (pc := 29) C dX4_volume_29 ?_
  exact s_iret (pc := 30) C hr hlk dX4_volume_30 (congrArg (fun z => some (Value.int z)) (rt hf).1) (rt hf).2
def lp_X4_volumeNow_4 (N : Nat)  : Nat → Int32 → Int32 → St → Option (Int32 × St)
  | 0, _, _, _ => none
  | n + 1, v1, v2, σ =>
    if (σ 25 4) ≤ v2 then
      some (v1, σ)
    else
      if inb v2 6 = true then
      if (σ 32 (ix v2)) < 0 then
        lp_X4_volumeNow_4 N   n (v1 + 0) (v2 + 1) σ
      else
        bn (f_X4_volume N v2 σ) fun r_1 τ_1 =>
        lp_X4_volumeNow_4 N   n (v1 + r_1) (v2 + 1) τ_1
      else none
set_option maxRecDepth 100000 in
set_option maxHeartbeats 4000000 in
theorem w_X4_volumeNow_4 {l : Launch} {D : va_G} {ca : Nat → ClassId} {ad : Nat → Nat} {p : Program} {e : Env} {s : State} {m : MethodId} {args : Array Value} {below : List Frame} {meth : Method} {c : Code} {A : Nat → Prop} (C : CX p s m args c D ca A RX4 cX4_volumeNow 3) (hr : meth.sig.returnType = (some .int)) (hlk : meth.locks = false) (N : Nat)  (r : Int32) (τ : St)  : ∀ (n : Nat) (v1 v2 : Int32) (σ : St), lp_X4_volumeNow_4 N   n v1 v2 σ = some (r, τ) → WW p l e (rmk 1) s m args below meth c 0 0 (EQ D ca ad SH A below args s (some (.int r)) τ) A D ca ad SH 4 [some (.ref (ad 25)), some (.int v1), some (.int v2)] [] σ := by
  intro n
  induction n with
  | zero => intro v1 v2 σ hf; cases hf
  | succ n ih =>
    intro v1 v2 σ hf
    rw [lp_X4_volumeNow_4] at hf
    refine s_iloadn (pc := 4) C dX4_volumeNow_4 rfl ?_
    refine s_aloadn (pc := 5) C dX4_volumeNow_5 rfl ?_
    refine s_getI (pc := 6) C fl_X4_13 SH_25 rfl dX4_volumeNow_6 ?_
    refine s_icmp_ge (pc := 9) (tgt := 39) C dX4_volumeNow_9 (by decide) (fun h_1 => ?_) (fun h_1 => ?_)
    · replace hf := ifp h_1 hf
      refine s_iloadn (pc := 39) C dX4_volumeNow_39 rfl ?_
      exact s_iret (pc := 40) C hr hlk dX4_volumeNow_40 (congrArg (fun z => some (Value.int z)) (rt hf).1) (rt hf).2
    · replace hf := ifn h_1 hf
      refine s_iloadn (pc := 12) C dX4_volumeNow_12 rfl ?_
      refine s_aloadn (pc := 13) C dX4_volumeNow_13 rfl ?_
      refine s_getR (pc := 14) (r := 32) C fl_X4_41 SH_25 rfl dX4_volumeNow_14 ?_
      refine s_iloadn (pc := 17) C dX4_volumeNow_17 rfl ?_
      obtain ⟨g_1, hf⟩ := gd hf
      refine s_iald (pc := 18) C SH_32 (ty0 ca) g_1 dX4_volumeNow_18 ?_
      refine s_if_lt (pc := 19) (tgt := 30) C dX4_volumeNow_19 (by decide) (fun h_2 => ?_) (fun h_2 => ?_)
      · replace hf := ifp h_2 hf
        refine s_iconst (pc := 30) (v := 0) C dX4_volumeNow_30 (by decide) ?_
        refine s_iadd (pc := 31) C dX4_volumeNow_31 ?_
        refine s_istoren (pc := 32) (lo' := [some (.ref (ad 25)), some (.int (v1 + 0)), some (.int v2)]) C dX4_volumeNow_32 (Nat.le_of_ble_eq_true rfl) rfl ?_
        refine s_iinc (pc := 33) (v := (v2 + 1)) (lo' := [some (.ref (ad 25)), some (.int (v1 + 0)), some (.int (v2 + 1))]) C dX4_volumeNow_33 rfl rfl rfl ?_
        refine s_goto (pc := 36) (tgt := 4) C dX4_volumeNow_36 (by decide) ?_
        refine s_few (lo' := [some (.ref (ad 25)), some (.int (v1 + 0)), some (.int (v2 + 1))]) (lfS (lfS (lfS lf0))) ?_
        exact ih (v1 + 0) (v2 + 1) σ hf
      · replace hf := ifn h_2 hf
        refine s_aloadn (pc := 22) C dX4_volumeNow_22 rfl ?_
        refine s_iloadn (pc := 23) C dX4_volumeNow_23 rfl ?_
        obtain ⟨r_1, τ_1, e_1, hf⟩ := bnd hf
        refine s_callV (pc := 24) (rest := [.int v1]) C rfl (c_X4_volume l D ca ad N v2 σ r_1 τ_1 e_1) kv_X4_155 ⟨rfl, rfl⟩ (by decide) SH_25 ⟨_, rfl, rfl⟩ rfl rfl (Nat.le_of_ble_eq_true rfl) dX4_volumeNow_24 ⟨Nat.zero_le _, Nat.zero_le _⟩ ?_
        refine s_st (st' := [.int r_1, .int v1]) rfl ?_
        refine s_goto (pc := 27) (tgt := 31) C dX4_volumeNow_27 (by decide) ?_
        refine s_iadd (pc := 31) C dX4_volumeNow_31 ?_
        refine s_istoren (pc := 32) (lo' := [some (.ref (ad 25)), some (.int (v1 + r_1)), some (.int v2)]) C dX4_volumeNow_32 (Nat.le_of_ble_eq_true rfl) rfl ?_
        refine s_iinc (pc := 33) (v := (v2 + 1)) (lo' := [some (.ref (ad 25)), some (.int (v1 + r_1)), some (.int (v2 + 1))]) C dX4_volumeNow_33 rfl rfl rfl ?_
        refine s_goto (pc := 36) (tgt := 4) C dX4_volumeNow_36 (by decide) ?_
        refine s_few (lo' := [some (.ref (ad 25)), some (.int (v1 + r_1)), some (.int (v2 + 1))]) (lfS (lfS (lfS lf0))) ?_
        exact ih (v1 + r_1) (v2 + 1) τ_1 hf
def f_X4_volumeNow (N : Nat)  (σ : St) : Option (Int32 × St) :=
  lp_X4_volumeNow_4 N  N 0 0 σ
set_option maxRecDepth 100000 in
set_option maxHeartbeats 4000000 in
theorem c_X4_volumeNow (l : Launch) (D : va_G) (ca : Nat → ClassId) (ad : Nat → Nat) (N : Nat)  (σ : St) (r : Int32) (τ : St) (hf : f_X4_volumeNow N  σ = some (r, τ)) : cM l yX4_volumeNow (.code yX4_volumeNow cX4_volumeNow 3 (some .int)) (rmk 1) D ca ad SH [.ref (ad 25)] σ (some (.int r)) τ := by
  refine cM.intro2 (own := RX4) (lo := [some (.ref (ad 25)), none, none]) (by decide) rfl (ccR cc0) (Nat.le_of_ble_eq_true rfl) rfl ?_
  intro p e s m args below meth c A C hr hlk
  unfold f_X4_volumeNow at hf
  refine s_iconst (pc := 0) (v := 0) C dX4_volumeNow_0 (by decide) ?_
  refine s_istoren (pc := 1) (lo' := [some (.ref (ad 25)), some (.int 0), none]) C dX4_volumeNow_1 (Nat.le_of_ble_eq_true rfl) rfl ?_
  refine s_iconst (pc := 2) (v := 0) C dX4_volumeNow_2 (by decide) ?_
  refine s_istoren (pc := 3) (lo' := [some (.ref (ad 25)), some (.int 0), some (.int 0)]) C dX4_volumeNow_3 (Nat.le_of_ble_eq_true rfl) rfl ?_
  refine s_few (lo' := [some (.ref (ad 25)), some (.int 0), some (.int 0)]) (lfS (lfS (lfS lf0))) ?_
  exact w_X4_volumeNow_4 C hr hlk N  r τ  N 0 0 σ hf
def lp_X4_findOrder_29 (N : Nat)  (k7 : Int32 → St → Option (St)) : Nat → Int32 → Int32 → St → Option (St)
  | 0, _, _, _ => none
  | n + 1, v1, v2, σ =>
    if v2 ≤ 0 then
      if inb v2 6 = true then
      k7 (v1 + 1) (su (su σ 43 (ix v2) v1) 25 28 (((su σ 43 (ix v2) v1) 25 28) + 1))
      else none
    else
      if inb (v2 - 1) 6 = true then
      if inb (σ 43 (ix (v2 - 1))) 6 = true then
      if inb v1 6 = true then
      if (σ 30 (ix (σ 43 (ix (v2 - 1))))) ≤ (σ 30 (ix v1)) then
        if inb v2 6 = true then
        k7 (v1 + 1) (su (su σ 43 (ix v2) v1) 25 28 (((su σ 43 (ix v2) v1) 25 28) + 1))
        else none
      else
        if inb (v2 - 1) 6 = true then
        if inb v2 6 = true then
        lp_X4_findOrder_29 N  k7 n v1 (v2 + (-1)) (su σ 43 (ix v2) (σ 43 (ix (v2 - 1))))
        else none
        else none
      else none
      else none
      else none
set_option maxRecDepth 100000 in
set_option maxHeartbeats 4000000 in
theorem w_X4_findOrder_29 {l : Launch} {D : va_G} {ca : Nat → ClassId} {ad : Nat → Nat} {p : Program} {e : Env} {s : State} {m : MethodId} {args : Array Value} {below : List Frame} {meth : Method} {c : Code} {A : Nat → Prop} (C : CX p s m args c D ca A RX4 cX4_findOrder 3) (hr : meth.sig.returnType = none) (hlk : meth.locks = false) (N : Nat)  (τ : St) (k7 : Int32 → St → Option (St))  (hk7 : ∀ (w1 : Int32) (σ : St), k7 w1 σ = some τ → WW p l e (rmk 0) s m args below meth c 0 0 (EQ D ca ad SH A below args s none τ) A D ca ad SH 7 [some (.ref (ad 25)), some (.int w1), none] [] σ) : ∀ (n : Nat) (v1 v2 : Int32) (σ : St), lp_X4_findOrder_29 N  k7 n v1 v2 σ = some τ → WW p l e (rmk 0) s m args below meth c 0 0 (EQ D ca ad SH A below args s none τ) A D ca ad SH 29 [some (.ref (ad 25)), some (.int v1), some (.int v2)] [] σ := by
  intro n
  induction n with
  | zero => intro v1 v2 σ hf; cases hf
  | succ n ih =>
    intro v1 v2 σ hf
    rw [lp_X4_findOrder_29] at hf
    refine s_iloadn (pc := 29) C dX4_findOrder_29 rfl ?_
    refine s_if_le (pc := 30) (tgt := 75) C dX4_findOrder_30 (by decide) (fun h_1 => ?_) (fun h_1 => ?_)
    · replace hf := ifp h_1 hf
      refine s_aloadn (pc := 75) C dX4_findOrder_75 rfl ?_
      refine s_getR (pc := 76) (r := 43) C fl_X4_90 SH_25 rfl dX4_findOrder_76 ?_
      refine s_iloadn (pc := 79) C dX4_findOrder_79 rfl ?_
      refine s_iloadn (pc := 80) C dX4_findOrder_80 rfl ?_
      obtain ⟨g_1, hf⟩ := gd hf
      refine s_iast (pc := 81) C SH_43 (ty0 ca) g_1 dX4_findOrder_81 ?_
      refine s_aloadn (pc := 82) C dX4_findOrder_82 rfl ?_
      refine s_dup (pc := 83) C dX4_findOrder_83 rfl ?_
      refine s_getI (pc := 84) C fl_X4_87 SH_25 rfl dX4_findOrder_84 ?_
      refine s_iconst (pc := 87) (v := 1) C dX4_findOrder_87 (by decide) ?_
      refine s_iadd (pc := 88) C dX4_findOrder_88 ?_
      refine s_putI (pc := 89) C fp_X4_87 SH_25 rfl dX4_findOrder_89 ?_
      refine s_iinc (pc := 92) (v := (v1 + 1)) (lo' := [some (.ref (ad 25)), some (.int (v1 + 1)), some (.int v2)]) C dX4_findOrder_92 rfl rfl rfl ?_
      refine s_goto (pc := 95) (tgt := 7) C dX4_findOrder_95 (by decide) ?_
      refine s_few (lo' := [some (.ref (ad 25)), some (.int (v1 + 1)), none]) (lfS (lfS (lfN lf0))) ?_
      exact hk7 (v1 + 1) (su (su σ 43 (ix v2) v1) 25 28 (((su σ 43 (ix v2) v1) 25 28) + 1)) hf
    · replace hf := ifn h_1 hf
      refine s_aloadn (pc := 33) C dX4_findOrder_33 rfl ?_
      refine s_getR (pc := 34) (r := 30) C fl_X4_29 SH_25 rfl dX4_findOrder_34 ?_
      refine s_aloadn (pc := 37) C dX4_findOrder_37 rfl ?_
      refine s_getR (pc := 38) (r := 43) C fl_X4_90 SH_25 rfl dX4_findOrder_38 ?_
      refine s_iloadn (pc := 41) C dX4_findOrder_41 rfl ?_
      refine s_iconst (pc := 42) (v := 1) C dX4_findOrder_42 (by decide) ?_
      refine s_isub (pc := 43) C dX4_findOrder_43 ?_
      obtain ⟨g_2, hf⟩ := gd hf
      refine s_iald (pc := 44) C SH_43 (ty0 ca) g_2 dX4_findOrder_44 ?_
      obtain ⟨g_3, hf⟩ := gd hf
      refine s_iald (pc := 45) C SH_30 (ty0 ca) g_3 dX4_findOrder_45 ?_
      refine s_aloadn (pc := 46) C dX4_findOrder_46 rfl ?_
      refine s_getR (pc := 47) (r := 30) C fl_X4_29 SH_25 rfl dX4_findOrder_47 ?_
      refine s_iloadn (pc := 50) C dX4_findOrder_50 rfl ?_
      obtain ⟨g_4, hf⟩ := gd hf
      refine s_iald (pc := 51) C SH_30 (ty0 ca) g_4 dX4_findOrder_51 ?_
      refine s_icmp_le (pc := 52) (tgt := 75) C dX4_findOrder_52 (by decide) (fun h_2 => ?_) (fun h_2 => ?_)
      · replace hf := ifp h_2 hf
        refine s_aloadn (pc := 75) C dX4_findOrder_75 rfl ?_
        refine s_getR (pc := 76) (r := 43) C fl_X4_90 SH_25 rfl dX4_findOrder_76 ?_
        refine s_iloadn (pc := 79) C dX4_findOrder_79 rfl ?_
        refine s_iloadn (pc := 80) C dX4_findOrder_80 rfl ?_
        obtain ⟨g_5, hf⟩ := gd hf
        refine s_iast (pc := 81) C SH_43 (ty0 ca) g_5 dX4_findOrder_81 ?_
        refine s_aloadn (pc := 82) C dX4_findOrder_82 rfl ?_
        refine s_dup (pc := 83) C dX4_findOrder_83 rfl ?_
        refine s_getI (pc := 84) C fl_X4_87 SH_25 rfl dX4_findOrder_84 ?_
        refine s_iconst (pc := 87) (v := 1) C dX4_findOrder_87 (by decide) ?_
        refine s_iadd (pc := 88) C dX4_findOrder_88 ?_
        refine s_putI (pc := 89) C fp_X4_87 SH_25 rfl dX4_findOrder_89 ?_
        refine s_iinc (pc := 92) (v := (v1 + 1)) (lo' := [some (.ref (ad 25)), some (.int (v1 + 1)), some (.int v2)]) C dX4_findOrder_92 rfl rfl rfl ?_
        refine s_goto (pc := 95) (tgt := 7) C dX4_findOrder_95 (by decide) ?_
        refine s_few (lo' := [some (.ref (ad 25)), some (.int (v1 + 1)), none]) (lfS (lfS (lfN lf0))) ?_
        exact hk7 (v1 + 1) (su (su σ 43 (ix v2) v1) 25 28 (((su σ 43 (ix v2) v1) 25 28) + 1)) hf
      · replace hf := ifn h_2 hf
        refine s_aloadn (pc := 55) C dX4_findOrder_55 rfl ?_
        refine s_getR (pc := 56) (r := 43) C fl_X4_90 SH_25 rfl dX4_findOrder_56 ?_
        refine s_iloadn (pc := 59) C dX4_findOrder_59 rfl ?_
        refine s_aloadn (pc := 60) C dX4_findOrder_60 rfl ?_
        refine s_getR (pc := 61) (r := 43) C fl_X4_90 SH_25 rfl dX4_findOrder_61 ?_
        refine s_iloadn (pc := 64) C dX4_findOrder_64 rfl ?_
        refine s_iconst (pc := 65) (v := 1) C dX4_findOrder_65 (by decide) ?_
        refine s_isub (pc := 66) C dX4_findOrder_66 ?_
        obtain ⟨g_6, hf⟩ := gd hf
        refine s_iald (pc := 67) C SH_43 (ty0 ca) g_6 dX4_findOrder_67 ?_
        obtain ⟨g_7, hf⟩ := gd hf
        refine s_iast (pc := 68) C SH_43 (ty0 ca) g_7 dX4_findOrder_68 ?_
        refine s_iinc (pc := 69) (v := (v2 + (-1))) (lo' := [some (.ref (ad 25)), some (.int v1), some (.int (v2 + (-1)))]) C dX4_findOrder_69 rfl rfl rfl ?_
        refine s_goto (pc := 72) (tgt := 29) C dX4_findOrder_72 (by decide) ?_
        refine s_few (lo' := [some (.ref (ad 25)), some (.int v1), some (.int (v2 + (-1)))]) (lfS (lfS (lfS lf0))) ?_
        exact ih v1 (v2 + (-1)) (su σ 43 (ix v2) (σ 43 (ix (v2 - 1)))) hf
def lp_X4_findOrder_7 (N : Nat)  : Nat → Int32 → St → Option (St)
  | 0, _, _ => none
  | n + 1, v1, σ =>
    if (σ 25 4) ≤ v1 then
      some σ
    else
      if inb v1 6 = true then
      if 0 ≤ (σ 31 (ix v1)) then
        lp_X4_findOrder_7 N   n (v1 + 1) σ
      else
        lp_X4_findOrder_29 N  (fun w1 σ => lp_X4_findOrder_7 N   n w1 σ) N v1 (σ 25 28) σ
      else none
set_option maxRecDepth 100000 in
set_option maxHeartbeats 4000000 in
theorem w_X4_findOrder_7 {l : Launch} {D : va_G} {ca : Nat → ClassId} {ad : Nat → Nat} {p : Program} {e : Env} {s : State} {m : MethodId} {args : Array Value} {below : List Frame} {meth : Method} {c : Code} {A : Nat → Prop} (C : CX p s m args c D ca A RX4 cX4_findOrder 3) (hr : meth.sig.returnType = none) (hlk : meth.locks = false) (N : Nat)  (τ : St)  : ∀ (n : Nat) (v1 : Int32) (σ : St), lp_X4_findOrder_7 N   n v1 σ = some τ → WW p l e (rmk 0) s m args below meth c 0 0 (EQ D ca ad SH A below args s none τ) A D ca ad SH 7 [some (.ref (ad 25)), some (.int v1), none] [] σ := by
  intro n
  induction n with
  | zero => intro v1 σ hf; cases hf
  | succ n ih =>
    intro v1 σ hf
    rw [lp_X4_findOrder_7] at hf
    refine s_iloadn (pc := 7) C dX4_findOrder_7 rfl ?_
    refine s_aloadn (pc := 8) C dX4_findOrder_8 rfl ?_
    refine s_getI (pc := 9) C fl_X4_13 SH_25 rfl dX4_findOrder_9 ?_
    refine s_icmp_ge (pc := 12) (tgt := 98) C dX4_findOrder_12 (by decide) (fun h_1 => ?_) (fun h_1 => ?_)
    · replace hf := ifp h_1 hf
      exact s_vret (pc := 98) C hr hlk dX4_findOrder_98 rfl (rtv hf)
    · replace hf := ifn h_1 hf
      refine s_aloadn (pc := 15) C dX4_findOrder_15 rfl ?_
      refine s_getR (pc := 16) (r := 31) C fl_X4_32 SH_25 rfl dX4_findOrder_16 ?_
      refine s_iloadn (pc := 19) C dX4_findOrder_19 rfl ?_
      obtain ⟨g_1, hf⟩ := gd hf
      refine s_iald (pc := 20) C SH_31 (ty0 ca) g_1 dX4_findOrder_20 ?_
      refine s_if_ge (pc := 21) (tgt := 92) C dX4_findOrder_21 (by decide) (fun h_2 => ?_) (fun h_2 => ?_)
      · replace hf := ifp h_2 hf
        refine s_iinc (pc := 92) (v := (v1 + 1)) (lo' := [some (.ref (ad 25)), some (.int (v1 + 1)), none]) C dX4_findOrder_92 rfl rfl rfl ?_
        refine s_goto (pc := 95) (tgt := 7) C dX4_findOrder_95 (by decide) ?_
        refine s_few (lo' := [some (.ref (ad 25)), some (.int (v1 + 1)), none]) (lfS (lfS (lfN lf0))) ?_
        exact ih (v1 + 1) σ hf
      · replace hf := ifn h_2 hf
        refine s_aloadn (pc := 24) C dX4_findOrder_24 rfl ?_
        refine s_getI (pc := 25) C fl_X4_87 SH_25 rfl dX4_findOrder_25 ?_
        refine s_istoren (pc := 28) (lo' := [some (.ref (ad 25)), some (.int v1), some (.int (σ 25 28))]) C dX4_findOrder_28 (Nat.le_of_ble_eq_true rfl) rfl ?_
        refine s_few (lo' := [some (.ref (ad 25)), some (.int v1), some (.int (σ 25 28))]) (lfS (lfS (lfS lf0))) ?_
        exact w_X4_findOrder_29 C hr hlk N  τ (fun w1 σ => lp_X4_findOrder_7 N   n w1 σ) (fun w1 σ h => ih w1 σ h) N v1 (σ 25 28) σ hf
def f_X4_findOrder (N : Nat)  (σ : St) : Option (St) :=
  lp_X4_findOrder_7 N  N 0 (su σ 25 28 0)
set_option maxRecDepth 100000 in
set_option maxHeartbeats 4000000 in
theorem c_X4_findOrder (l : Launch) (D : va_G) (ca : Nat → ClassId) (ad : Nat → Nat) (N : Nat)  (σ : St) (τ : St) (hf : f_X4_findOrder N  σ = some τ) : cM l yX4_findOrder (.code yX4_findOrder cX4_findOrder 3 none) (rmk 0) D ca ad SH [.ref (ad 25)] σ none τ := by
  refine cM.intro2 (own := RX4) (lo := [some (.ref (ad 25)), none, none]) (by decide) rfl (ccR cc0) (Nat.le_of_ble_eq_true rfl) rfl ?_
  intro p e s m args below meth c A C hr hlk
  unfold f_X4_findOrder at hf
  refine s_aloadn (pc := 0) C dX4_findOrder_0 rfl ?_
  refine s_iconst (pc := 1) (v := 0) C dX4_findOrder_1 (by decide) ?_
  refine s_putI (pc := 2) C fp_X4_87 SH_25 rfl dX4_findOrder_2 ?_
  refine s_iconst (pc := 5) (v := 0) C dX4_findOrder_5 (by decide) ?_
  refine s_istoren (pc := 6) (lo' := [some (.ref (ad 25)), some (.int 0), none]) C dX4_findOrder_6 (Nat.le_of_ble_eq_true rfl) rfl ?_
  refine s_few (lo' := [some (.ref (ad 25)), some (.int 0), none]) (lfS (lfS (lfN lf0))) ?_
  exact w_X4_findOrder_7 C hr hlk N  τ  N 0 (su σ 25 28 0) hf
def lp_X4_end_59 (N : Nat) (a1 : Int32) (a2 : Int32) (a3 : Int32) : Nat → Int32 → Int32 → Int32 → Int32 → Int32 → Int32 → St → Option (St)
  | 0, _, _, _, _, _, _, _ => none
  | n + 1, v1, v2, v3, v4, v5, v6, σ =>
    if v6 ≤ 0 then
      if inb (v4 + v6) 168 = true then
      if inb ((7 * v2) + v1) 21 = true then
      some (su (su σ 48 (ix (v4 + v6)) v3) 49 (ix ((7 * v2) + v1)) (v5 + 1))
      else none
      else none
    else
      if inb ((v4 + v6) - 1) 168 = true then
      if (σ 48 (ix ((v4 + v6) - 1))) ≤ v3 then
        if inb (v4 + v6) 168 = true then
        if inb ((7 * v2) + v1) 21 = true then
        some (su (su σ 48 (ix (v4 + v6)) v3) 49 (ix ((7 * v2) + v1)) (v5 + 1))
        else none
        else none
      else
        if inb ((v4 + v6) - 1) 168 = true then
        if inb (v4 + v6) 168 = true then
        lp_X4_end_59 N a1 a2 a3  n v1 v2 v3 v4 v5 (v6 + (-1)) (su σ 48 (ix (v4 + v6)) (σ 48 (ix ((v4 + v6) - 1))))
        else none
        else none
      else none
set_option maxRecDepth 100000 in
set_option maxHeartbeats 4000000 in
theorem w_X4_end_59 {l : Launch} {D : va_G} {ca : Nat → ClassId} {ad : Nat → Nat} {p : Program} {e : Env} {s : State} {m : MethodId} {args : Array Value} {below : List Frame} {meth : Method} {c : Code} {A : Nat → Prop} (C : CX p s m args c D ca A RX4 cX4_end 7) (hr : meth.sig.returnType = none) (hlk : meth.locks = false) (N : Nat) (a1 : Int32) (a2 : Int32) (a3 : Int32) (τ : St)  : ∀ (n : Nat) (v1 v2 v3 v4 v5 v6 : Int32) (σ : St), lp_X4_end_59 N a1 a2 a3  n v1 v2 v3 v4 v5 v6 σ = some τ → WW p l e (rmk 0) s m args below meth c 0 0 (EQ D ca ad SH A below args s none τ) A D ca ad SH 59 [some (.ref (ad 25)), some (.int v1), some (.int v2), some (.int v3), some (.int v4), some (.int v5), some (.int v6)] [] σ := by
  intro n
  induction n with
  | zero => intro v1 v2 v3 v4 v5 v6 σ hf; cases hf
  | succ n ih =>
    intro v1 v2 v3 v4 v5 v6 σ hf
    rw [lp_X4_end_59] at hf
    refine s_iload (pc := 59) C dX4_end_59 rfl ?_
    refine s_if_le (pc := 61) (tgt := 108) C dX4_end_61 (by decide) (fun h_1 => ?_) (fun h_1 => ?_)
    · replace hf := ifp h_1 hf
      refine s_aloadn (pc := 108) C dX4_end_108 rfl ?_
      refine s_getR (pc := 109) (r := 48) C fl_X4_105 SH_25 rfl dX4_end_109 ?_
      refine s_iload (pc := 112) C dX4_end_112 rfl ?_
      refine s_iload (pc := 114) C dX4_end_114 rfl ?_
      refine s_iadd (pc := 116) C dX4_end_116 ?_
      refine s_iloadn (pc := 117) C dX4_end_117 rfl ?_
      obtain ⟨g_1, hf⟩ := gd hf
      refine s_iast (pc := 118) C SH_48 (ty0 ca) g_1 dX4_end_118 ?_
      refine s_aloadn (pc := 119) C dX4_end_119 rfl ?_
      refine s_getR (pc := 120) (r := 49) C fl_X4_108 SH_25 rfl dX4_end_120 ?_
      refine s_bipush (pc := 123) (v := 7) C dX4_end_123 (by decide) ?_
      refine s_iloadn (pc := 125) C dX4_end_125 rfl ?_
      refine s_imul (pc := 126) C dX4_end_126 ?_
      refine s_iloadn (pc := 127) C dX4_end_127 rfl ?_
      refine s_iadd (pc := 128) C dX4_end_128 ?_
      refine s_iload (pc := 129) C dX4_end_129 rfl ?_
      refine s_iconst (pc := 131) (v := 1) C dX4_end_131 (by decide) ?_
      refine s_iadd (pc := 132) C dX4_end_132 ?_
      obtain ⟨g_2, hf⟩ := gd hf
      refine s_iast (pc := 133) C SH_49 (ty0 ca) g_2 dX4_end_133 ?_
      exact s_vret (pc := 134) C hr hlk dX4_end_134 rfl (rtv hf)
    · replace hf := ifn h_1 hf
      refine s_aloadn (pc := 64) C dX4_end_64 rfl ?_
      refine s_getR (pc := 65) (r := 48) C fl_X4_105 SH_25 rfl dX4_end_65 ?_
      refine s_iload (pc := 68) C dX4_end_68 rfl ?_
      refine s_iload (pc := 70) C dX4_end_70 rfl ?_
      refine s_iadd (pc := 72) C dX4_end_72 ?_
      refine s_iconst (pc := 73) (v := 1) C dX4_end_73 (by decide) ?_
      refine s_isub (pc := 74) C dX4_end_74 ?_
      obtain ⟨g_3, hf⟩ := gd hf
      refine s_iald (pc := 75) C SH_48 (ty0 ca) g_3 dX4_end_75 ?_
      refine s_iloadn (pc := 76) C dX4_end_76 rfl ?_
      refine s_icmp_le (pc := 77) (tgt := 108) C dX4_end_77 (by decide) (fun h_2 => ?_) (fun h_2 => ?_)
      · replace hf := ifp h_2 hf
        refine s_aloadn (pc := 108) C dX4_end_108 rfl ?_
        refine s_getR (pc := 109) (r := 48) C fl_X4_105 SH_25 rfl dX4_end_109 ?_
        refine s_iload (pc := 112) C dX4_end_112 rfl ?_
        refine s_iload (pc := 114) C dX4_end_114 rfl ?_
        refine s_iadd (pc := 116) C dX4_end_116 ?_
        refine s_iloadn (pc := 117) C dX4_end_117 rfl ?_
        obtain ⟨g_4, hf⟩ := gd hf
        refine s_iast (pc := 118) C SH_48 (ty0 ca) g_4 dX4_end_118 ?_
        refine s_aloadn (pc := 119) C dX4_end_119 rfl ?_
        refine s_getR (pc := 120) (r := 49) C fl_X4_108 SH_25 rfl dX4_end_120 ?_
        refine s_bipush (pc := 123) (v := 7) C dX4_end_123 (by decide) ?_
        refine s_iloadn (pc := 125) C dX4_end_125 rfl ?_
        refine s_imul (pc := 126) C dX4_end_126 ?_
        refine s_iloadn (pc := 127) C dX4_end_127 rfl ?_
        refine s_iadd (pc := 128) C dX4_end_128 ?_
        refine s_iload (pc := 129) C dX4_end_129 rfl ?_
        refine s_iconst (pc := 131) (v := 1) C dX4_end_131 (by decide) ?_
        refine s_iadd (pc := 132) C dX4_end_132 ?_
        obtain ⟨g_5, hf⟩ := gd hf
        refine s_iast (pc := 133) C SH_49 (ty0 ca) g_5 dX4_end_133 ?_
        exact s_vret (pc := 134) C hr hlk dX4_end_134 rfl (rtv hf)
      · replace hf := ifn h_2 hf
        refine s_aloadn (pc := 80) C dX4_end_80 rfl ?_
        refine s_getR (pc := 81) (r := 48) C fl_X4_105 SH_25 rfl dX4_end_81 ?_
        refine s_iload (pc := 84) C dX4_end_84 rfl ?_
        refine s_iload (pc := 86) C dX4_end_86 rfl ?_
        refine s_iadd (pc := 88) C dX4_end_88 ?_
        refine s_aloadn (pc := 89) C dX4_end_89 rfl ?_
        refine s_getR (pc := 90) (r := 48) C fl_X4_105 SH_25 rfl dX4_end_90 ?_
        refine s_iload (pc := 93) C dX4_end_93 rfl ?_
        refine s_iload (pc := 95) C dX4_end_95 rfl ?_
        refine s_iadd (pc := 97) C dX4_end_97 ?_
        refine s_iconst (pc := 98) (v := 1) C dX4_end_98 (by decide) ?_
        refine s_isub (pc := 99) C dX4_end_99 ?_
        obtain ⟨g_6, hf⟩ := gd hf
        refine s_iald (pc := 100) C SH_48 (ty0 ca) g_6 dX4_end_100 ?_
        obtain ⟨g_7, hf⟩ := gd hf
        refine s_iast (pc := 101) C SH_48 (ty0 ca) g_7 dX4_end_101 ?_
        refine s_iinc (pc := 102) (v := (v6 + (-1))) (lo' := [some (.ref (ad 25)), some (.int v1), some (.int v2), some (.int v3), some (.int v4), some (.int v5), some (.int (v6 + (-1)))]) C dX4_end_102 rfl rfl rfl ?_
        refine s_goto (pc := 105) (tgt := 59) C dX4_end_105 (by decide) ?_
        refine s_few (lo' := [some (.ref (ad 25)), some (.int v1), some (.int v2), some (.int v3), some (.int v4), some (.int v5), some (.int (v6 + (-1)))]) (lfS (lfS (lfS (lfS (lfS (lfS (lfS lf0))))))) ?_
        exact ih v1 v2 v3 v4 v5 (v6 + (-1)) (su σ 48 (ix (v4 + v6)) (σ 48 (ix ((v4 + v6) - 1)))) hf
def lp_X4_end_27 (N : Nat) (a1 : Int32) (a2 : Int32) (a3 : Int32) : Nat → Int32 → Int32 → Int32 → Int32 → Int32 → Int32 → St → Option (St)
  | 0, _, _, _, _, _, _, _ => none
  | n + 1, v1, v2, v3, v4, v5, v6, σ =>
    if v5 ≤ v6 then
      lp_X4_end_59 N a1 a2 a3 N v1 v2 v3 v4 v5 v5 σ
    else
      if inb (v4 + v6) 168 = true then
      if (σ 48 (ix (v4 + v6))) = v3 then
        some σ
      else
        lp_X4_end_27 N a1 a2 a3  n v1 v2 v3 v4 v5 (v6 + 1) σ
      else none
set_option maxRecDepth 100000 in
set_option maxHeartbeats 4000000 in
theorem w_X4_end_27 {l : Launch} {D : va_G} {ca : Nat → ClassId} {ad : Nat → Nat} {p : Program} {e : Env} {s : State} {m : MethodId} {args : Array Value} {below : List Frame} {meth : Method} {c : Code} {A : Nat → Prop} (C : CX p s m args c D ca A RX4 cX4_end 7) (hr : meth.sig.returnType = none) (hlk : meth.locks = false) (N : Nat) (a1 : Int32) (a2 : Int32) (a3 : Int32) (τ : St)  : ∀ (n : Nat) (v1 v2 v3 v4 v5 v6 : Int32) (σ : St), lp_X4_end_27 N a1 a2 a3  n v1 v2 v3 v4 v5 v6 σ = some τ → WW p l e (rmk 0) s m args below meth c 0 0 (EQ D ca ad SH A below args s none τ) A D ca ad SH 27 [some (.ref (ad 25)), some (.int v1), some (.int v2), some (.int v3), some (.int v4), some (.int v5), some (.int v6)] [] σ := by
  intro n
  induction n with
  | zero => intro v1 v2 v3 v4 v5 v6 σ hf; cases hf
  | succ n ih =>
    intro v1 v2 v3 v4 v5 v6 σ hf
    rw [lp_X4_end_27] at hf
    refine s_iload (pc := 27) C dX4_end_27 rfl ?_
    refine s_iload (pc := 29) C dX4_end_29 rfl ?_
    refine s_icmp_ge (pc := 31) (tgt := 55) C dX4_end_31 (by decide) (fun h_1 => ?_) (fun h_1 => ?_)
    · replace hf := ifp h_1 hf
      refine s_iload (pc := 55) C dX4_end_55 rfl ?_
      refine s_istore (pc := 57) (lo' := [some (.ref (ad 25)), some (.int v1), some (.int v2), some (.int v3), some (.int v4), some (.int v5), some (.int v5)]) C dX4_end_57 (Nat.le_of_ble_eq_true rfl) rfl ?_
      refine s_few (lo' := [some (.ref (ad 25)), some (.int v1), some (.int v2), some (.int v3), some (.int v4), some (.int v5), some (.int v5)]) (lfS (lfS (lfS (lfS (lfS (lfS (lfS lf0))))))) ?_
      exact w_X4_end_59 C hr hlk N a1 a2 a3 τ  N v1 v2 v3 v4 v5 v5 σ hf
    · replace hf := ifn h_1 hf
      refine s_aloadn (pc := 34) C dX4_end_34 rfl ?_
      refine s_getR (pc := 35) (r := 48) C fl_X4_105 SH_25 rfl dX4_end_35 ?_
      refine s_iload (pc := 38) C dX4_end_38 rfl ?_
      refine s_iload (pc := 40) C dX4_end_40 rfl ?_
      refine s_iadd (pc := 42) C dX4_end_42 ?_
      obtain ⟨g_1, hf⟩ := gd hf
      refine s_iald (pc := 43) C SH_48 (ty0 ca) g_1 dX4_end_43 ?_
      refine s_iloadn (pc := 44) C dX4_end_44 rfl ?_
      refine s_icmp_ne (pc := 45) (tgt := 49) C dX4_end_45 (by decide) (fun h_2 => ?_) (fun h_2 => ?_)
      · replace hf := ifn h_2 hf
        refine s_iinc (pc := 49) (v := (v6 + 1)) (lo' := [some (.ref (ad 25)), some (.int v1), some (.int v2), some (.int v3), some (.int v4), some (.int v5), some (.int (v6 + 1))]) C dX4_end_49 rfl rfl rfl ?_
        refine s_goto (pc := 52) (tgt := 27) C dX4_end_52 (by decide) ?_
        refine s_few (lo' := [some (.ref (ad 25)), some (.int v1), some (.int v2), some (.int v3), some (.int v4), some (.int v5), some (.int (v6 + 1))]) (lfS (lfS (lfS (lfS (lfS (lfS (lfS lf0))))))) ?_
        exact ih v1 v2 v3 v4 v5 (v6 + 1) σ hf
      · replace hf := ifp h_2 hf
        exact s_vret (pc := 48) C hr hlk dX4_end_48 rfl (rtv hf)
def f_X4_end (N : Nat) (a1 : Int32) (a2 : Int32) (a3 : Int32) (σ : St) : Option (St) :=
  if inb ((7 * a2) + a1) 21 = true then
  lp_X4_end_27 N a1 a2 a3 N a1 a2 a3 ((56 * a2) + (8 * a1)) (σ 49 (ix ((7 * a2) + a1))) 0 σ
  else none
set_option maxRecDepth 100000 in
set_option maxHeartbeats 4000000 in
theorem c_X4_end (l : Launch) (D : va_G) (ca : Nat → ClassId) (ad : Nat → Nat) (N : Nat) (a1 : Int32) (a2 : Int32) (a3 : Int32) (σ : St) (τ : St) (hf : f_X4_end N a1 a2 a3 σ = some τ) : cM l yX4_end (.code yX4_end cX4_end 7 none) (rmk 0) D ca ad SH [.ref (ad 25), .int a1, .int a2, .int a3] σ none τ := by
  refine cM.intro2 (own := RX4) (lo := [some (.ref (ad 25)), some (.int a1), some (.int a2), some (.int a3), none, none, none]) (by decide) rfl (ccR (ccI (ccI (ccI cc0)))) (Nat.le_of_ble_eq_true rfl) rfl ?_
  intro p e s m args below meth c A C hr hlk
  unfold f_X4_end at hf
  refine s_bipush (pc := 0) (v := 56) C dX4_end_0 (by decide) ?_
  refine s_iloadn (pc := 2) C dX4_end_2 rfl ?_
  refine s_imul (pc := 3) C dX4_end_3 ?_
  refine s_bipush (pc := 4) (v := 8) C dX4_end_4 (by decide) ?_
  refine s_iloadn (pc := 6) C dX4_end_6 rfl ?_
  refine s_imul (pc := 7) C dX4_end_7 ?_
  refine s_iadd (pc := 8) C dX4_end_8 ?_
  refine s_istore (pc := 9) (lo' := [some (.ref (ad 25)), some (.int a1), some (.int a2), some (.int a3), some (.int ((56 * a2) + (8 * a1))), none, none]) C dX4_end_9 (Nat.le_of_ble_eq_true rfl) rfl ?_
  refine s_aloadn (pc := 11) C dX4_end_11 rfl ?_
  refine s_getR (pc := 12) (r := 49) C fl_X4_108 SH_25 rfl dX4_end_12 ?_
  refine s_bipush (pc := 15) (v := 7) C dX4_end_15 (by decide) ?_
  refine s_iloadn (pc := 17) C dX4_end_17 rfl ?_
  refine s_imul (pc := 18) C dX4_end_18 ?_
  refine s_iloadn (pc := 19) C dX4_end_19 rfl ?_
  refine s_iadd (pc := 20) C dX4_end_20 ?_
  obtain ⟨g_1, hf⟩ := gd hf
  refine s_iald (pc := 21) C SH_49 (ty0 ca) g_1 dX4_end_21 ?_
  refine s_istore (pc := 22) (lo' := [some (.ref (ad 25)), some (.int a1), some (.int a2), some (.int a3), some (.int ((56 * a2) + (8 * a1))), some (.int (σ 49 (ix ((7 * a2) + a1)))), none]) C dX4_end_22 (Nat.le_of_ble_eq_true rfl) rfl ?_
  refine s_iconst (pc := 24) (v := 0) C dX4_end_24 (by decide) ?_
  refine s_istore (pc := 25) (lo' := [some (.ref (ad 25)), some (.int a1), some (.int a2), some (.int a3), some (.int ((56 * a2) + (8 * a1))), some (.int (σ 49 (ix ((7 * a2) + a1)))), some (.int 0)]) C dX4_end_25 (Nat.le_of_ble_eq_true rfl) rfl ?_
  refine s_few (lo' := [some (.ref (ad 25)), some (.int a1), some (.int a2), some (.int a3), some (.int ((56 * a2) + (8 * a1))), some (.int (σ 49 (ix ((7 * a2) + a1)))), some (.int 0)]) (lfS (lfS (lfS (lfS (lfS (lfS (lfS lf0))))))) ?_
  exact w_X4_end_27 C hr hlk N a1 a2 a3 τ  N a1 a2 a3 ((56 * a2) + (8 * a1)) (σ 49 (ix ((7 * a2) + a1))) 0 σ hf
def lp_X4_enter_34 (N : Nat) (a1 : Int32) : Nat → Int32 → Int32 → St → Option (St)
  | 0, _, _, _ => none
  | n + 1, v1, v2, σ =>
    if (σ 25 4) ≤ v2 then
      if inb v1 7 = true then
      if inb v1 7 = true then
      if inb v1 7 = true then
      if inb v1 7 = true then
      some (su (su (su (su σ 44 (ix v1) 0) 45 (ix v1) (-1)) 46 (ix v1) 0) 47 (ix v1) 0)
      else none
      else none
      else none
      else none
    else
      if inb v2 6 = true then
      if (σ 32 (ix v2)) < 0 then
        lp_X4_enter_34 N a1  n v1 (v2 + 1) σ
      else
        if inb v2 6 = true then
        if inb v2 6 = true then
        bv (f_X4_end N v1 0 ((σ 33 (ix v2)) + (σ 36 (ix v2))) σ) fun τ_1 =>
        if inb v2 6 = true then
        if inb v2 6 = true then
        bv (f_X4_end N v1 1 ((τ_1 34 (ix v2)) + (τ_1 37 (ix v2))) τ_1) fun τ_2 =>
        if inb v2 6 = true then
        if inb v2 6 = true then
        bv (f_X4_end N v1 2 ((τ_2 35 (ix v2)) + (τ_2 38 (ix v2))) τ_2) fun τ_3 =>
        lp_X4_enter_34 N a1  n v1 (v2 + 1) τ_3
        else none
        else none
        else none
        else none
        else none
        else none
      else none
set_option maxRecDepth 100000 in
set_option maxHeartbeats 4000000 in
theorem w_X4_enter_34 {l : Launch} {D : va_G} {ca : Nat → ClassId} {ad : Nat → Nat} {p : Program} {e : Env} {s : State} {m : MethodId} {args : Array Value} {below : List Frame} {meth : Method} {c : Code} {A : Nat → Prop} (C : CX p s m args c D ca A RX4 cX4_enter 3) (hr : meth.sig.returnType = none) (hlk : meth.locks = false) (N : Nat) (a1 : Int32) (τ : St)  : ∀ (n : Nat) (v1 v2 : Int32) (σ : St), lp_X4_enter_34 N a1  n v1 v2 σ = some τ → WW p l e (rmk 1) s m args below meth c 0 0 (EQ D ca ad SH A below args s none τ) A D ca ad SH 34 [some (.ref (ad 25)), some (.int v1), some (.int v2)] [] σ := by
  intro n
  induction n with
  | zero => intro v1 v2 σ hf; cases hf
  | succ n ih =>
    intro v1 v2 σ hf
    rw [lp_X4_enter_34] at hf
    refine s_iloadn (pc := 34) C dX4_enter_34 rfl ?_
    refine s_aloadn (pc := 35) C dX4_enter_35 rfl ?_
    refine s_getI (pc := 36) C fl_X4_13 SH_25 rfl dX4_enter_36 ?_
    refine s_icmp_ge (pc := 39) (tgt := 114) C dX4_enter_39 (by decide) (fun h_1 => ?_) (fun h_1 => ?_)
    · replace hf := ifp h_1 hf
      refine s_aloadn (pc := 114) C dX4_enter_114 rfl ?_
      refine s_getR (pc := 115) (r := 44) C fl_X4_93 SH_25 rfl dX4_enter_115 ?_
      refine s_iloadn (pc := 118) C dX4_enter_118 rfl ?_
      refine s_iconst (pc := 119) (v := 0) C dX4_enter_119 (by decide) ?_
      obtain ⟨g_1, hf⟩ := gd hf
      refine s_iast (pc := 120) C SH_44 (ty0 ca) g_1 dX4_enter_120 ?_
      refine s_aloadn (pc := 121) C dX4_enter_121 rfl ?_
      refine s_getR (pc := 122) (r := 45) C fl_X4_96 SH_25 rfl dX4_enter_122 ?_
      refine s_iloadn (pc := 125) C dX4_enter_125 rfl ?_
      refine s_iconst (pc := 126) (v := (-1)) C dX4_enter_126 (by decide) ?_
      obtain ⟨g_2, hf⟩ := gd hf
      refine s_iast (pc := 127) C SH_45 (ty0 ca) g_2 dX4_enter_127 ?_
      refine s_aloadn (pc := 128) C dX4_enter_128 rfl ?_
      refine s_getR (pc := 129) (r := 46) C fl_X4_99 SH_25 rfl dX4_enter_129 ?_
      refine s_iloadn (pc := 132) C dX4_enter_132 rfl ?_
      refine s_iconst (pc := 133) (v := 0) C dX4_enter_133 (by decide) ?_
      obtain ⟨g_3, hf⟩ := gd hf
      refine s_iast (pc := 134) C SH_46 (ty0 ca) g_3 dX4_enter_134 ?_
      refine s_aloadn (pc := 135) C dX4_enter_135 rfl ?_
      refine s_getR (pc := 136) (r := 47) C fl_X4_102 SH_25 rfl dX4_enter_136 ?_
      refine s_iloadn (pc := 139) C dX4_enter_139 rfl ?_
      refine s_iconst (pc := 140) (v := 0) C dX4_enter_140 (by decide) ?_
      obtain ⟨g_4, hf⟩ := gd hf
      refine s_iast (pc := 141) C SH_47 (ty0 ca) g_4 dX4_enter_141 ?_
      exact s_vret (pc := 142) C hr hlk dX4_enter_142 rfl (rtv hf)
    · replace hf := ifn h_1 hf
      refine s_aloadn (pc := 42) C dX4_enter_42 rfl ?_
      refine s_getR (pc := 43) (r := 32) C fl_X4_41 SH_25 rfl dX4_enter_43 ?_
      refine s_iloadn (pc := 46) C dX4_enter_46 rfl ?_
      obtain ⟨g_5, hf⟩ := gd hf
      refine s_iald (pc := 47) C SH_32 (ty0 ca) g_5 dX4_enter_47 ?_
      refine s_if_lt (pc := 48) (tgt := 108) C dX4_enter_48 (by decide) (fun h_2 => ?_) (fun h_2 => ?_)
      · replace hf := ifp h_2 hf
        refine s_iinc (pc := 108) (v := (v2 + 1)) (lo' := [some (.ref (ad 25)), some (.int v1), some (.int (v2 + 1))]) C dX4_enter_108 rfl rfl rfl ?_
        refine s_goto (pc := 111) (tgt := 34) C dX4_enter_111 (by decide) ?_
        refine s_few (lo' := [some (.ref (ad 25)), some (.int v1), some (.int (v2 + 1))]) (lfS (lfS (lfS lf0))) ?_
        exact ih v1 (v2 + 1) σ hf
      · replace hf := ifn h_2 hf
        refine s_aloadn (pc := 51) C dX4_enter_51 rfl ?_
        refine s_iloadn (pc := 52) C dX4_enter_52 rfl ?_
        refine s_iconst (pc := 53) (v := 0) C dX4_enter_53 (by decide) ?_
        refine s_aloadn (pc := 54) C dX4_enter_54 rfl ?_
        refine s_getR (pc := 55) (r := 33) C fl_X4_44 SH_25 rfl dX4_enter_55 ?_
        refine s_iloadn (pc := 58) C dX4_enter_58 rfl ?_
        obtain ⟨g_6, hf⟩ := gd hf
        refine s_iald (pc := 59) C SH_33 (ty0 ca) g_6 dX4_enter_59 ?_
        refine s_aloadn (pc := 60) C dX4_enter_60 rfl ?_
        refine s_getR (pc := 61) (r := 36) C fl_X4_53 SH_25 rfl dX4_enter_61 ?_
        refine s_iloadn (pc := 64) C dX4_enter_64 rfl ?_
        obtain ⟨g_7, hf⟩ := gd hf
        refine s_iald (pc := 65) C SH_36 (ty0 ca) g_7 dX4_enter_65 ?_
        refine s_iadd (pc := 66) C dX4_enter_66 ?_
        obtain ⟨τ_1, e_1, hf⟩ := bvd hf
        refine s_callV (pc := 67) (rest := []) C rfl (c_X4_end l D ca ad N v1 0 ((σ 33 (ix v2)) + (σ 36 (ix v2))) σ τ_1 e_1) kv_X4_158 ⟨rfl, rfl⟩ (by decide) SH_25 ⟨_, rfl, rfl⟩ rfl rfl (Nat.le_of_ble_eq_true rfl) dX4_enter_67 ⟨Nat.zero_le _, Nat.zero_le _⟩ ?_
        refine s_st (st' := []) rfl ?_
        refine s_aloadn (pc := 70) C dX4_enter_70 rfl ?_
        refine s_iloadn (pc := 71) C dX4_enter_71 rfl ?_
        refine s_iconst (pc := 72) (v := 1) C dX4_enter_72 (by decide) ?_
        refine s_aloadn (pc := 73) C dX4_enter_73 rfl ?_
        refine s_getR (pc := 74) (r := 34) C fl_X4_47 SH_25 rfl dX4_enter_74 ?_
        refine s_iloadn (pc := 77) C dX4_enter_77 rfl ?_
        obtain ⟨g_8, hf⟩ := gd hf
        refine s_iald (pc := 78) C SH_34 (ty0 ca) g_8 dX4_enter_78 ?_
        refine s_aloadn (pc := 79) C dX4_enter_79 rfl ?_
        refine s_getR (pc := 80) (r := 37) C fl_X4_56 SH_25 rfl dX4_enter_80 ?_
        refine s_iloadn (pc := 83) C dX4_enter_83 rfl ?_
        obtain ⟨g_9, hf⟩ := gd hf
        refine s_iald (pc := 84) C SH_37 (ty0 ca) g_9 dX4_enter_84 ?_
        refine s_iadd (pc := 85) C dX4_enter_85 ?_
        obtain ⟨τ_2, e_2, hf⟩ := bvd hf
        refine s_callV (pc := 86) (rest := []) C rfl (c_X4_end l D ca ad N v1 1 ((τ_1 34 (ix v2)) + (τ_1 37 (ix v2))) τ_1 τ_2 e_2) kv_X4_158 ⟨rfl, rfl⟩ (by decide) SH_25 ⟨_, rfl, rfl⟩ rfl rfl (Nat.le_of_ble_eq_true rfl) dX4_enter_86 ⟨Nat.zero_le _, Nat.zero_le _⟩ ?_
        refine s_st (st' := []) rfl ?_
        refine s_aloadn (pc := 89) C dX4_enter_89 rfl ?_
        refine s_iloadn (pc := 90) C dX4_enter_90 rfl ?_
        refine s_iconst (pc := 91) (v := 2) C dX4_enter_91 (by decide) ?_
        refine s_aloadn (pc := 92) C dX4_enter_92 rfl ?_
        refine s_getR (pc := 93) (r := 35) C fl_X4_50 SH_25 rfl dX4_enter_93 ?_
        refine s_iloadn (pc := 96) C dX4_enter_96 rfl ?_
        obtain ⟨g_10, hf⟩ := gd hf
        refine s_iald (pc := 97) C SH_35 (ty0 ca) g_10 dX4_enter_97 ?_
        refine s_aloadn (pc := 98) C dX4_enter_98 rfl ?_
        refine s_getR (pc := 99) (r := 38) C fl_X4_59 SH_25 rfl dX4_enter_99 ?_
        refine s_iloadn (pc := 102) C dX4_enter_102 rfl ?_
        obtain ⟨g_11, hf⟩ := gd hf
        refine s_iald (pc := 103) C SH_38 (ty0 ca) g_11 dX4_enter_103 ?_
        refine s_iadd (pc := 104) C dX4_enter_104 ?_
        obtain ⟨τ_3, e_3, hf⟩ := bvd hf
        refine s_callV (pc := 105) (rest := []) C rfl (c_X4_end l D ca ad N v1 2 ((τ_2 35 (ix v2)) + (τ_2 38 (ix v2))) τ_2 τ_3 e_3) kv_X4_158 ⟨rfl, rfl⟩ (by decide) SH_25 ⟨_, rfl, rfl⟩ rfl rfl (Nat.le_of_ble_eq_true rfl) dX4_enter_105 ⟨Nat.zero_le _, Nat.zero_le _⟩ ?_
        refine s_st (st' := []) rfl ?_
        refine s_iinc (pc := 108) (v := (v2 + 1)) (lo' := [some (.ref (ad 25)), some (.int v1), some (.int (v2 + 1))]) C dX4_enter_108 rfl rfl rfl ?_
        refine s_goto (pc := 111) (tgt := 34) C dX4_enter_111 (by decide) ?_
        refine s_few (lo' := [some (.ref (ad 25)), some (.int v1), some (.int (v2 + 1))]) (lfS (lfS (lfS lf0))) ?_
        exact ih v1 (v2 + 1) τ_3 hf
def lp_X4_enter_2 (N : Nat) (a1 : Int32) : Nat → Int32 → Int32 → St → Option (St)
  | 0, _, _, _ => none
  | n + 1, v1, v2, σ =>
    if 3 ≤ v2 then
      lp_X4_enter_34 N a1 N v1 0 σ
    else
      if inb ((7 * v2) + v1) 21 = true then
      bv (f_X4_end N v1 v2 0 (su σ 49 (ix ((7 * v2) + v1)) 0)) fun τ_1 =>
      lp_X4_enter_2 N a1  n v1 (v2 + 1) τ_1
      else none
set_option maxRecDepth 100000 in
set_option maxHeartbeats 4000000 in
theorem w_X4_enter_2 {l : Launch} {D : va_G} {ca : Nat → ClassId} {ad : Nat → Nat} {p : Program} {e : Env} {s : State} {m : MethodId} {args : Array Value} {below : List Frame} {meth : Method} {c : Code} {A : Nat → Prop} (C : CX p s m args c D ca A RX4 cX4_enter 3) (hr : meth.sig.returnType = none) (hlk : meth.locks = false) (N : Nat) (a1 : Int32) (τ : St)  : ∀ (n : Nat) (v1 v2 : Int32) (σ : St), lp_X4_enter_2 N a1  n v1 v2 σ = some τ → WW p l e (rmk 1) s m args below meth c 0 0 (EQ D ca ad SH A below args s none τ) A D ca ad SH 2 [some (.ref (ad 25)), some (.int v1), some (.int v2)] [] σ := by
  intro n
  induction n with
  | zero => intro v1 v2 σ hf; cases hf
  | succ n ih =>
    intro v1 v2 σ hf
    rw [lp_X4_enter_2] at hf
    refine s_iloadn (pc := 2) C dX4_enter_2 rfl ?_
    refine s_iconst (pc := 3) (v := 3) C dX4_enter_3 (by decide) ?_
    refine s_icmp_ge (pc := 4) (tgt := 32) C dX4_enter_4 (by decide) (fun h_1 => ?_) (fun h_1 => ?_)
    · replace hf := ifp h_1 hf
      refine s_iconst (pc := 32) (v := 0) C dX4_enter_32 (by decide) ?_
      refine s_istoren (pc := 33) (lo' := [some (.ref (ad 25)), some (.int v1), some (.int 0)]) C dX4_enter_33 (Nat.le_of_ble_eq_true rfl) rfl ?_
      refine s_few (lo' := [some (.ref (ad 25)), some (.int v1), some (.int 0)]) (lfS (lfS (lfS lf0))) ?_
      exact w_X4_enter_34 C hr hlk N a1 τ  N v1 0 σ hf
    · replace hf := ifn h_1 hf
      refine s_aloadn (pc := 7) C dX4_enter_7 rfl ?_
      refine s_getR (pc := 8) (r := 49) C fl_X4_108 SH_25 rfl dX4_enter_8 ?_
      refine s_bipush (pc := 11) (v := 7) C dX4_enter_11 (by decide) ?_
      refine s_iloadn (pc := 13) C dX4_enter_13 rfl ?_
      refine s_imul (pc := 14) C dX4_enter_14 ?_
      refine s_iloadn (pc := 15) C dX4_enter_15 rfl ?_
      refine s_iadd (pc := 16) C dX4_enter_16 ?_
      refine s_iconst (pc := 17) (v := 0) C dX4_enter_17 (by decide) ?_
      obtain ⟨g_1, hf⟩ := gd hf
      refine s_iast (pc := 18) C SH_49 (ty0 ca) g_1 dX4_enter_18 ?_
      refine s_aloadn (pc := 19) C dX4_enter_19 rfl ?_
      refine s_iloadn (pc := 20) C dX4_enter_20 rfl ?_
      refine s_iloadn (pc := 21) C dX4_enter_21 rfl ?_
      refine s_iconst (pc := 22) (v := 0) C dX4_enter_22 (by decide) ?_
      obtain ⟨τ_1, e_1, hf⟩ := bvd hf
      refine s_callV (pc := 23) (rest := []) C rfl (c_X4_end l D ca ad N v1 v2 0 (su σ 49 (ix ((7 * v2) + v1)) 0) τ_1 e_1) kv_X4_158 ⟨rfl, rfl⟩ (by decide) SH_25 ⟨_, rfl, rfl⟩ rfl rfl (Nat.le_of_ble_eq_true rfl) dX4_enter_23 ⟨Nat.zero_le _, Nat.zero_le _⟩ ?_
      refine s_st (st' := []) rfl ?_
      refine s_iinc (pc := 26) (v := (v2 + 1)) (lo' := [some (.ref (ad 25)), some (.int v1), some (.int (v2 + 1))]) C dX4_enter_26 rfl rfl rfl ?_
      refine s_goto (pc := 29) (tgt := 2) C dX4_enter_29 (by decide) ?_
      refine s_few (lo' := [some (.ref (ad 25)), some (.int v1), some (.int (v2 + 1))]) (lfS (lfS (lfS lf0))) ?_
      exact ih v1 (v2 + 1) τ_1 hf
def f_X4_enter (N : Nat) (a1 : Int32) (σ : St) : Option (St) :=
  lp_X4_enter_2 N a1 N a1 0 σ
set_option maxRecDepth 100000 in
set_option maxHeartbeats 4000000 in
theorem c_X4_enter (l : Launch) (D : va_G) (ca : Nat → ClassId) (ad : Nat → Nat) (N : Nat) (a1 : Int32) (σ : St) (τ : St) (hf : f_X4_enter N a1 σ = some τ) : cM l yX4_enter (.code yX4_enter cX4_enter 3 none) (rmk 1) D ca ad SH [.ref (ad 25), .int a1] σ none τ := by
  refine cM.intro2 (own := RX4) (lo := [some (.ref (ad 25)), some (.int a1), none]) (by decide) rfl (ccR (ccI cc0)) (Nat.le_of_ble_eq_true rfl) rfl ?_
  intro p e s m args below meth c A C hr hlk
  unfold f_X4_enter at hf
  refine s_iconst (pc := 0) (v := 0) C dX4_enter_0 (by decide) ?_
  refine s_istoren (pc := 1) (lo' := [some (.ref (ad 25)), some (.int a1), some (.int 0)]) C dX4_enter_1 (Nat.le_of_ble_eq_true rfl) rfl ?_
  refine s_few (lo' := [some (.ref (ad 25)), some (.int a1), some (.int 0)]) (lfS (lfS (lfS lf0))) ?_
  exact w_X4_enter_2 C hr hlk N a1 τ  N a1 0 σ hf
def lp_X4_advance_128 (N : Nat) (a1 : Int32) : Nat → Int32 → St → Option (Int32 × St)
  | 0, _, _ => none
  | n + 1, v1, σ =>
    if inb v1 7 = true then
    if 6 ≤ (σ 44 (ix v1)) then
      if inb v1 7 = true then
      if 6 ≤ (σ 44 (ix v1)) then
        some (0, σ)
      else
        some (1, σ)
      else none
    else
      if inb v1 6 = true then
      if inb v1 7 = true then
      bn (f_X4_let N (σ 43 (ix v1)) (σ 44 (ix v1)) σ) fun r_1 τ_1 =>
      if r_1 = 0 then
        if inb v1 7 = true then
        if inb v1 7 = true then
        lp_X4_advance_128 N a1  n v1 (su τ_1 44 (ix v1) ((τ_1 44 (ix v1)) + 1))
        else none
        else none
      else
        if inb v1 7 = true then
        if 6 ≤ (τ_1 44 (ix v1)) then
          some (0, τ_1)
        else
          some (1, τ_1)
        else none
      else none
      else none
    else none
set_option maxRecDepth 100000 in
set_option maxHeartbeats 4000000 in
theorem w_X4_advance_128 {l : Launch} {D : va_G} {ca : Nat → ClassId} {ad : Nat → Nat} {p : Program} {e : Env} {s : State} {m : MethodId} {args : Array Value} {below : List Frame} {meth : Method} {c : Code} {A : Nat → Prop} (C : CX p s m args c D ca A RX4 cX4_advance 2) (hr : meth.sig.returnType = (some .boolean)) (hlk : meth.locks = false) (N : Nat) (a1 : Int32) (r : Int32) (τ : St)  : ∀ (n : Nat) (v1 : Int32) (σ : St), lp_X4_advance_128 N a1  n v1 σ = some (r, τ) → WW p l e (rmk 3) s m args below meth c 0 0 (EQ D ca ad SH A below args s (some (.int r)) τ) A D ca ad SH 128 [some (.ref (ad 25)), some (.int v1)] [] σ := by
  intro n
  induction n with
  | zero => intro v1 σ hf; cases hf
  | succ n ih =>
    intro v1 σ hf
    rw [lp_X4_advance_128] at hf
    refine s_aloadn (pc := 128) C dX4_advance_128 rfl ?_
    refine s_getR (pc := 129) (r := 44) C fl_X4_93 SH_25 rfl dX4_advance_129 ?_
    refine s_iloadn (pc := 132) C dX4_advance_132 rfl ?_
    obtain ⟨g_1, hf⟩ := gd hf
    refine s_iald (pc := 133) C SH_44 (ty0 ca) g_1 dX4_advance_133 ?_
    refine s_bipush (pc := 134) (v := 6) C dX4_advance_134 (by decide) ?_
    refine s_icmp_ge (pc := 136) (tgt := 175) C dX4_advance_136 (by decide) (fun h_1 => ?_) (fun h_1 => ?_)
    · replace hf := ifp h_1 hf
      refine s_aloadn (pc := 175) C dX4_advance_175 rfl ?_
      refine s_getR (pc := 176) (r := 44) C fl_X4_93 SH_25 rfl dX4_advance_176 ?_
      refine s_iloadn (pc := 179) C dX4_advance_179 rfl ?_
      obtain ⟨g_2, hf⟩ := gd hf
      refine s_iald (pc := 180) C SH_44 (ty0 ca) g_2 dX4_advance_180 ?_
      refine s_bipush (pc := 181) (v := 6) C dX4_advance_181 (by decide) ?_
      refine s_icmp_ge (pc := 183) (tgt := 190) C dX4_advance_183 (by decide) (fun h_2 => ?_) (fun h_2 => ?_)
      · replace hf := ifp h_2 hf
        refine s_iconst (pc := 190) (v := 0) C dX4_advance_190 (by decide) ?_
        exact s_zret (pc := 191) C hr hlk dX4_advance_191 (by decide) (congrArg (fun z => some (Value.int z)) (rt hf).1) (rt hf).2
      · replace hf := ifn h_2 hf
        refine s_iconst (pc := 186) (v := 1) C dX4_advance_186 (by decide) ?_
        refine s_goto (pc := 187) (tgt := 191) C dX4_advance_187 (by decide) ?_
        exact s_zret (pc := 191) C hr hlk dX4_advance_191 (by decide) (congrArg (fun z => some (Value.int z)) (rt hf).1) (rt hf).2
    · replace hf := ifn h_1 hf
      refine s_aloadn (pc := 139) C dX4_advance_139 rfl ?_
      refine s_aloadn (pc := 140) C dX4_advance_140 rfl ?_
      refine s_getR (pc := 141) (r := 43) C fl_X4_90 SH_25 rfl dX4_advance_141 ?_
      refine s_iloadn (pc := 144) C dX4_advance_144 rfl ?_
      obtain ⟨g_3, hf⟩ := gd hf
      refine s_iald (pc := 145) C SH_43 (ty0 ca) g_3 dX4_advance_145 ?_
      refine s_aloadn (pc := 146) C dX4_advance_146 rfl ?_
      refine s_getR (pc := 147) (r := 44) C fl_X4_93 SH_25 rfl dX4_advance_147 ?_
      refine s_iloadn (pc := 150) C dX4_advance_150 rfl ?_
      obtain ⟨g_4, hf⟩ := gd hf
      refine s_iald (pc := 151) C SH_44 (ty0 ca) g_4 dX4_advance_151 ?_
      obtain ⟨r_1, τ_1, e_1, hf⟩ := bnd hf
      refine s_callV (pc := 152) (rest := []) C rfl (c_X4_let l D ca ad N (σ 43 (ix v1)) (σ 44 (ix v1)) σ r_1 τ_1 e_1) kv_X4_162 ⟨rfl, rfl⟩ (by decide) SH_25 ⟨_, rfl, rfl⟩ rfl rfl (Nat.le_of_ble_eq_true rfl) dX4_advance_152 ⟨Nat.zero_le _, Nat.zero_le _⟩ ?_
      refine s_st (st' := [.int r_1]) rfl ?_
      refine s_if_ne (pc := 155) (tgt := 175) C dX4_advance_155 (by decide) (fun h_3 => ?_) (fun h_3 => ?_)
      · replace hf := ifn h_3 hf
        refine s_aloadn (pc := 175) C dX4_advance_175 rfl ?_
        refine s_getR (pc := 176) (r := 44) C fl_X4_93 SH_25 rfl dX4_advance_176 ?_
        refine s_iloadn (pc := 179) C dX4_advance_179 rfl ?_
        obtain ⟨g_5, hf⟩ := gd hf
        refine s_iald (pc := 180) C SH_44 (ty0 ca) g_5 dX4_advance_180 ?_
        refine s_bipush (pc := 181) (v := 6) C dX4_advance_181 (by decide) ?_
        refine s_icmp_ge (pc := 183) (tgt := 190) C dX4_advance_183 (by decide) (fun h_4 => ?_) (fun h_4 => ?_)
        · replace hf := ifp h_4 hf
          refine s_iconst (pc := 190) (v := 0) C dX4_advance_190 (by decide) ?_
          exact s_zret (pc := 191) C hr hlk dX4_advance_191 (by decide) (congrArg (fun z => some (Value.int z)) (rt hf).1) (rt hf).2
        · replace hf := ifn h_4 hf
          refine s_iconst (pc := 186) (v := 1) C dX4_advance_186 (by decide) ?_
          refine s_goto (pc := 187) (tgt := 191) C dX4_advance_187 (by decide) ?_
          exact s_zret (pc := 191) C hr hlk dX4_advance_191 (by decide) (congrArg (fun z => some (Value.int z)) (rt hf).1) (rt hf).2
      · replace hf := ifp h_3 hf
        refine s_aloadn (pc := 158) C dX4_advance_158 rfl ?_
        refine s_getR (pc := 159) (r := 44) C fl_X4_93 SH_25 rfl dX4_advance_159 ?_
        refine s_iloadn (pc := 162) C dX4_advance_162 rfl ?_
        refine s_aloadn (pc := 163) C dX4_advance_163 rfl ?_
        refine s_getR (pc := 164) (r := 44) C fl_X4_93 SH_25 rfl dX4_advance_164 ?_
        refine s_iloadn (pc := 167) C dX4_advance_167 rfl ?_
        obtain ⟨g_6, hf⟩ := gd hf
        refine s_iald (pc := 168) C SH_44 (ty0 ca) g_6 dX4_advance_168 ?_
        refine s_iconst (pc := 169) (v := 1) C dX4_advance_169 (by decide) ?_
        refine s_iadd (pc := 170) C dX4_advance_170 ?_
        obtain ⟨g_7, hf⟩ := gd hf
        refine s_iast (pc := 171) C SH_44 (ty0 ca) g_7 dX4_advance_171 ?_
        refine s_goto (pc := 172) (tgt := 128) C dX4_advance_172 (by decide) ?_
        refine s_few (lo' := [some (.ref (ad 25)), some (.int v1)]) (lfS (lfS lf0)) ?_
        exact ih v1 (su τ_1 44 (ix v1) ((τ_1 44 (ix v1)) + 1)) hf
def f_X4_advance (N : Nat) (a1 : Int32) (σ : St) : Option (Int32 × St) :=
  if inb a1 7 = true then
  if inb a1 7 = true then
  if inb a1 7 = true then
  if inb a1 21 = true then
  if ((su σ 45 (ix a1) ((σ 45 (ix a1)) + 1)) 45 (ix a1)) = ((su σ 45 (ix a1) ((σ 45 (ix a1)) + 1)) 49 (ix a1)) then
    if inb a1 7 = true then
    if inb a1 7 = true then
    if inb a1 7 = true then
    if inb a1 7 = true then
    if inb (7 + a1) 21 = true then
    if ((su (su (su σ 45 (ix a1) ((σ 45 (ix a1)) + 1)) 45 (ix a1) 0) 46 (ix a1) (((su (su σ 45 (ix a1) ((σ 45 (ix a1)) + 1)) 45 (ix a1) 0) 46 (ix a1)) + 1)) 46 (ix a1)) = ((su (su (su σ 45 (ix a1) ((σ 45 (ix a1)) + 1)) 45 (ix a1) 0) 46 (ix a1) (((su (su σ 45 (ix a1) ((σ 45 (ix a1)) + 1)) 45 (ix a1) 0) 46 (ix a1)) + 1)) 49 (ix (7 + a1))) then
      if inb a1 7 = true then
      if inb a1 7 = true then
      if inb a1 7 = true then
      if inb a1 7 = true then
      if inb (14 + a1) 21 = true then
      if ((su (su (su (su (su σ 45 (ix a1) ((σ 45 (ix a1)) + 1)) 45 (ix a1) 0) 46 (ix a1) (((su (su σ 45 (ix a1) ((σ 45 (ix a1)) + 1)) 45 (ix a1) 0) 46 (ix a1)) + 1)) 46 (ix a1) 0) 47 (ix a1) (((su (su (su (su σ 45 (ix a1) ((σ 45 (ix a1)) + 1)) 45 (ix a1) 0) 46 (ix a1) (((su (su σ 45 (ix a1) ((σ 45 (ix a1)) + 1)) 45 (ix a1) 0) 46 (ix a1)) + 1)) 46 (ix a1) 0) 47 (ix a1)) + 1)) 47 (ix a1)) = ((su (su (su (su (su σ 45 (ix a1) ((σ 45 (ix a1)) + 1)) 45 (ix a1) 0) 46 (ix a1) (((su (su σ 45 (ix a1) ((σ 45 (ix a1)) + 1)) 45 (ix a1) 0) 46 (ix a1)) + 1)) 46 (ix a1) 0) 47 (ix a1) (((su (su (su (su σ 45 (ix a1) ((σ 45 (ix a1)) + 1)) 45 (ix a1) 0) 46 (ix a1) (((su (su σ 45 (ix a1) ((σ 45 (ix a1)) + 1)) 45 (ix a1) 0) 46 (ix a1)) + 1)) 46 (ix a1) 0) 47 (ix a1)) + 1)) 49 (ix (14 + a1))) then
        if inb a1 7 = true then
        if inb a1 7 = true then
        if inb a1 7 = true then
        lp_X4_advance_128 N a1 N a1 (su (su (su (su (su (su (su σ 45 (ix a1) ((σ 45 (ix a1)) + 1)) 45 (ix a1) 0) 46 (ix a1) (((su (su σ 45 (ix a1) ((σ 45 (ix a1)) + 1)) 45 (ix a1) 0) 46 (ix a1)) + 1)) 46 (ix a1) 0) 47 (ix a1) (((su (su (su (su σ 45 (ix a1) ((σ 45 (ix a1)) + 1)) 45 (ix a1) 0) 46 (ix a1) (((su (su σ 45 (ix a1) ((σ 45 (ix a1)) + 1)) 45 (ix a1) 0) 46 (ix a1)) + 1)) 46 (ix a1) 0) 47 (ix a1)) + 1)) 47 (ix a1) 0) 44 (ix a1) (((su (su (su (su (su (su σ 45 (ix a1) ((σ 45 (ix a1)) + 1)) 45 (ix a1) 0) 46 (ix a1) (((su (su σ 45 (ix a1) ((σ 45 (ix a1)) + 1)) 45 (ix a1) 0) 46 (ix a1)) + 1)) 46 (ix a1) 0) 47 (ix a1) (((su (su (su (su σ 45 (ix a1) ((σ 45 (ix a1)) + 1)) 45 (ix a1) 0) 46 (ix a1) (((su (su σ 45 (ix a1) ((σ 45 (ix a1)) + 1)) 45 (ix a1) 0) 46 (ix a1)) + 1)) 46 (ix a1) 0) 47 (ix a1)) + 1)) 47 (ix a1) 0) 44 (ix a1)) + 1))
        else none
        else none
        else none
      else
        if inb a1 7 = true then
        if 6 ≤ ((su (su (su (su (su σ 45 (ix a1) ((σ 45 (ix a1)) + 1)) 45 (ix a1) 0) 46 (ix a1) (((su (su σ 45 (ix a1) ((σ 45 (ix a1)) + 1)) 45 (ix a1) 0) 46 (ix a1)) + 1)) 46 (ix a1) 0) 47 (ix a1) (((su (su (su (su σ 45 (ix a1) ((σ 45 (ix a1)) + 1)) 45 (ix a1) 0) 46 (ix a1) (((su (su σ 45 (ix a1) ((σ 45 (ix a1)) + 1)) 45 (ix a1) 0) 46 (ix a1)) + 1)) 46 (ix a1) 0) 47 (ix a1)) + 1)) 44 (ix a1)) then
          some (0, (su (su (su (su (su σ 45 (ix a1) ((σ 45 (ix a1)) + 1)) 45 (ix a1) 0) 46 (ix a1) (((su (su σ 45 (ix a1) ((σ 45 (ix a1)) + 1)) 45 (ix a1) 0) 46 (ix a1)) + 1)) 46 (ix a1) 0) 47 (ix a1) (((su (su (su (su σ 45 (ix a1) ((σ 45 (ix a1)) + 1)) 45 (ix a1) 0) 46 (ix a1) (((su (su σ 45 (ix a1) ((σ 45 (ix a1)) + 1)) 45 (ix a1) 0) 46 (ix a1)) + 1)) 46 (ix a1) 0) 47 (ix a1)) + 1)))
        else
          some (1, (su (su (su (su (su σ 45 (ix a1) ((σ 45 (ix a1)) + 1)) 45 (ix a1) 0) 46 (ix a1) (((su (su σ 45 (ix a1) ((σ 45 (ix a1)) + 1)) 45 (ix a1) 0) 46 (ix a1)) + 1)) 46 (ix a1) 0) 47 (ix a1) (((su (su (su (su σ 45 (ix a1) ((σ 45 (ix a1)) + 1)) 45 (ix a1) 0) 46 (ix a1) (((su (su σ 45 (ix a1) ((σ 45 (ix a1)) + 1)) 45 (ix a1) 0) 46 (ix a1)) + 1)) 46 (ix a1) 0) 47 (ix a1)) + 1)))
        else none
      else none
      else none
      else none
      else none
      else none
    else
      if inb a1 7 = true then
      if inb (14 + a1) 21 = true then
      if ((su (su (su σ 45 (ix a1) ((σ 45 (ix a1)) + 1)) 45 (ix a1) 0) 46 (ix a1) (((su (su σ 45 (ix a1) ((σ 45 (ix a1)) + 1)) 45 (ix a1) 0) 46 (ix a1)) + 1)) 47 (ix a1)) = ((su (su (su σ 45 (ix a1) ((σ 45 (ix a1)) + 1)) 45 (ix a1) 0) 46 (ix a1) (((su (su σ 45 (ix a1) ((σ 45 (ix a1)) + 1)) 45 (ix a1) 0) 46 (ix a1)) + 1)) 49 (ix (14 + a1))) then
        if inb a1 7 = true then
        if inb a1 7 = true then
        if inb a1 7 = true then
        lp_X4_advance_128 N a1 N a1 (su (su (su (su (su σ 45 (ix a1) ((σ 45 (ix a1)) + 1)) 45 (ix a1) 0) 46 (ix a1) (((su (su σ 45 (ix a1) ((σ 45 (ix a1)) + 1)) 45 (ix a1) 0) 46 (ix a1)) + 1)) 47 (ix a1) 0) 44 (ix a1) (((su (su (su (su σ 45 (ix a1) ((σ 45 (ix a1)) + 1)) 45 (ix a1) 0) 46 (ix a1) (((su (su σ 45 (ix a1) ((σ 45 (ix a1)) + 1)) 45 (ix a1) 0) 46 (ix a1)) + 1)) 47 (ix a1) 0) 44 (ix a1)) + 1))
        else none
        else none
        else none
      else
        if inb a1 7 = true then
        if 6 ≤ ((su (su (su σ 45 (ix a1) ((σ 45 (ix a1)) + 1)) 45 (ix a1) 0) 46 (ix a1) (((su (su σ 45 (ix a1) ((σ 45 (ix a1)) + 1)) 45 (ix a1) 0) 46 (ix a1)) + 1)) 44 (ix a1)) then
          some (0, (su (su (su σ 45 (ix a1) ((σ 45 (ix a1)) + 1)) 45 (ix a1) 0) 46 (ix a1) (((su (su σ 45 (ix a1) ((σ 45 (ix a1)) + 1)) 45 (ix a1) 0) 46 (ix a1)) + 1)))
        else
          some (1, (su (su (su σ 45 (ix a1) ((σ 45 (ix a1)) + 1)) 45 (ix a1) 0) 46 (ix a1) (((su (su σ 45 (ix a1) ((σ 45 (ix a1)) + 1)) 45 (ix a1) 0) 46 (ix a1)) + 1)))
        else none
      else none
      else none
    else none
    else none
    else none
    else none
    else none
  else
    if inb a1 7 = true then
    if inb (7 + a1) 21 = true then
    if ((su σ 45 (ix a1) ((σ 45 (ix a1)) + 1)) 46 (ix a1)) = ((su σ 45 (ix a1) ((σ 45 (ix a1)) + 1)) 49 (ix (7 + a1))) then
      if inb a1 7 = true then
      if inb a1 7 = true then
      if inb a1 7 = true then
      if inb a1 7 = true then
      if inb (14 + a1) 21 = true then
      if ((su (su (su σ 45 (ix a1) ((σ 45 (ix a1)) + 1)) 46 (ix a1) 0) 47 (ix a1) (((su (su σ 45 (ix a1) ((σ 45 (ix a1)) + 1)) 46 (ix a1) 0) 47 (ix a1)) + 1)) 47 (ix a1)) = ((su (su (su σ 45 (ix a1) ((σ 45 (ix a1)) + 1)) 46 (ix a1) 0) 47 (ix a1) (((su (su σ 45 (ix a1) ((σ 45 (ix a1)) + 1)) 46 (ix a1) 0) 47 (ix a1)) + 1)) 49 (ix (14 + a1))) then
        if inb a1 7 = true then
        if inb a1 7 = true then
        if inb a1 7 = true then
        lp_X4_advance_128 N a1 N a1 (su (su (su (su (su σ 45 (ix a1) ((σ 45 (ix a1)) + 1)) 46 (ix a1) 0) 47 (ix a1) (((su (su σ 45 (ix a1) ((σ 45 (ix a1)) + 1)) 46 (ix a1) 0) 47 (ix a1)) + 1)) 47 (ix a1) 0) 44 (ix a1) (((su (su (su (su σ 45 (ix a1) ((σ 45 (ix a1)) + 1)) 46 (ix a1) 0) 47 (ix a1) (((su (su σ 45 (ix a1) ((σ 45 (ix a1)) + 1)) 46 (ix a1) 0) 47 (ix a1)) + 1)) 47 (ix a1) 0) 44 (ix a1)) + 1))
        else none
        else none
        else none
      else
        if inb a1 7 = true then
        if 6 ≤ ((su (su (su σ 45 (ix a1) ((σ 45 (ix a1)) + 1)) 46 (ix a1) 0) 47 (ix a1) (((su (su σ 45 (ix a1) ((σ 45 (ix a1)) + 1)) 46 (ix a1) 0) 47 (ix a1)) + 1)) 44 (ix a1)) then
          some (0, (su (su (su σ 45 (ix a1) ((σ 45 (ix a1)) + 1)) 46 (ix a1) 0) 47 (ix a1) (((su (su σ 45 (ix a1) ((σ 45 (ix a1)) + 1)) 46 (ix a1) 0) 47 (ix a1)) + 1)))
        else
          some (1, (su (su (su σ 45 (ix a1) ((σ 45 (ix a1)) + 1)) 46 (ix a1) 0) 47 (ix a1) (((su (su σ 45 (ix a1) ((σ 45 (ix a1)) + 1)) 46 (ix a1) 0) 47 (ix a1)) + 1)))
        else none
      else none
      else none
      else none
      else none
      else none
    else
      if inb a1 7 = true then
      if inb (14 + a1) 21 = true then
      if ((su σ 45 (ix a1) ((σ 45 (ix a1)) + 1)) 47 (ix a1)) = ((su σ 45 (ix a1) ((σ 45 (ix a1)) + 1)) 49 (ix (14 + a1))) then
        if inb a1 7 = true then
        if inb a1 7 = true then
        if inb a1 7 = true then
        lp_X4_advance_128 N a1 N a1 (su (su (su σ 45 (ix a1) ((σ 45 (ix a1)) + 1)) 47 (ix a1) 0) 44 (ix a1) (((su (su σ 45 (ix a1) ((σ 45 (ix a1)) + 1)) 47 (ix a1) 0) 44 (ix a1)) + 1))
        else none
        else none
        else none
      else
        if inb a1 7 = true then
        if 6 ≤ ((su σ 45 (ix a1) ((σ 45 (ix a1)) + 1)) 44 (ix a1)) then
          some (0, (su σ 45 (ix a1) ((σ 45 (ix a1)) + 1)))
        else
          some (1, (su σ 45 (ix a1) ((σ 45 (ix a1)) + 1)))
        else none
      else none
      else none
    else none
    else none
  else none
  else none
  else none
  else none
set_option maxRecDepth 100000 in
set_option maxHeartbeats 4000000 in
theorem c_X4_advance (l : Launch) (D : va_G) (ca : Nat → ClassId) (ad : Nat → Nat) (N : Nat) (a1 : Int32) (σ : St) (r : Int32) (τ : St) (hf : f_X4_advance N a1 σ = some (r, τ)) : cM l yX4_advance (.code yX4_advance cX4_advance 2 (some .boolean)) (rmk 3) D ca ad SH [.ref (ad 25), .int a1] σ (some (.int r)) τ := by
  refine cM.intro2 (own := RX4) (lo := [some (.ref (ad 25)), some (.int a1)]) (by decide) rfl (ccR (ccI cc0)) (Nat.le_of_ble_eq_true rfl) rfl ?_
  intro p e s m args below meth c A C hr hlk
  unfold f_X4_advance at hf
  refine s_aloadn (pc := 0) C dX4_advance_0 rfl ?_
  refine s_getR (pc := 1) (r := 45) C fl_X4_96 SH_25 rfl dX4_advance_1 ?_
  refine s_iloadn (pc := 4) C dX4_advance_4 rfl ?_
  refine s_aloadn (pc := 5) C dX4_advance_5 rfl ?_
  refine s_getR (pc := 6) (r := 45) C fl_X4_96 SH_25 rfl dX4_advance_6 ?_
  refine s_iloadn (pc := 9) C dX4_advance_9 rfl ?_
  obtain ⟨g_1, hf⟩ := gd hf
  refine s_iald (pc := 10) C SH_45 (ty0 ca) g_1 dX4_advance_10 ?_
  refine s_iconst (pc := 11) (v := 1) C dX4_advance_11 (by decide) ?_
  refine s_iadd (pc := 12) C dX4_advance_12 ?_
  obtain ⟨g_2, hf⟩ := gd hf
  refine s_iast (pc := 13) C SH_45 (ty0 ca) g_2 dX4_advance_13 ?_
  refine s_aloadn (pc := 14) C dX4_advance_14 rfl ?_
  refine s_getR (pc := 15) (r := 45) C fl_X4_96 SH_25 rfl dX4_advance_15 ?_
  refine s_iloadn (pc := 18) C dX4_advance_18 rfl ?_
  obtain ⟨g_3, hf⟩ := gd hf
  refine s_iald (pc := 19) C SH_45 (ty0 ca) g_3 dX4_advance_19 ?_
  refine s_aloadn (pc := 20) C dX4_advance_20 rfl ?_
  refine s_getR (pc := 21) (r := 49) C fl_X4_108 SH_25 rfl dX4_advance_21 ?_
  refine s_iloadn (pc := 24) C dX4_advance_24 rfl ?_
  obtain ⟨g_4, hf⟩ := gd hf
  refine s_iald (pc := 25) C SH_49 (ty0 ca) g_4 dX4_advance_25 ?_
  refine s_icmp_ne (pc := 26) (tgt := 50) C dX4_advance_26 (by decide) (fun h_1 => ?_) (fun h_1 => ?_)
  · replace hf := ifn h_1 hf
    refine s_aloadn (pc := 50) C dX4_advance_50 rfl ?_
    refine s_getR (pc := 51) (r := 46) C fl_X4_99 SH_25 rfl dX4_advance_51 ?_
    refine s_iloadn (pc := 54) C dX4_advance_54 rfl ?_
    obtain ⟨g_5, hf⟩ := gd hf
    refine s_iald (pc := 55) C SH_46 (ty0 ca) g_5 dX4_advance_55 ?_
    refine s_aloadn (pc := 56) C dX4_advance_56 rfl ?_
    refine s_getR (pc := 57) (r := 49) C fl_X4_108 SH_25 rfl dX4_advance_57 ?_
    refine s_bipush (pc := 60) (v := 7) C dX4_advance_60 (by decide) ?_
    refine s_iloadn (pc := 62) C dX4_advance_62 rfl ?_
    refine s_iadd (pc := 63) C dX4_advance_63 ?_
    obtain ⟨g_6, hf⟩ := gd hf
    refine s_iald (pc := 64) C SH_49 (ty0 ca) g_6 dX4_advance_64 ?_
    refine s_icmp_ne (pc := 65) (tgt := 89) C dX4_advance_65 (by decide) (fun h_2 => ?_) (fun h_2 => ?_)
    · replace hf := ifn h_2 hf
      refine s_aloadn (pc := 89) C dX4_advance_89 rfl ?_
      refine s_getR (pc := 90) (r := 47) C fl_X4_102 SH_25 rfl dX4_advance_90 ?_
      refine s_iloadn (pc := 93) C dX4_advance_93 rfl ?_
      obtain ⟨g_7, hf⟩ := gd hf
      refine s_iald (pc := 94) C SH_47 (ty0 ca) g_7 dX4_advance_94 ?_
      refine s_aloadn (pc := 95) C dX4_advance_95 rfl ?_
      refine s_getR (pc := 96) (r := 49) C fl_X4_108 SH_25 rfl dX4_advance_96 ?_
      refine s_bipush (pc := 99) (v := 14) C dX4_advance_99 (by decide) ?_
      refine s_iloadn (pc := 101) C dX4_advance_101 rfl ?_
      refine s_iadd (pc := 102) C dX4_advance_102 ?_
      obtain ⟨g_8, hf⟩ := gd hf
      refine s_iald (pc := 103) C SH_49 (ty0 ca) g_8 dX4_advance_103 ?_
      refine s_icmp_ne (pc := 104) (tgt := 175) C dX4_advance_104 (by decide) (fun h_3 => ?_) (fun h_3 => ?_)
      · replace hf := ifn h_3 hf
        refine s_aloadn (pc := 175) C dX4_advance_175 rfl ?_
        refine s_getR (pc := 176) (r := 44) C fl_X4_93 SH_25 rfl dX4_advance_176 ?_
        refine s_iloadn (pc := 179) C dX4_advance_179 rfl ?_
        obtain ⟨g_9, hf⟩ := gd hf
        refine s_iald (pc := 180) C SH_44 (ty0 ca) g_9 dX4_advance_180 ?_
        refine s_bipush (pc := 181) (v := 6) C dX4_advance_181 (by decide) ?_
        refine s_icmp_ge (pc := 183) (tgt := 190) C dX4_advance_183 (by decide) (fun h_4 => ?_) (fun h_4 => ?_)
        · replace hf := ifp h_4 hf
          refine s_iconst (pc := 190) (v := 0) C dX4_advance_190 (by decide) ?_
          exact s_zret (pc := 191) C hr hlk dX4_advance_191 (by decide) (congrArg (fun z => some (Value.int z)) (rt hf).1) (rt hf).2
        · replace hf := ifn h_4 hf
          refine s_iconst (pc := 186) (v := 1) C dX4_advance_186 (by decide) ?_
          refine s_goto (pc := 187) (tgt := 191) C dX4_advance_187 (by decide) ?_
          exact s_zret (pc := 191) C hr hlk dX4_advance_191 (by decide) (congrArg (fun z => some (Value.int z)) (rt hf).1) (rt hf).2
      · replace hf := ifp h_3 hf
        refine s_aloadn (pc := 107) C dX4_advance_107 rfl ?_
        refine s_getR (pc := 108) (r := 47) C fl_X4_102 SH_25 rfl dX4_advance_108 ?_
        refine s_iloadn (pc := 111) C dX4_advance_111 rfl ?_
        refine s_iconst (pc := 112) (v := 0) C dX4_advance_112 (by decide) ?_
        obtain ⟨g_10, hf⟩ := gd hf
        refine s_iast (pc := 113) C SH_47 (ty0 ca) g_10 dX4_advance_113 ?_
        refine s_aloadn (pc := 114) C dX4_advance_114 rfl ?_
        refine s_getR (pc := 115) (r := 44) C fl_X4_93 SH_25 rfl dX4_advance_115 ?_
        refine s_iloadn (pc := 118) C dX4_advance_118 rfl ?_
        refine s_aloadn (pc := 119) C dX4_advance_119 rfl ?_
        refine s_getR (pc := 120) (r := 44) C fl_X4_93 SH_25 rfl dX4_advance_120 ?_
        refine s_iloadn (pc := 123) C dX4_advance_123 rfl ?_
        obtain ⟨g_11, hf⟩ := gd hf
        refine s_iald (pc := 124) C SH_44 (ty0 ca) g_11 dX4_advance_124 ?_
        refine s_iconst (pc := 125) (v := 1) C dX4_advance_125 (by decide) ?_
        refine s_iadd (pc := 126) C dX4_advance_126 ?_
        obtain ⟨g_12, hf⟩ := gd hf
        refine s_iast (pc := 127) C SH_44 (ty0 ca) g_12 dX4_advance_127 ?_
        refine s_few (lo' := [some (.ref (ad 25)), some (.int a1)]) (lfS (lfS lf0)) ?_
        exact w_X4_advance_128 C hr hlk N a1 r τ  N a1 (su (su (su σ 45 (ix a1) ((σ 45 (ix a1)) + 1)) 47 (ix a1) 0) 44 (ix a1) (((su (su σ 45 (ix a1) ((σ 45 (ix a1)) + 1)) 47 (ix a1) 0) 44 (ix a1)) + 1)) hf
    · replace hf := ifp h_2 hf
      refine s_aloadn (pc := 68) C dX4_advance_68 rfl ?_
      refine s_getR (pc := 69) (r := 46) C fl_X4_99 SH_25 rfl dX4_advance_69 ?_
      refine s_iloadn (pc := 72) C dX4_advance_72 rfl ?_
      refine s_iconst (pc := 73) (v := 0) C dX4_advance_73 (by decide) ?_
      obtain ⟨g_13, hf⟩ := gd hf
      refine s_iast (pc := 74) C SH_46 (ty0 ca) g_13 dX4_advance_74 ?_
      refine s_aloadn (pc := 75) C dX4_advance_75 rfl ?_
      refine s_getR (pc := 76) (r := 47) C fl_X4_102 SH_25 rfl dX4_advance_76 ?_
      refine s_iloadn (pc := 79) C dX4_advance_79 rfl ?_
      refine s_aloadn (pc := 80) C dX4_advance_80 rfl ?_
      refine s_getR (pc := 81) (r := 47) C fl_X4_102 SH_25 rfl dX4_advance_81 ?_
      refine s_iloadn (pc := 84) C dX4_advance_84 rfl ?_
      obtain ⟨g_14, hf⟩ := gd hf
      refine s_iald (pc := 85) C SH_47 (ty0 ca) g_14 dX4_advance_85 ?_
      refine s_iconst (pc := 86) (v := 1) C dX4_advance_86 (by decide) ?_
      refine s_iadd (pc := 87) C dX4_advance_87 ?_
      obtain ⟨g_15, hf⟩ := gd hf
      refine s_iast (pc := 88) C SH_47 (ty0 ca) g_15 dX4_advance_88 ?_
      refine s_aloadn (pc := 89) C dX4_advance_89 rfl ?_
      refine s_getR (pc := 90) (r := 47) C fl_X4_102 SH_25 rfl dX4_advance_90 ?_
      refine s_iloadn (pc := 93) C dX4_advance_93 rfl ?_
      obtain ⟨g_16, hf⟩ := gd hf
      refine s_iald (pc := 94) C SH_47 (ty0 ca) g_16 dX4_advance_94 ?_
      refine s_aloadn (pc := 95) C dX4_advance_95 rfl ?_
      refine s_getR (pc := 96) (r := 49) C fl_X4_108 SH_25 rfl dX4_advance_96 ?_
      refine s_bipush (pc := 99) (v := 14) C dX4_advance_99 (by decide) ?_
      refine s_iloadn (pc := 101) C dX4_advance_101 rfl ?_
      refine s_iadd (pc := 102) C dX4_advance_102 ?_
      obtain ⟨g_17, hf⟩ := gd hf
      refine s_iald (pc := 103) C SH_49 (ty0 ca) g_17 dX4_advance_103 ?_
      refine s_icmp_ne (pc := 104) (tgt := 175) C dX4_advance_104 (by decide) (fun h_5 => ?_) (fun h_5 => ?_)
      · replace hf := ifn h_5 hf
        refine s_aloadn (pc := 175) C dX4_advance_175 rfl ?_
        refine s_getR (pc := 176) (r := 44) C fl_X4_93 SH_25 rfl dX4_advance_176 ?_
        refine s_iloadn (pc := 179) C dX4_advance_179 rfl ?_
        obtain ⟨g_18, hf⟩ := gd hf
        refine s_iald (pc := 180) C SH_44 (ty0 ca) g_18 dX4_advance_180 ?_
        refine s_bipush (pc := 181) (v := 6) C dX4_advance_181 (by decide) ?_
        refine s_icmp_ge (pc := 183) (tgt := 190) C dX4_advance_183 (by decide) (fun h_6 => ?_) (fun h_6 => ?_)
        · replace hf := ifp h_6 hf
          refine s_iconst (pc := 190) (v := 0) C dX4_advance_190 (by decide) ?_
          exact s_zret (pc := 191) C hr hlk dX4_advance_191 (by decide) (congrArg (fun z => some (Value.int z)) (rt hf).1) (rt hf).2
        · replace hf := ifn h_6 hf
          refine s_iconst (pc := 186) (v := 1) C dX4_advance_186 (by decide) ?_
          refine s_goto (pc := 187) (tgt := 191) C dX4_advance_187 (by decide) ?_
          exact s_zret (pc := 191) C hr hlk dX4_advance_191 (by decide) (congrArg (fun z => some (Value.int z)) (rt hf).1) (rt hf).2
      · replace hf := ifp h_5 hf
        refine s_aloadn (pc := 107) C dX4_advance_107 rfl ?_
        refine s_getR (pc := 108) (r := 47) C fl_X4_102 SH_25 rfl dX4_advance_108 ?_
        refine s_iloadn (pc := 111) C dX4_advance_111 rfl ?_
        refine s_iconst (pc := 112) (v := 0) C dX4_advance_112 (by decide) ?_
        obtain ⟨g_19, hf⟩ := gd hf
        refine s_iast (pc := 113) C SH_47 (ty0 ca) g_19 dX4_advance_113 ?_
        refine s_aloadn (pc := 114) C dX4_advance_114 rfl ?_
        refine s_getR (pc := 115) (r := 44) C fl_X4_93 SH_25 rfl dX4_advance_115 ?_
        refine s_iloadn (pc := 118) C dX4_advance_118 rfl ?_
        refine s_aloadn (pc := 119) C dX4_advance_119 rfl ?_
        refine s_getR (pc := 120) (r := 44) C fl_X4_93 SH_25 rfl dX4_advance_120 ?_
        refine s_iloadn (pc := 123) C dX4_advance_123 rfl ?_
        obtain ⟨g_20, hf⟩ := gd hf
        refine s_iald (pc := 124) C SH_44 (ty0 ca) g_20 dX4_advance_124 ?_
        refine s_iconst (pc := 125) (v := 1) C dX4_advance_125 (by decide) ?_
        refine s_iadd (pc := 126) C dX4_advance_126 ?_
        obtain ⟨g_21, hf⟩ := gd hf
        refine s_iast (pc := 127) C SH_44 (ty0 ca) g_21 dX4_advance_127 ?_
        refine s_few (lo' := [some (.ref (ad 25)), some (.int a1)]) (lfS (lfS lf0)) ?_
        exact w_X4_advance_128 C hr hlk N a1 r τ  N a1 (su (su (su (su (su σ 45 (ix a1) ((σ 45 (ix a1)) + 1)) 46 (ix a1) 0) 47 (ix a1) (((su (su σ 45 (ix a1) ((σ 45 (ix a1)) + 1)) 46 (ix a1) 0) 47 (ix a1)) + 1)) 47 (ix a1) 0) 44 (ix a1) (((su (su (su (su σ 45 (ix a1) ((σ 45 (ix a1)) + 1)) 46 (ix a1) 0) 47 (ix a1) (((su (su σ 45 (ix a1) ((σ 45 (ix a1)) + 1)) 46 (ix a1) 0) 47 (ix a1)) + 1)) 47 (ix a1) 0) 44 (ix a1)) + 1)) hf
  · replace hf := ifp h_1 hf
    refine s_aloadn (pc := 29) C dX4_advance_29 rfl ?_
    refine s_getR (pc := 30) (r := 45) C fl_X4_96 SH_25 rfl dX4_advance_30 ?_
    refine s_iloadn (pc := 33) C dX4_advance_33 rfl ?_
    refine s_iconst (pc := 34) (v := 0) C dX4_advance_34 (by decide) ?_
    obtain ⟨g_22, hf⟩ := gd hf
    refine s_iast (pc := 35) C SH_45 (ty0 ca) g_22 dX4_advance_35 ?_
    refine s_aloadn (pc := 36) C dX4_advance_36 rfl ?_
    refine s_getR (pc := 37) (r := 46) C fl_X4_99 SH_25 rfl dX4_advance_37 ?_
    refine s_iloadn (pc := 40) C dX4_advance_40 rfl ?_
    refine s_aloadn (pc := 41) C dX4_advance_41 rfl ?_
    refine s_getR (pc := 42) (r := 46) C fl_X4_99 SH_25 rfl dX4_advance_42 ?_
    refine s_iloadn (pc := 45) C dX4_advance_45 rfl ?_
    obtain ⟨g_23, hf⟩ := gd hf
    refine s_iald (pc := 46) C SH_46 (ty0 ca) g_23 dX4_advance_46 ?_
    refine s_iconst (pc := 47) (v := 1) C dX4_advance_47 (by decide) ?_
    refine s_iadd (pc := 48) C dX4_advance_48 ?_
    obtain ⟨g_24, hf⟩ := gd hf
    refine s_iast (pc := 49) C SH_46 (ty0 ca) g_24 dX4_advance_49 ?_
    refine s_aloadn (pc := 50) C dX4_advance_50 rfl ?_
    refine s_getR (pc := 51) (r := 46) C fl_X4_99 SH_25 rfl dX4_advance_51 ?_
    refine s_iloadn (pc := 54) C dX4_advance_54 rfl ?_
    obtain ⟨g_25, hf⟩ := gd hf
    refine s_iald (pc := 55) C SH_46 (ty0 ca) g_25 dX4_advance_55 ?_
    refine s_aloadn (pc := 56) C dX4_advance_56 rfl ?_
    refine s_getR (pc := 57) (r := 49) C fl_X4_108 SH_25 rfl dX4_advance_57 ?_
    refine s_bipush (pc := 60) (v := 7) C dX4_advance_60 (by decide) ?_
    refine s_iloadn (pc := 62) C dX4_advance_62 rfl ?_
    refine s_iadd (pc := 63) C dX4_advance_63 ?_
    obtain ⟨g_26, hf⟩ := gd hf
    refine s_iald (pc := 64) C SH_49 (ty0 ca) g_26 dX4_advance_64 ?_
    refine s_icmp_ne (pc := 65) (tgt := 89) C dX4_advance_65 (by decide) (fun h_7 => ?_) (fun h_7 => ?_)
    · replace hf := ifn h_7 hf
      refine s_aloadn (pc := 89) C dX4_advance_89 rfl ?_
      refine s_getR (pc := 90) (r := 47) C fl_X4_102 SH_25 rfl dX4_advance_90 ?_
      refine s_iloadn (pc := 93) C dX4_advance_93 rfl ?_
      obtain ⟨g_27, hf⟩ := gd hf
      refine s_iald (pc := 94) C SH_47 (ty0 ca) g_27 dX4_advance_94 ?_
      refine s_aloadn (pc := 95) C dX4_advance_95 rfl ?_
      refine s_getR (pc := 96) (r := 49) C fl_X4_108 SH_25 rfl dX4_advance_96 ?_
      refine s_bipush (pc := 99) (v := 14) C dX4_advance_99 (by decide) ?_
      refine s_iloadn (pc := 101) C dX4_advance_101 rfl ?_
      refine s_iadd (pc := 102) C dX4_advance_102 ?_
      obtain ⟨g_28, hf⟩ := gd hf
      refine s_iald (pc := 103) C SH_49 (ty0 ca) g_28 dX4_advance_103 ?_
      refine s_icmp_ne (pc := 104) (tgt := 175) C dX4_advance_104 (by decide) (fun h_8 => ?_) (fun h_8 => ?_)
      · replace hf := ifn h_8 hf
        refine s_aloadn (pc := 175) C dX4_advance_175 rfl ?_
        refine s_getR (pc := 176) (r := 44) C fl_X4_93 SH_25 rfl dX4_advance_176 ?_
        refine s_iloadn (pc := 179) C dX4_advance_179 rfl ?_
        obtain ⟨g_29, hf⟩ := gd hf
        refine s_iald (pc := 180) C SH_44 (ty0 ca) g_29 dX4_advance_180 ?_
        refine s_bipush (pc := 181) (v := 6) C dX4_advance_181 (by decide) ?_
        refine s_icmp_ge (pc := 183) (tgt := 190) C dX4_advance_183 (by decide) (fun h_9 => ?_) (fun h_9 => ?_)
        · replace hf := ifp h_9 hf
          refine s_iconst (pc := 190) (v := 0) C dX4_advance_190 (by decide) ?_
          exact s_zret (pc := 191) C hr hlk dX4_advance_191 (by decide) (congrArg (fun z => some (Value.int z)) (rt hf).1) (rt hf).2
        · replace hf := ifn h_9 hf
          refine s_iconst (pc := 186) (v := 1) C dX4_advance_186 (by decide) ?_
          refine s_goto (pc := 187) (tgt := 191) C dX4_advance_187 (by decide) ?_
          exact s_zret (pc := 191) C hr hlk dX4_advance_191 (by decide) (congrArg (fun z => some (Value.int z)) (rt hf).1) (rt hf).2
      · replace hf := ifp h_8 hf
        refine s_aloadn (pc := 107) C dX4_advance_107 rfl ?_
        refine s_getR (pc := 108) (r := 47) C fl_X4_102 SH_25 rfl dX4_advance_108 ?_
        refine s_iloadn (pc := 111) C dX4_advance_111 rfl ?_
        refine s_iconst (pc := 112) (v := 0) C dX4_advance_112 (by decide) ?_
        obtain ⟨g_30, hf⟩ := gd hf
        refine s_iast (pc := 113) C SH_47 (ty0 ca) g_30 dX4_advance_113 ?_
        refine s_aloadn (pc := 114) C dX4_advance_114 rfl ?_
        refine s_getR (pc := 115) (r := 44) C fl_X4_93 SH_25 rfl dX4_advance_115 ?_
        refine s_iloadn (pc := 118) C dX4_advance_118 rfl ?_
        refine s_aloadn (pc := 119) C dX4_advance_119 rfl ?_
        refine s_getR (pc := 120) (r := 44) C fl_X4_93 SH_25 rfl dX4_advance_120 ?_
        refine s_iloadn (pc := 123) C dX4_advance_123 rfl ?_
        obtain ⟨g_31, hf⟩ := gd hf
        refine s_iald (pc := 124) C SH_44 (ty0 ca) g_31 dX4_advance_124 ?_
        refine s_iconst (pc := 125) (v := 1) C dX4_advance_125 (by decide) ?_
        refine s_iadd (pc := 126) C dX4_advance_126 ?_
        obtain ⟨g_32, hf⟩ := gd hf
        refine s_iast (pc := 127) C SH_44 (ty0 ca) g_32 dX4_advance_127 ?_
        refine s_few (lo' := [some (.ref (ad 25)), some (.int a1)]) (lfS (lfS lf0)) ?_
        exact w_X4_advance_128 C hr hlk N a1 r τ  N a1 (su (su (su (su (su σ 45 (ix a1) ((σ 45 (ix a1)) + 1)) 45 (ix a1) 0) 46 (ix a1) (((su (su σ 45 (ix a1) ((σ 45 (ix a1)) + 1)) 45 (ix a1) 0) 46 (ix a1)) + 1)) 47 (ix a1) 0) 44 (ix a1) (((su (su (su (su σ 45 (ix a1) ((σ 45 (ix a1)) + 1)) 45 (ix a1) 0) 46 (ix a1) (((su (su σ 45 (ix a1) ((σ 45 (ix a1)) + 1)) 45 (ix a1) 0) 46 (ix a1)) + 1)) 47 (ix a1) 0) 44 (ix a1)) + 1)) hf
    · replace hf := ifp h_7 hf
      refine s_aloadn (pc := 68) C dX4_advance_68 rfl ?_
      refine s_getR (pc := 69) (r := 46) C fl_X4_99 SH_25 rfl dX4_advance_69 ?_
      refine s_iloadn (pc := 72) C dX4_advance_72 rfl ?_
      refine s_iconst (pc := 73) (v := 0) C dX4_advance_73 (by decide) ?_
      obtain ⟨g_33, hf⟩ := gd hf
      refine s_iast (pc := 74) C SH_46 (ty0 ca) g_33 dX4_advance_74 ?_
      refine s_aloadn (pc := 75) C dX4_advance_75 rfl ?_
      refine s_getR (pc := 76) (r := 47) C fl_X4_102 SH_25 rfl dX4_advance_76 ?_
      refine s_iloadn (pc := 79) C dX4_advance_79 rfl ?_
      refine s_aloadn (pc := 80) C dX4_advance_80 rfl ?_
      refine s_getR (pc := 81) (r := 47) C fl_X4_102 SH_25 rfl dX4_advance_81 ?_
      refine s_iloadn (pc := 84) C dX4_advance_84 rfl ?_
      obtain ⟨g_34, hf⟩ := gd hf
      refine s_iald (pc := 85) C SH_47 (ty0 ca) g_34 dX4_advance_85 ?_
      refine s_iconst (pc := 86) (v := 1) C dX4_advance_86 (by decide) ?_
      refine s_iadd (pc := 87) C dX4_advance_87 ?_
      obtain ⟨g_35, hf⟩ := gd hf
      refine s_iast (pc := 88) C SH_47 (ty0 ca) g_35 dX4_advance_88 ?_
      refine s_aloadn (pc := 89) C dX4_advance_89 rfl ?_
      refine s_getR (pc := 90) (r := 47) C fl_X4_102 SH_25 rfl dX4_advance_90 ?_
      refine s_iloadn (pc := 93) C dX4_advance_93 rfl ?_
      obtain ⟨g_36, hf⟩ := gd hf
      refine s_iald (pc := 94) C SH_47 (ty0 ca) g_36 dX4_advance_94 ?_
      refine s_aloadn (pc := 95) C dX4_advance_95 rfl ?_
      refine s_getR (pc := 96) (r := 49) C fl_X4_108 SH_25 rfl dX4_advance_96 ?_
      refine s_bipush (pc := 99) (v := 14) C dX4_advance_99 (by decide) ?_
      refine s_iloadn (pc := 101) C dX4_advance_101 rfl ?_
      refine s_iadd (pc := 102) C dX4_advance_102 ?_
      obtain ⟨g_37, hf⟩ := gd hf
      refine s_iald (pc := 103) C SH_49 (ty0 ca) g_37 dX4_advance_103 ?_
      refine s_icmp_ne (pc := 104) (tgt := 175) C dX4_advance_104 (by decide) (fun h_10 => ?_) (fun h_10 => ?_)
      · replace hf := ifn h_10 hf
        refine s_aloadn (pc := 175) C dX4_advance_175 rfl ?_
        refine s_getR (pc := 176) (r := 44) C fl_X4_93 SH_25 rfl dX4_advance_176 ?_
        refine s_iloadn (pc := 179) C dX4_advance_179 rfl ?_
        obtain ⟨g_38, hf⟩ := gd hf
        refine s_iald (pc := 180) C SH_44 (ty0 ca) g_38 dX4_advance_180 ?_
        refine s_bipush (pc := 181) (v := 6) C dX4_advance_181 (by decide) ?_
        refine s_icmp_ge (pc := 183) (tgt := 190) C dX4_advance_183 (by decide) (fun h_11 => ?_) (fun h_11 => ?_)
        · replace hf := ifp h_11 hf
          refine s_iconst (pc := 190) (v := 0) C dX4_advance_190 (by decide) ?_
          exact s_zret (pc := 191) C hr hlk dX4_advance_191 (by decide) (congrArg (fun z => some (Value.int z)) (rt hf).1) (rt hf).2
        · replace hf := ifn h_11 hf
          refine s_iconst (pc := 186) (v := 1) C dX4_advance_186 (by decide) ?_
          refine s_goto (pc := 187) (tgt := 191) C dX4_advance_187 (by decide) ?_
          exact s_zret (pc := 191) C hr hlk dX4_advance_191 (by decide) (congrArg (fun z => some (Value.int z)) (rt hf).1) (rt hf).2
      · replace hf := ifp h_10 hf
        refine s_aloadn (pc := 107) C dX4_advance_107 rfl ?_
        refine s_getR (pc := 108) (r := 47) C fl_X4_102 SH_25 rfl dX4_advance_108 ?_
        refine s_iloadn (pc := 111) C dX4_advance_111 rfl ?_
        refine s_iconst (pc := 112) (v := 0) C dX4_advance_112 (by decide) ?_
        obtain ⟨g_39, hf⟩ := gd hf
        refine s_iast (pc := 113) C SH_47 (ty0 ca) g_39 dX4_advance_113 ?_
        refine s_aloadn (pc := 114) C dX4_advance_114 rfl ?_
        refine s_getR (pc := 115) (r := 44) C fl_X4_93 SH_25 rfl dX4_advance_115 ?_
        refine s_iloadn (pc := 118) C dX4_advance_118 rfl ?_
        refine s_aloadn (pc := 119) C dX4_advance_119 rfl ?_
        refine s_getR (pc := 120) (r := 44) C fl_X4_93 SH_25 rfl dX4_advance_120 ?_
        refine s_iloadn (pc := 123) C dX4_advance_123 rfl ?_
        obtain ⟨g_40, hf⟩ := gd hf
        refine s_iald (pc := 124) C SH_44 (ty0 ca) g_40 dX4_advance_124 ?_
        refine s_iconst (pc := 125) (v := 1) C dX4_advance_125 (by decide) ?_
        refine s_iadd (pc := 126) C dX4_advance_126 ?_
        obtain ⟨g_41, hf⟩ := gd hf
        refine s_iast (pc := 127) C SH_44 (ty0 ca) g_41 dX4_advance_127 ?_
        refine s_few (lo' := [some (.ref (ad 25)), some (.int a1)]) (lfS (lfS lf0)) ?_
        exact w_X4_advance_128 C hr hlk N a1 r τ  N a1 (su (su (su (su (su (su (su σ 45 (ix a1) ((σ 45 (ix a1)) + 1)) 45 (ix a1) 0) 46 (ix a1) (((su (su σ 45 (ix a1) ((σ 45 (ix a1)) + 1)) 45 (ix a1) 0) 46 (ix a1)) + 1)) 46 (ix a1) 0) 47 (ix a1) (((su (su (su (su σ 45 (ix a1) ((σ 45 (ix a1)) + 1)) 45 (ix a1) 0) 46 (ix a1) (((su (su σ 45 (ix a1) ((σ 45 (ix a1)) + 1)) 45 (ix a1) 0) 46 (ix a1)) + 1)) 46 (ix a1) 0) 47 (ix a1)) + 1)) 47 (ix a1) 0) 44 (ix a1) (((su (su (su (su (su (su σ 45 (ix a1) ((σ 45 (ix a1)) + 1)) 45 (ix a1) 0) 46 (ix a1) (((su (su σ 45 (ix a1) ((σ 45 (ix a1)) + 1)) 45 (ix a1) 0) 46 (ix a1)) + 1)) 46 (ix a1) 0) 47 (ix a1) (((su (su (su (su σ 45 (ix a1) ((σ 45 (ix a1)) + 1)) 45 (ix a1) 0) 46 (ix a1) (((su (su σ 45 (ix a1) ((σ 45 (ix a1)) + 1)) 45 (ix a1) 0) 46 (ix a1)) + 1)) 46 (ix a1) 0) 47 (ix a1)) + 1)) 47 (ix a1) 0) 44 (ix a1)) + 1)) hf
def lp_X4_look_33 (N : Nat)  : Nat → Int32 → Int32 → St → Option (St)
  | 0, _, _, _ => none
  | n + 1, v1, v2, σ =>
    if 6 ≤ v2 then
      some σ
    else
      if inb v2 6 = true then
      if inb v2 6 = true then
      if inb v2 6 = true then
      if inb v2 6 = true then
      if inb v2 6 = true then
      if inb v2 6 = true then
      if inb v2 6 = true then
      if inb v2 6 = true then
      lp_X4_look_33 N   n v1 (v2 + 1) (su (su (su (su σ 39 (ix v2) (σ 32 (ix v2))) 40 (ix v2) ((su σ 39 (ix v2) (σ 32 (ix v2))) 33 (ix v2))) 41 (ix v2) ((su (su σ 39 (ix v2) (σ 32 (ix v2))) 40 (ix v2) ((su σ 39 (ix v2) (σ 32 (ix v2))) 33 (ix v2))) 34 (ix v2))) 42 (ix v2) ((su (su (su σ 39 (ix v2) (σ 32 (ix v2))) 40 (ix v2) ((su σ 39 (ix v2) (σ 32 (ix v2))) 33 (ix v2))) 41 (ix v2) ((su (su σ 39 (ix v2) (σ 32 (ix v2))) 40 (ix v2) ((su σ 39 (ix v2) (σ 32 (ix v2))) 33 (ix v2))) 34 (ix v2))) 35 (ix v2)))
      else none
      else none
      else none
      else none
      else none
      else none
      else none
      else none
set_option maxRecDepth 100000 in
set_option maxHeartbeats 4000000 in
theorem w_X4_look_33 {l : Launch} {D : va_G} {ca : Nat → ClassId} {ad : Nat → Nat} {p : Program} {e : Env} {s : State} {m : MethodId} {args : Array Value} {below : List Frame} {meth : Method} {c : Code} {A : Nat → Prop} (C : CX p s m args c D ca A RX4 cX4_look 3) (hr : meth.sig.returnType = none) (hlk : meth.locks = false) (N : Nat)  (τ : St)  : ∀ (n : Nat) (v1 v2 : Int32) (σ : St), lp_X4_look_33 N   n v1 v2 σ = some τ → WW p l e (rmk 2) s m args below meth c 0 0 (EQ D ca ad SH A below args s none τ) A D ca ad SH 33 [some (.ref (ad 25)), some (.int v1), some (.int v2)] [] σ := by
  intro n
  induction n with
  | zero => intro v1 v2 σ hf; cases hf
  | succ n ih =>
    intro v1 v2 σ hf
    rw [lp_X4_look_33] at hf
    refine s_iloadn (pc := 33) C dX4_look_33 rfl ?_
    refine s_bipush (pc := 34) (v := 6) C dX4_look_34 (by decide) ?_
    refine s_icmp_ge (pc := 36) (tgt := 93) C dX4_look_36 (by decide) (fun h_1 => ?_) (fun h_1 => ?_)
    · replace hf := ifp h_1 hf
      exact s_vret (pc := 93) C hr hlk dX4_look_93 rfl (rtv hf)
    · replace hf := ifn h_1 hf
      refine s_aloadn (pc := 39) C dX4_look_39 rfl ?_
      refine s_getR (pc := 40) (r := 39) C fl_X4_69 SH_25 rfl dX4_look_40 ?_
      refine s_iloadn (pc := 43) C dX4_look_43 rfl ?_
      refine s_aloadn (pc := 44) C dX4_look_44 rfl ?_
      refine s_getR (pc := 45) (r := 32) C fl_X4_41 SH_25 rfl dX4_look_45 ?_
      refine s_iloadn (pc := 48) C dX4_look_48 rfl ?_
      obtain ⟨g_1, hf⟩ := gd hf
      refine s_iald (pc := 49) C SH_32 (ty0 ca) g_1 dX4_look_49 ?_
      obtain ⟨g_2, hf⟩ := gd hf
      refine s_iast (pc := 50) C SH_39 (ty0 ca) g_2 dX4_look_50 ?_
      refine s_aloadn (pc := 51) C dX4_look_51 rfl ?_
      refine s_getR (pc := 52) (r := 40) C fl_X4_72 SH_25 rfl dX4_look_52 ?_
      refine s_iloadn (pc := 55) C dX4_look_55 rfl ?_
      refine s_aloadn (pc := 56) C dX4_look_56 rfl ?_
      refine s_getR (pc := 57) (r := 33) C fl_X4_44 SH_25 rfl dX4_look_57 ?_
      refine s_iloadn (pc := 60) C dX4_look_60 rfl ?_
      obtain ⟨g_3, hf⟩ := gd hf
      refine s_iald (pc := 61) C SH_33 (ty0 ca) g_3 dX4_look_61 ?_
      obtain ⟨g_4, hf⟩ := gd hf
      refine s_iast (pc := 62) C SH_40 (ty0 ca) g_4 dX4_look_62 ?_
      refine s_aloadn (pc := 63) C dX4_look_63 rfl ?_
      refine s_getR (pc := 64) (r := 41) C fl_X4_75 SH_25 rfl dX4_look_64 ?_
      refine s_iloadn (pc := 67) C dX4_look_67 rfl ?_
      refine s_aloadn (pc := 68) C dX4_look_68 rfl ?_
      refine s_getR (pc := 69) (r := 34) C fl_X4_47 SH_25 rfl dX4_look_69 ?_
      refine s_iloadn (pc := 72) C dX4_look_72 rfl ?_
      obtain ⟨g_5, hf⟩ := gd hf
      refine s_iald (pc := 73) C SH_34 (ty0 ca) g_5 dX4_look_73 ?_
      obtain ⟨g_6, hf⟩ := gd hf
      refine s_iast (pc := 74) C SH_41 (ty0 ca) g_6 dX4_look_74 ?_
      refine s_aloadn (pc := 75) C dX4_look_75 rfl ?_
      refine s_getR (pc := 76) (r := 42) C fl_X4_78 SH_25 rfl dX4_look_76 ?_
      refine s_iloadn (pc := 79) C dX4_look_79 rfl ?_
      refine s_aloadn (pc := 80) C dX4_look_80 rfl ?_
      refine s_getR (pc := 81) (r := 35) C fl_X4_50 SH_25 rfl dX4_look_81 ?_
      refine s_iloadn (pc := 84) C dX4_look_84 rfl ?_
      obtain ⟨g_7, hf⟩ := gd hf
      refine s_iald (pc := 85) C SH_35 (ty0 ca) g_7 dX4_look_85 ?_
      obtain ⟨g_8, hf⟩ := gd hf
      refine s_iast (pc := 86) C SH_42 (ty0 ca) g_8 dX4_look_86 ?_
      refine s_iinc (pc := 87) (v := (v2 + 1)) (lo' := [some (.ref (ad 25)), some (.int v1), some (.int (v2 + 1))]) C dX4_look_87 rfl rfl rfl ?_
      refine s_goto (pc := 90) (tgt := 33) C dX4_look_90 (by decide) ?_
      refine s_few (lo' := [some (.ref (ad 25)), some (.int v1), some (.int (v2 + 1))]) (lfS (lfS (lfS lf0))) ?_
      exact ih v1 (v2 + 1) (su (su (su (su σ 39 (ix v2) (σ 32 (ix v2))) 40 (ix v2) ((su σ 39 (ix v2) (σ 32 (ix v2))) 33 (ix v2))) 41 (ix v2) ((su (su σ 39 (ix v2) (σ 32 (ix v2))) 40 (ix v2) ((su σ 39 (ix v2) (σ 32 (ix v2))) 33 (ix v2))) 34 (ix v2))) 42 (ix v2) ((su (su (su σ 39 (ix v2) (σ 32 (ix v2))) 40 (ix v2) ((su σ 39 (ix v2) (σ 32 (ix v2))) 33 (ix v2))) 41 (ix v2) ((su (su σ 39 (ix v2) (σ 32 (ix v2))) 40 (ix v2) ((su σ 39 (ix v2) (σ 32 (ix v2))) 33 (ix v2))) 34 (ix v2))) 35 (ix v2))) hf
def f_X4_look (N : Nat)  (σ : St) : Option (St) :=
  bn (f_X4_volumeNow N σ) fun r_1 τ_1 =>
  if (τ_1 25 20 &&& 1) = 0 then
    lp_X4_look_33 N  N r_1 0 (su (su τ_1 25 20 1) 25 21 r_1)
  else
    if (τ_1 25 21) < r_1 then
      lp_X4_look_33 N  N r_1 0 (su (su τ_1 25 20 1) 25 21 r_1)
    else
      some τ_1
set_option maxRecDepth 100000 in
set_option maxHeartbeats 4000000 in
theorem c_X4_look (l : Launch) (D : va_G) (ca : Nat → ClassId) (ad : Nat → Nat) (N : Nat)  (σ : St) (τ : St) (hf : f_X4_look N  σ = some τ) : cM l yX4_look (.code yX4_look cX4_look 3 none) (rmk 2) D ca ad SH [.ref (ad 25)] σ none τ := by
  refine cM.intro2 (own := RX4) (lo := [some (.ref (ad 25)), none, none]) (by decide) rfl (ccR cc0) (Nat.le_of_ble_eq_true rfl) rfl ?_
  intro p e s m args below meth c A C hr hlk
  unfold f_X4_look at hf
  refine s_aloadn (pc := 0) C dX4_look_0 rfl ?_
  obtain ⟨r_1, τ_1, e_1, hf⟩ := bnd hf
  refine s_callV (pc := 1) (rest := []) C rfl (c_X4_volumeNow l D ca ad N  σ r_1 τ_1 e_1) kv_X4_165 ⟨rfl, rfl⟩ (by decide) SH_25 ⟨_, rfl, rfl⟩ rfl rfl (Nat.le_of_ble_eq_true rfl) dX4_look_1 ⟨Nat.zero_le _, Nat.zero_le _⟩ ?_
  refine s_st (st' := [.int r_1]) rfl ?_
  refine s_istoren (pc := 4) (lo' := [some (.ref (ad 25)), some (.int r_1), none]) C dX4_look_4 (Nat.le_of_ble_eq_true rfl) rfl ?_
  refine s_aloadn (pc := 5) C dX4_look_5 rfl ?_
  refine s_getZ (pc := 6) C fl_X4_62 SH_25 rfl dX4_look_6 ?_
  refine s_if_eq (pc := 9) (tgt := 21) C dX4_look_9 (by decide) (fun h_1 => ?_) (fun h_1 => ?_)
  · replace hf := ifp h_1 hf
    refine s_aloadn (pc := 21) C dX4_look_21 rfl ?_
    refine s_iconst (pc := 22) (v := 1) C dX4_look_22 (by decide) ?_
    refine s_putZ (pc := 23) C fp_X4_62 SH_25 rfl (by decide) dX4_look_23 ?_
    refine s_aloadn (pc := 26) C dX4_look_26 rfl ?_
    refine s_iloadn (pc := 27) C dX4_look_27 rfl ?_
    refine s_putI (pc := 28) C fp_X4_66 SH_25 rfl dX4_look_28 ?_
    refine s_iconst (pc := 31) (v := 0) C dX4_look_31 (by decide) ?_
    refine s_istoren (pc := 32) (lo' := [some (.ref (ad 25)), some (.int r_1), some (.int 0)]) C dX4_look_32 (Nat.le_of_ble_eq_true rfl) rfl ?_
    refine s_few (lo' := [some (.ref (ad 25)), some (.int r_1), some (.int 0)]) (lfS (lfS (lfS lf0))) ?_
    exact w_X4_look_33 C hr hlk N  τ  N r_1 0 (su (su τ_1 25 20 1) 25 21 r_1) hf
  · replace hf := ifn h_1 hf
    refine s_iloadn (pc := 12) C dX4_look_12 rfl ?_
    refine s_aloadn (pc := 13) C dX4_look_13 rfl ?_
    refine s_getI (pc := 14) C fl_X4_66 SH_25 rfl dX4_look_14 ?_
    refine s_icmp_gt (pc := 17) (tgt := 21) C dX4_look_17 (by decide) (fun h_2 => ?_) (fun h_2 => ?_)
    · replace hf := ifp h_2 hf
      refine s_aloadn (pc := 21) C dX4_look_21 rfl ?_
      refine s_iconst (pc := 22) (v := 1) C dX4_look_22 (by decide) ?_
      refine s_putZ (pc := 23) C fp_X4_62 SH_25 rfl (by decide) dX4_look_23 ?_
      refine s_aloadn (pc := 26) C dX4_look_26 rfl ?_
      refine s_iloadn (pc := 27) C dX4_look_27 rfl ?_
      refine s_putI (pc := 28) C fp_X4_66 SH_25 rfl dX4_look_28 ?_
      refine s_iconst (pc := 31) (v := 0) C dX4_look_31 (by decide) ?_
      refine s_istoren (pc := 32) (lo' := [some (.ref (ad 25)), some (.int r_1), some (.int 0)]) C dX4_look_32 (Nat.le_of_ble_eq_true rfl) rfl ?_
      refine s_few (lo' := [some (.ref (ad 25)), some (.int r_1), some (.int 0)]) (lfS (lfS (lfS lf0))) ?_
      exact w_X4_look_33 C hr hlk N  τ  N r_1 0 (su (su τ_1 25 20 1) 25 21 r_1) hf
    · replace hf := ifn h_2 hf
      exact s_vret (pc := 20) C hr hlk dX4_look_20 rfl (rtv hf)
def lp_X4_search_21 (N : Nat) (a1 : Int32) : Nat → Int32 → Int32 → St → Option (Int32 × St)
  | 0, _, _, _ => none
  | n + 1, v1, v2, σ =>
    if v2 < 0 then
      some (1, σ)
    else
      if v2 = (σ 25 28) then
        bv (f_X4_look N σ) fun τ_7 =>
        lp_X4_search_21 N a1  n v1 (v2 + (-1)) τ_7
      else
        if inb v2 8 = true then
        if (σ 50 (ix v2)) = 1 then
          lp_X4_search_21 N a1  n v1 (v2 + (-1)) σ
        else
          if inb v2 6 = true then
          if inb (σ 43 (ix v2)) 6 = true then
          bn (f_X4_advance N v2 (su σ 32 (ix (σ 43 (ix v2))) (-1))) fun r_1 τ_1 =>
          if r_1 = 0 then
            if inb v2 8 = true then
            if inb (v2 + 1) 8 = true then
            if ((su (su τ_1 50 (ix v2) 1) 50 (ix (v2 + 1)) 0) 25 28) ≤ (v2 + 1) then
              lp_X4_search_21 N a1  n v1 (v2 + 1) (su (su τ_1 50 (ix v2) 1) 50 (ix (v2 + 1)) 0)
            else
              bv (f_X4_enter N (v2 + 1) (su (su τ_1 50 (ix v2) 1) 50 (ix (v2 + 1)) 0)) fun τ_6 =>
              lp_X4_search_21 N a1  n v1 (v2 + 1) τ_6
            else none
            else none
          else
            if (τ_1 25 26) = v1 then
              some (0, τ_1)
            else
              if inb v2 6 = true then
              if inb v2 7 = true then
              if inb v2 7 = true then
              if inb ((8 * v2) + ((su τ_1 25 26 ((τ_1 25 26) + 1)) 45 (ix v2))) 168 = true then
              if inb v2 7 = true then
              if inb ((56 + (8 * v2)) + ((su τ_1 25 26 ((τ_1 25 26) + 1)) 46 (ix v2))) 168 = true then
              if inb v2 7 = true then
              if inb ((112 + (8 * v2)) + ((su τ_1 25 26 ((τ_1 25 26) + 1)) 47 (ix v2))) 168 = true then
              bv (f_X4_stand N ((su τ_1 25 26 ((τ_1 25 26) + 1)) 43 (ix v2)) ((su τ_1 25 26 ((τ_1 25 26) + 1)) 44 (ix v2)) ((su τ_1 25 26 ((τ_1 25 26) + 1)) 48 (ix ((8 * v2) + ((su τ_1 25 26 ((τ_1 25 26) + 1)) 45 (ix v2))))) ((su τ_1 25 26 ((τ_1 25 26) + 1)) 48 (ix ((56 + (8 * v2)) + ((su τ_1 25 26 ((τ_1 25 26) + 1)) 46 (ix v2))))) ((su τ_1 25 26 ((τ_1 25 26) + 1)) 48 (ix ((112 + (8 * v2)) + ((su τ_1 25 26 ((τ_1 25 26) + 1)) 47 (ix v2))))) (su τ_1 25 26 ((τ_1 25 26) + 1))) fun τ_2 =>
              bn (f_X4_isPlan N τ_2) fun r_3 τ_3 =>
              if r_3 = 0 then
                if inb v2 6 = true then
                if inb (τ_3 43 (ix v2)) 6 = true then
                if r_3 = 0 then
                  lp_X4_search_21 N a1  n v1 v2 (su τ_3 32 (ix (τ_3 43 (ix v2))) (-1))
                else
                  if inb (v2 + 1) 8 = true then
                  if ((su (su τ_3 32 (ix (τ_3 43 (ix v2))) (-1)) 50 (ix (v2 + 1)) 0) 25 28) ≤ (v2 + 1) then
                    lp_X4_search_21 N a1  n v1 (v2 + 1) (su (su τ_3 32 (ix (τ_3 43 (ix v2))) (-1)) 50 (ix (v2 + 1)) 0)
                  else
                    bv (f_X4_enter N (v2 + 1) (su (su τ_3 32 (ix (τ_3 43 (ix v2))) (-1)) 50 (ix (v2 + 1)) 0)) fun τ_5 =>
                    lp_X4_search_21 N a1  n v1 (v2 + 1) τ_5
                  else none
                else none
                else none
              else
                if r_3 = 0 then
                  lp_X4_search_21 N a1  n v1 v2 τ_3
                else
                  if inb (v2 + 1) 8 = true then
                  if ((su τ_3 50 (ix (v2 + 1)) 0) 25 28) ≤ (v2 + 1) then
                    lp_X4_search_21 N a1  n v1 (v2 + 1) (su τ_3 50 (ix (v2 + 1)) 0)
                  else
                    bv (f_X4_enter N (v2 + 1) (su τ_3 50 (ix (v2 + 1)) 0)) fun τ_4 =>
                    lp_X4_search_21 N a1  n v1 (v2 + 1) τ_4
                  else none
              else none
              else none
              else none
              else none
              else none
              else none
              else none
              else none
          else none
          else none
        else none
set_option maxRecDepth 100000 in
set_option maxHeartbeats 4000000 in
theorem w_X4_search_21 {l : Launch} {D : va_G} {ca : Nat → ClassId} {ad : Nat → Nat} {p : Program} {e : Env} {s : State} {m : MethodId} {args : Array Value} {below : List Frame} {meth : Method} {c : Code} {A : Nat → Prop} (C : CX p s m args c D ca A RX4 cX4_search 4) (hr : meth.sig.returnType = (some .boolean)) (hlk : meth.locks = false) (N : Nat) (a1 : Int32) (r : Int32) (τ : St)  : ∀ (n : Nat) (v1 v2 : Int32) (σ : St), lp_X4_search_21 N a1  n v1 v2 σ = some (r, τ) → WW p l e (rmk 5) s m args below meth c 0 0 (EQ D ca ad SH A below args s (some (.int r)) τ) A D ca ad SH 21 [some (.ref (ad 25)), some (.int v1), some (.int v2), none] [] σ := by
  intro n
  induction n with
  | zero => intro v1 v2 σ hf; cases hf
  | succ n ih =>
    intro v1 v2 σ hf
    rw [lp_X4_search_21] at hf
    refine s_iloadn (pc := 21) C dX4_search_21 rfl ?_
    refine s_if_lt (pc := 22) (tgt := 234) C dX4_search_22 (by decide) (fun h_1 => ?_) (fun h_1 => ?_)
    · replace hf := ifp h_1 hf
      refine s_iconst (pc := 234) (v := 1) C dX4_search_234 (by decide) ?_
      exact s_zret (pc := 235) C hr hlk dX4_search_235 (by decide) (congrArg (fun z => some (Value.int z)) (rt hf).1) (rt hf).2
    · replace hf := ifn h_1 hf
      refine s_iloadn (pc := 25) C dX4_search_25 rfl ?_
      refine s_aloadn (pc := 26) C dX4_search_26 rfl ?_
      refine s_getI (pc := 27) C fl_X4_87 SH_25 rfl dX4_search_27 ?_
      refine s_icmp_ne (pc := 30) (tgt := 43) C dX4_search_30 (by decide) (fun h_2 => ?_) (fun h_2 => ?_)
      · replace hf := ifn h_2 hf
        refine s_aloadn (pc := 43) C dX4_search_43 rfl ?_
        refine s_getR (pc := 44) (r := 50) C fl_X4_111 SH_25 rfl dX4_search_44 ?_
        refine s_iloadn (pc := 47) C dX4_search_47 rfl ?_
        obtain ⟨g_1, hf⟩ := gd hf
        refine s_iald (pc := 48) C SH_50 (ty0 ca) g_1 dX4_search_48 ?_
        refine s_iconst (pc := 49) (v := 1) C dX4_search_49 (by decide) ?_
        refine s_icmp_ne (pc := 50) (tgt := 59) C dX4_search_50 (by decide) (fun h_3 => ?_) (fun h_3 => ?_)
        · replace hf := ifn h_3 hf
          refine s_aloadn (pc := 59) C dX4_search_59 rfl ?_
          refine s_getR (pc := 60) (r := 32) C fl_X4_41 SH_25 rfl dX4_search_60 ?_
          refine s_aloadn (pc := 63) C dX4_search_63 rfl ?_
          refine s_getR (pc := 64) (r := 43) C fl_X4_90 SH_25 rfl dX4_search_64 ?_
          refine s_iloadn (pc := 67) C dX4_search_67 rfl ?_
          obtain ⟨g_2, hf⟩ := gd hf
          refine s_iald (pc := 68) C SH_43 (ty0 ca) g_2 dX4_search_68 ?_
          refine s_iconst (pc := 69) (v := (-1)) C dX4_search_69 (by decide) ?_
          obtain ⟨g_3, hf⟩ := gd hf
          refine s_iast (pc := 70) C SH_32 (ty0 ca) g_3 dX4_search_70 ?_
          refine s_iconst (pc := 71) (v := 0) C dX4_search_71 (by decide) ?_
          refine s_istoren (pc := 72) (lo' := [some (.ref (ad 25)), some (.int v1), some (.int v2), some (.int 0)]) C dX4_search_72 (Nat.le_of_ble_eq_true rfl) rfl ?_
          refine s_aloadn (pc := 73) C dX4_search_73 rfl ?_
          refine s_iloadn (pc := 74) C dX4_search_74 rfl ?_
          obtain ⟨r_1, τ_1, e_1, hf⟩ := bnd hf
          refine s_callV (pc := 75) (rest := []) C rfl (c_X4_advance l D ca ad N v2 (su σ 32 (ix (σ 43 (ix v2))) (-1)) r_1 τ_1 e_1) kv_X4_176 ⟨rfl, rfl⟩ (by decide) SH_25 ⟨_, rfl, rfl⟩ rfl rfl (Nat.le_of_ble_eq_true rfl) dX4_search_75 ⟨Nat.zero_le _, Nat.zero_le _⟩ ?_
          refine s_st (st' := [.int r_1]) rfl ?_
          refine s_if_ne (pc := 78) (tgt := 93) C dX4_search_78 (by decide) (fun h_4 => ?_) (fun h_4 => ?_)
          · replace hf := ifn h_4 hf
            refine s_aloadn (pc := 93) C dX4_search_93 rfl ?_
            refine s_getI (pc := 94) C fl_X4_81 SH_25 rfl dX4_search_94 ?_
            refine s_iloadn (pc := 97) C dX4_search_97 rfl ?_
            refine s_icmp_ne (pc := 98) (tgt := 103) C dX4_search_98 (by decide) (fun h_5 => ?_) (fun h_5 => ?_)
            · replace hf := ifn h_5 hf
              refine s_aloadn (pc := 103) C dX4_search_103 rfl ?_
              refine s_dup (pc := 104) C dX4_search_104 rfl ?_
              refine s_getI (pc := 105) C fl_X4_81 SH_25 rfl dX4_search_105 ?_
              refine s_iconst (pc := 108) (v := 1) C dX4_search_108 (by decide) ?_
              refine s_iadd (pc := 109) C dX4_search_109 ?_
              refine s_putI (pc := 110) C fp_X4_81 SH_25 rfl dX4_search_110 ?_
              refine s_aloadn (pc := 113) C dX4_search_113 rfl ?_
              refine s_aloadn (pc := 114) C dX4_search_114 rfl ?_
              refine s_getR (pc := 115) (r := 43) C fl_X4_90 SH_25 rfl dX4_search_115 ?_
              refine s_iloadn (pc := 118) C dX4_search_118 rfl ?_
              obtain ⟨g_4, hf⟩ := gd hf
              refine s_iald (pc := 119) C SH_43 (ty0 ca) g_4 dX4_search_119 ?_
              refine s_aloadn (pc := 120) C dX4_search_120 rfl ?_
              refine s_getR (pc := 121) (r := 44) C fl_X4_93 SH_25 rfl dX4_search_121 ?_
              refine s_iloadn (pc := 124) C dX4_search_124 rfl ?_
              obtain ⟨g_5, hf⟩ := gd hf
              refine s_iald (pc := 125) C SH_44 (ty0 ca) g_5 dX4_search_125 ?_
              refine s_aloadn (pc := 126) C dX4_search_126 rfl ?_
              refine s_getR (pc := 127) (r := 48) C fl_X4_105 SH_25 rfl dX4_search_127 ?_
              refine s_bipush (pc := 130) (v := 8) C dX4_search_130 (by decide) ?_
              refine s_iloadn (pc := 132) C dX4_search_132 rfl ?_
              refine s_imul (pc := 133) C dX4_search_133 ?_
              refine s_aloadn (pc := 134) C dX4_search_134 rfl ?_
              refine s_getR (pc := 135) (r := 45) C fl_X4_96 SH_25 rfl dX4_search_135 ?_
              refine s_iloadn (pc := 138) C dX4_search_138 rfl ?_
              obtain ⟨g_6, hf⟩ := gd hf
              refine s_iald (pc := 139) C SH_45 (ty0 ca) g_6 dX4_search_139 ?_
              refine s_iadd (pc := 140) C dX4_search_140 ?_
              obtain ⟨g_7, hf⟩ := gd hf
              refine s_iald (pc := 141) C SH_48 (ty0 ca) g_7 dX4_search_141 ?_
              refine s_aloadn (pc := 142) C dX4_search_142 rfl ?_
              refine s_getR (pc := 143) (r := 48) C fl_X4_105 SH_25 rfl dX4_search_143 ?_
              refine s_bipush (pc := 146) (v := 56) C dX4_search_146 (by decide) ?_
              refine s_bipush (pc := 148) (v := 8) C dX4_search_148 (by decide) ?_
              refine s_iloadn (pc := 150) C dX4_search_150 rfl ?_
              refine s_imul (pc := 151) C dX4_search_151 ?_
              refine s_iadd (pc := 152) C dX4_search_152 ?_
              refine s_aloadn (pc := 153) C dX4_search_153 rfl ?_
              refine s_getR (pc := 154) (r := 46) C fl_X4_99 SH_25 rfl dX4_search_154 ?_
              refine s_iloadn (pc := 157) C dX4_search_157 rfl ?_
              obtain ⟨g_8, hf⟩ := gd hf
              refine s_iald (pc := 158) C SH_46 (ty0 ca) g_8 dX4_search_158 ?_
              refine s_iadd (pc := 159) C dX4_search_159 ?_
              obtain ⟨g_9, hf⟩ := gd hf
              refine s_iald (pc := 160) C SH_48 (ty0 ca) g_9 dX4_search_160 ?_
              refine s_aloadn (pc := 161) C dX4_search_161 rfl ?_
              refine s_getR (pc := 162) (r := 48) C fl_X4_105 SH_25 rfl dX4_search_162 ?_
              refine s_bipush (pc := 165) (v := 112) C dX4_search_165 (by decide) ?_
              refine s_bipush (pc := 167) (v := 8) C dX4_search_167 (by decide) ?_
              refine s_iloadn (pc := 169) C dX4_search_169 rfl ?_
              refine s_imul (pc := 170) C dX4_search_170 ?_
              refine s_iadd (pc := 171) C dX4_search_171 ?_
              refine s_aloadn (pc := 172) C dX4_search_172 rfl ?_
              refine s_getR (pc := 173) (r := 47) C fl_X4_102 SH_25 rfl dX4_search_173 ?_
              refine s_iloadn (pc := 176) C dX4_search_176 rfl ?_
              obtain ⟨g_10, hf⟩ := gd hf
              refine s_iald (pc := 177) C SH_47 (ty0 ca) g_10 dX4_search_177 ?_
              refine s_iadd (pc := 178) C dX4_search_178 ?_
              obtain ⟨g_11, hf⟩ := gd hf
              refine s_iald (pc := 179) C SH_48 (ty0 ca) g_11 dX4_search_179 ?_
              obtain ⟨τ_2, e_2, hf⟩ := bvd hf
              refine s_callV (pc := 180) (rest := []) C rfl (c_X4_stand l D ca ad N ((su τ_1 25 26 ((τ_1 25 26) + 1)) 43 (ix v2)) ((su τ_1 25 26 ((τ_1 25 26) + 1)) 44 (ix v2)) ((su τ_1 25 26 ((τ_1 25 26) + 1)) 48 (ix ((8 * v2) + ((su τ_1 25 26 ((τ_1 25 26) + 1)) 45 (ix v2))))) ((su τ_1 25 26 ((τ_1 25 26) + 1)) 48 (ix ((56 + (8 * v2)) + ((su τ_1 25 26 ((τ_1 25 26) + 1)) 46 (ix v2))))) ((su τ_1 25 26 ((τ_1 25 26) + 1)) 48 (ix ((112 + (8 * v2)) + ((su τ_1 25 26 ((τ_1 25 26) + 1)) 47 (ix v2))))) (su τ_1 25 26 ((τ_1 25 26) + 1)) τ_2 e_2) kv_X4_180 ⟨rfl, rfl⟩ (by decide) SH_25 ⟨_, rfl, rfl⟩ rfl rfl (Nat.le_of_ble_eq_true rfl) dX4_search_180 ⟨Nat.zero_le _, Nat.zero_le _⟩ ?_
              refine s_st (st' := []) rfl ?_
              refine s_aloadn (pc := 183) C dX4_search_183 rfl ?_
              obtain ⟨r_3, τ_3, e_3, hf⟩ := bnd hf
              refine s_callV (pc := 184) (rest := []) C rfl (c_X4_isPlan l D ca ad N  τ_2 r_3 τ_3 e_3) kv_X4_184 ⟨rfl, rfl⟩ (by decide) SH_25 ⟨_, rfl, rfl⟩ rfl rfl (Nat.le_of_ble_eq_true rfl) dX4_search_184 ⟨Nat.zero_le _, Nat.zero_le _⟩ ?_
              refine s_st (st' := [.int r_3]) rfl ?_
              refine s_istoren (pc := 187) (lo' := [some (.ref (ad 25)), some (.int v1), some (.int v2), some (.int r_3)]) C dX4_search_187 (Nat.le_of_ble_eq_true rfl) rfl ?_
              refine s_iloadn (pc := 188) C dX4_search_188 rfl ?_
              refine s_if_ne (pc := 189) (tgt := 204) C dX4_search_189 (by decide) (fun h_6 => ?_) (fun h_6 => ?_)
              · replace hf := ifn h_6 hf
                refine s_iloadn (pc := 204) C dX4_search_204 rfl ?_
                refine s_if_eq (pc := 205) (tgt := 231) C dX4_search_205 (by decide) (fun h_7 => ?_) (fun h_7 => ?_)
                · replace hf := ifp h_7 hf
                  refine s_goto (pc := 231) (tgt := 21) C dX4_search_231 (by decide) ?_
                  refine s_few (lo' := [some (.ref (ad 25)), some (.int v1), some (.int v2), none]) (lfS (lfS (lfS (lfN lf0)))) ?_
                  exact ih v1 v2 τ_3 hf
                · replace hf := ifn h_7 hf
                  refine s_iinc (pc := 208) (v := (v2 + 1)) (lo' := [some (.ref (ad 25)), some (.int v1), some (.int (v2 + 1)), some (.int r_3)]) C dX4_search_208 rfl rfl rfl ?_
                  refine s_aloadn (pc := 211) C dX4_search_211 rfl ?_
                  refine s_getR (pc := 212) (r := 50) C fl_X4_111 SH_25 rfl dX4_search_212 ?_
                  refine s_iloadn (pc := 215) C dX4_search_215 rfl ?_
                  refine s_iconst (pc := 216) (v := 0) C dX4_search_216 (by decide) ?_
                  obtain ⟨g_12, hf⟩ := gd hf
                  refine s_iast (pc := 217) C SH_50 (ty0 ca) g_12 dX4_search_217 ?_
                  refine s_iloadn (pc := 218) C dX4_search_218 rfl ?_
                  refine s_aloadn (pc := 219) C dX4_search_219 rfl ?_
                  refine s_getI (pc := 220) C fl_X4_87 SH_25 rfl dX4_search_220 ?_
                  refine s_icmp_ge (pc := 223) (tgt := 231) C dX4_search_223 (by decide) (fun h_8 => ?_) (fun h_8 => ?_)
                  · replace hf := ifp h_8 hf
                    refine s_goto (pc := 231) (tgt := 21) C dX4_search_231 (by decide) ?_
                    refine s_few (lo' := [some (.ref (ad 25)), some (.int v1), some (.int (v2 + 1)), none]) (lfS (lfS (lfS (lfN lf0)))) ?_
                    exact ih v1 (v2 + 1) (su τ_3 50 (ix (v2 + 1)) 0) hf
                  · replace hf := ifn h_8 hf
                    refine s_aloadn (pc := 226) C dX4_search_226 rfl ?_
                    refine s_iloadn (pc := 227) C dX4_search_227 rfl ?_
                    obtain ⟨τ_4, e_4, hf⟩ := bvd hf
                    refine s_callV (pc := 228) (rest := []) C rfl (c_X4_enter l D ca ad N (v2 + 1) (su τ_3 50 (ix (v2 + 1)) 0) τ_4 e_4) kv_X4_169 ⟨rfl, rfl⟩ (by decide) SH_25 ⟨_, rfl, rfl⟩ rfl rfl (Nat.le_of_ble_eq_true rfl) dX4_search_228 ⟨Nat.zero_le _, Nat.zero_le _⟩ ?_
                    refine s_st (st' := []) rfl ?_
                    refine s_goto (pc := 231) (tgt := 21) C dX4_search_231 (by decide) ?_
                    refine s_few (lo' := [some (.ref (ad 25)), some (.int v1), some (.int (v2 + 1)), none]) (lfS (lfS (lfS (lfN lf0)))) ?_
                    exact ih v1 (v2 + 1) τ_4 hf
              · replace hf := ifp h_6 hf
                refine s_aloadn (pc := 192) C dX4_search_192 rfl ?_
                refine s_getR (pc := 193) (r := 32) C fl_X4_41 SH_25 rfl dX4_search_193 ?_
                refine s_aloadn (pc := 196) C dX4_search_196 rfl ?_
                refine s_getR (pc := 197) (r := 43) C fl_X4_90 SH_25 rfl dX4_search_197 ?_
                refine s_iloadn (pc := 200) C dX4_search_200 rfl ?_
                obtain ⟨g_13, hf⟩ := gd hf
                refine s_iald (pc := 201) C SH_43 (ty0 ca) g_13 dX4_search_201 ?_
                refine s_iconst (pc := 202) (v := (-1)) C dX4_search_202 (by decide) ?_
                obtain ⟨g_14, hf⟩ := gd hf
                refine s_iast (pc := 203) C SH_32 (ty0 ca) g_14 dX4_search_203 ?_
                refine s_iloadn (pc := 204) C dX4_search_204 rfl ?_
                refine s_if_eq (pc := 205) (tgt := 231) C dX4_search_205 (by decide) (fun h_9 => ?_) (fun h_9 => ?_)
                · replace hf := ifp h_9 hf
                  refine s_goto (pc := 231) (tgt := 21) C dX4_search_231 (by decide) ?_
                  refine s_few (lo' := [some (.ref (ad 25)), some (.int v1), some (.int v2), none]) (lfS (lfS (lfS (lfN lf0)))) ?_
                  exact ih v1 v2 (su τ_3 32 (ix (τ_3 43 (ix v2))) (-1)) hf
                · replace hf := ifn h_9 hf
                  refine s_iinc (pc := 208) (v := (v2 + 1)) (lo' := [some (.ref (ad 25)), some (.int v1), some (.int (v2 + 1)), some (.int r_3)]) C dX4_search_208 rfl rfl rfl ?_
                  refine s_aloadn (pc := 211) C dX4_search_211 rfl ?_
                  refine s_getR (pc := 212) (r := 50) C fl_X4_111 SH_25 rfl dX4_search_212 ?_
                  refine s_iloadn (pc := 215) C dX4_search_215 rfl ?_
                  refine s_iconst (pc := 216) (v := 0) C dX4_search_216 (by decide) ?_
                  obtain ⟨g_15, hf⟩ := gd hf
                  refine s_iast (pc := 217) C SH_50 (ty0 ca) g_15 dX4_search_217 ?_
                  refine s_iloadn (pc := 218) C dX4_search_218 rfl ?_
                  refine s_aloadn (pc := 219) C dX4_search_219 rfl ?_
                  refine s_getI (pc := 220) C fl_X4_87 SH_25 rfl dX4_search_220 ?_
                  refine s_icmp_ge (pc := 223) (tgt := 231) C dX4_search_223 (by decide) (fun h_10 => ?_) (fun h_10 => ?_)
                  · replace hf := ifp h_10 hf
                    refine s_goto (pc := 231) (tgt := 21) C dX4_search_231 (by decide) ?_
                    refine s_few (lo' := [some (.ref (ad 25)), some (.int v1), some (.int (v2 + 1)), none]) (lfS (lfS (lfS (lfN lf0)))) ?_
                    exact ih v1 (v2 + 1) (su (su τ_3 32 (ix (τ_3 43 (ix v2))) (-1)) 50 (ix (v2 + 1)) 0) hf
                  · replace hf := ifn h_10 hf
                    refine s_aloadn (pc := 226) C dX4_search_226 rfl ?_
                    refine s_iloadn (pc := 227) C dX4_search_227 rfl ?_
                    obtain ⟨τ_5, e_5, hf⟩ := bvd hf
                    refine s_callV (pc := 228) (rest := []) C rfl (c_X4_enter l D ca ad N (v2 + 1) (su (su τ_3 32 (ix (τ_3 43 (ix v2))) (-1)) 50 (ix (v2 + 1)) 0) τ_5 e_5) kv_X4_169 ⟨rfl, rfl⟩ (by decide) SH_25 ⟨_, rfl, rfl⟩ rfl rfl (Nat.le_of_ble_eq_true rfl) dX4_search_228 ⟨Nat.zero_le _, Nat.zero_le _⟩ ?_
                    refine s_st (st' := []) rfl ?_
                    refine s_goto (pc := 231) (tgt := 21) C dX4_search_231 (by decide) ?_
                    refine s_few (lo' := [some (.ref (ad 25)), some (.int v1), some (.int (v2 + 1)), none]) (lfS (lfS (lfS (lfN lf0)))) ?_
                    exact ih v1 (v2 + 1) τ_5 hf
            · replace hf := ifp h_5 hf
              refine s_iconst (pc := 101) (v := 0) C dX4_search_101 (by decide) ?_
              exact s_zret (pc := 102) C hr hlk dX4_search_102 (by decide) (congrArg (fun z => some (Value.int z)) (rt hf).1) (rt hf).2
          · replace hf := ifp h_4 hf
            refine s_aloadn (pc := 81) C dX4_search_81 rfl ?_
            refine s_getR (pc := 82) (r := 50) C fl_X4_111 SH_25 rfl dX4_search_82 ?_
            refine s_iloadn (pc := 85) C dX4_search_85 rfl ?_
            refine s_iconst (pc := 86) (v := 1) C dX4_search_86 (by decide) ?_
            obtain ⟨g_16, hf⟩ := gd hf
            refine s_iast (pc := 87) C SH_50 (ty0 ca) g_16 dX4_search_87 ?_
            refine s_iconst (pc := 88) (v := 1) C dX4_search_88 (by decide) ?_
            refine s_istoren (pc := 89) (lo' := [some (.ref (ad 25)), some (.int v1), some (.int v2), some (.int 1)]) C dX4_search_89 (Nat.le_of_ble_eq_true rfl) rfl ?_
            refine s_goto (pc := 90) (tgt := 204) C dX4_search_90 (by decide) ?_
            refine s_iloadn (pc := 204) C dX4_search_204 rfl ?_
            refine s_if_eq (pc := 205) (tgt := 231) C dX4_search_205 (by decide) (fun h_11 => absurd h_11 (by decide)) (fun _ => ?_)
            refine s_iinc (pc := 208) (v := (v2 + 1)) (lo' := [some (.ref (ad 25)), some (.int v1), some (.int (v2 + 1)), some (.int 1)]) C dX4_search_208 rfl rfl rfl ?_
            refine s_aloadn (pc := 211) C dX4_search_211 rfl ?_
            refine s_getR (pc := 212) (r := 50) C fl_X4_111 SH_25 rfl dX4_search_212 ?_
            refine s_iloadn (pc := 215) C dX4_search_215 rfl ?_
            refine s_iconst (pc := 216) (v := 0) C dX4_search_216 (by decide) ?_
            obtain ⟨g_17, hf⟩ := gd hf
            refine s_iast (pc := 217) C SH_50 (ty0 ca) g_17 dX4_search_217 ?_
            refine s_iloadn (pc := 218) C dX4_search_218 rfl ?_
            refine s_aloadn (pc := 219) C dX4_search_219 rfl ?_
            refine s_getI (pc := 220) C fl_X4_87 SH_25 rfl dX4_search_220 ?_
            refine s_icmp_ge (pc := 223) (tgt := 231) C dX4_search_223 (by decide) (fun h_12 => ?_) (fun h_12 => ?_)
            · replace hf := ifp h_12 hf
              refine s_goto (pc := 231) (tgt := 21) C dX4_search_231 (by decide) ?_
              refine s_few (lo' := [some (.ref (ad 25)), some (.int v1), some (.int (v2 + 1)), none]) (lfS (lfS (lfS (lfN lf0)))) ?_
              exact ih v1 (v2 + 1) (su (su τ_1 50 (ix v2) 1) 50 (ix (v2 + 1)) 0) hf
            · replace hf := ifn h_12 hf
              refine s_aloadn (pc := 226) C dX4_search_226 rfl ?_
              refine s_iloadn (pc := 227) C dX4_search_227 rfl ?_
              obtain ⟨τ_6, e_6, hf⟩ := bvd hf
              refine s_callV (pc := 228) (rest := []) C rfl (c_X4_enter l D ca ad N (v2 + 1) (su (su τ_1 50 (ix v2) 1) 50 (ix (v2 + 1)) 0) τ_6 e_6) kv_X4_169 ⟨rfl, rfl⟩ (by decide) SH_25 ⟨_, rfl, rfl⟩ rfl rfl (Nat.le_of_ble_eq_true rfl) dX4_search_228 ⟨Nat.zero_le _, Nat.zero_le _⟩ ?_
              refine s_st (st' := []) rfl ?_
              refine s_goto (pc := 231) (tgt := 21) C dX4_search_231 (by decide) ?_
              refine s_few (lo' := [some (.ref (ad 25)), some (.int v1), some (.int (v2 + 1)), none]) (lfS (lfS (lfS (lfN lf0)))) ?_
              exact ih v1 (v2 + 1) τ_6 hf
        · replace hf := ifp h_3 hf
          refine s_iinc (pc := 53) (v := (v2 + (-1))) (lo' := [some (.ref (ad 25)), some (.int v1), some (.int (v2 + (-1))), none]) C dX4_search_53 rfl rfl rfl ?_
          refine s_goto (pc := 56) (tgt := 21) C dX4_search_56 (by decide) ?_
          refine s_few (lo' := [some (.ref (ad 25)), some (.int v1), some (.int (v2 + (-1))), none]) (lfS (lfS (lfS (lfN lf0)))) ?_
          exact ih v1 (v2 + (-1)) σ hf
      · replace hf := ifp h_2 hf
        refine s_aloadn (pc := 33) C dX4_search_33 rfl ?_
        obtain ⟨τ_7, e_7, hf⟩ := bvd hf
        refine s_callV (pc := 34) (rest := []) C rfl (c_X4_look l D ca ad N  σ τ_7 e_7) kv_X4_173 ⟨rfl, rfl⟩ (by decide) SH_25 ⟨_, rfl, rfl⟩ rfl rfl (Nat.le_of_ble_eq_true rfl) dX4_search_34 ⟨Nat.zero_le _, Nat.zero_le _⟩ ?_
        refine s_st (st' := []) rfl ?_
        refine s_iinc (pc := 37) (v := (v2 + (-1))) (lo' := [some (.ref (ad 25)), some (.int v1), some (.int (v2 + (-1))), none]) C dX4_search_37 rfl rfl rfl ?_
        refine s_goto (pc := 40) (tgt := 21) C dX4_search_40 (by decide) ?_
        refine s_few (lo' := [some (.ref (ad 25)), some (.int v1), some (.int (v2 + (-1))), none]) (lfS (lfS (lfS (lfN lf0)))) ?_
        exact ih v1 (v2 + (-1)) τ_7 hf
def f_X4_search (N : Nat) (a1 : Int32) (σ : St) : Option (Int32 × St) :=
  if (σ 25 28) ≤ 0 then
    if inb 0 8 = true then
    lp_X4_search_21 N a1 N a1 0 (su σ 50 (ix 0) 0)
    else none
  else
    bv (f_X4_enter N 0 σ) fun τ_1 =>
    if inb 0 8 = true then
    lp_X4_search_21 N a1 N a1 0 (su τ_1 50 (ix 0) 0)
    else none
set_option maxRecDepth 100000 in
set_option maxHeartbeats 4000000 in
theorem c_X4_search (l : Launch) (D : va_G) (ca : Nat → ClassId) (ad : Nat → Nat) (N : Nat) (a1 : Int32) (σ : St) (r : Int32) (τ : St) (hf : f_X4_search N a1 σ = some (r, τ)) : cM l yX4_search (.code yX4_search cX4_search 4 (some .boolean)) (rmk 5) D ca ad SH [.ref (ad 25), .int a1] σ (some (.int r)) τ := by
  refine cM.intro2 (own := RX4) (lo := [some (.ref (ad 25)), some (.int a1), none, none]) (by decide) rfl (ccR (ccI cc0)) (Nat.le_of_ble_eq_true rfl) rfl ?_
  intro p e s m args below meth c A C hr hlk
  unfold f_X4_search at hf
  refine s_iconst (pc := 0) (v := 0) C dX4_search_0 (by decide) ?_
  refine s_istoren (pc := 1) (lo' := [some (.ref (ad 25)), some (.int a1), some (.int 0), none]) C dX4_search_1 (Nat.le_of_ble_eq_true rfl) rfl ?_
  refine s_aloadn (pc := 2) C dX4_search_2 rfl ?_
  refine s_getI (pc := 3) C fl_X4_87 SH_25 rfl dX4_search_3 ?_
  refine s_if_le (pc := 6) (tgt := 14) C dX4_search_6 (by decide) (fun h_1 => ?_) (fun h_1 => ?_)
  · replace hf := ifp h_1 hf
    refine s_aloadn (pc := 14) C dX4_search_14 rfl ?_
    refine s_getR (pc := 15) (r := 50) C fl_X4_111 SH_25 rfl dX4_search_15 ?_
    refine s_iconst (pc := 18) (v := 0) C dX4_search_18 (by decide) ?_
    refine s_iconst (pc := 19) (v := 0) C dX4_search_19 (by decide) ?_
    obtain ⟨g_1, hf⟩ := gd hf
    refine s_iast (pc := 20) C SH_50 (ty0 ca) g_1 dX4_search_20 ?_
    refine s_few (lo' := [some (.ref (ad 25)), some (.int a1), some (.int 0), none]) (lfS (lfS (lfS (lfN lf0)))) ?_
    exact w_X4_search_21 C hr hlk N a1 r τ  N a1 0 (su σ 50 (ix 0) 0) hf
  · replace hf := ifn h_1 hf
    refine s_aloadn (pc := 9) C dX4_search_9 rfl ?_
    refine s_iconst (pc := 10) (v := 0) C dX4_search_10 (by decide) ?_
    obtain ⟨τ_1, e_1, hf⟩ := bvd hf
    refine s_callV (pc := 11) (rest := []) C rfl (c_X4_enter l D ca ad N 0 σ τ_1 e_1) kv_X4_169 ⟨rfl, rfl⟩ (by decide) SH_25 ⟨_, rfl, rfl⟩ rfl rfl (Nat.le_of_ble_eq_true rfl) dX4_search_11 ⟨Nat.zero_le _, Nat.zero_le _⟩ ?_
    refine s_st (st' := []) rfl ?_
    refine s_aloadn (pc := 14) C dX4_search_14 rfl ?_
    refine s_getR (pc := 15) (r := 50) C fl_X4_111 SH_25 rfl dX4_search_15 ?_
    refine s_iconst (pc := 18) (v := 0) C dX4_search_18 (by decide) ?_
    refine s_iconst (pc := 19) (v := 0) C dX4_search_19 (by decide) ?_
    obtain ⟨g_2, hf⟩ := gd hf
    refine s_iast (pc := 20) C SH_50 (ty0 ca) g_2 dX4_search_20 ?_
    refine s_few (lo' := [some (.ref (ad 25)), some (.int a1), some (.int 0), none]) (lfS (lfS (lfS (lfN lf0)))) ?_
    exact w_X4_search_21 C hr hlk N a1 r τ  N a1 0 (su τ_1 50 (ix 0) 0) hf
