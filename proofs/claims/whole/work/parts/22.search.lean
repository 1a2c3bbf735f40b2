def lp_X3_tryWay_79 (N : Nat) (rec : Int32 → St → Option St) (a1 : Int32) (q2 : Nat) (q3 : Nat) (a4 : Int32) (k33 : Int32 → Int32 → Int32 → Int32 → Int32 → Int32 → St → Option (St)) (k56 : Int32 → Int32 → Int32 → Int32 → Int32 → Int32 → Int32 → St → Option (St)) : Nat → Int32 → Int32 → Int32 → Int32 → Int32 → Int32 → Int32 → Int32 → St → Option (St)
  | 0, _, _, _, _, _, _, _, _, _ => none
  | n + 1, v1, v4, v5, v6, v7, v8, v9, v10, σ =>
    if 8 < v10 then
      k56 v1 v4 v5 v6 v7 v8 (v9 + 1) σ
    else
      bn (f_X3_isIn N v5 v10 σ) fun r_1 τ_1 =>
      if r_1 = 0 then
        lp_X3_tryWay_79 N rec a1 q2 q3 a4 k33 k56 n v1 v4 v5 v6 v7 v8 v9 (v10 + 1) τ_1
      else
        if (τ_1 0 9) < (τ_1 0 8) then
          bv (f_X2_stand N q3 q2 v4 v10 v9 v8 (su τ_1 0 9 ((τ_1 0 9) + 1))) fun τ_2 =>
          bn (f_X1_isPlanWith N 1 q3 (τ_2 0 6) τ_2) fun r_3 τ_3 =>
          if r_3 = 0 then
            bv (f_X2_leave N q3 τ_3) fun τ_4 =>
            if (τ_4 0 11 &&& 1) = 0 then
              lp_X3_tryWay_79 N rec a1 q2 q3 a4 k33 k56 n v1 v4 v5 v6 v7 v8 v9 (v10 + 1) τ_4
            else
              some τ_4
          else
            bv (rec (v1 + 1) τ_3) fun τ_5 =>
            bv (f_X2_leave N q3 τ_5) fun τ_6 =>
            if (τ_6 0 11 &&& 1) = 0 then
              lp_X3_tryWay_79 N rec a1 q2 q3 a4 k33 k56 n v1 v4 v5 v6 v7 v8 v9 (v10 + 1) τ_6
            else
              some τ_6
        else
          some (su τ_1 0 11 1)
set_option maxRecDepth 100000 in
set_option maxHeartbeats 4000000 in
theorem w_X3_tryWay_79 {l : Launch} {D : va_G} {ca : Nat → ClassId} {ad : Nat → Nat} {p : Program} {e : Env} {s : State} {m : MethodId} {args : Array Value} {below : List Frame} {meth : Method} {c : Code} {A : Nat → Prop} (C : CX p s m args c D ca A RX3 cX3_tryWay 11) (hr : meth.sig.returnType = none) (hlk : meth.locks = false) (N : Nat) (L : Nat) (hL : 7 ≤ L) (rec : Int32 → St → Option St) (hrec : ∀ (a : Int32) (σ τ : St), rec a σ = some τ → cM l yX3_searchFrom (.code yX3_searchFrom cX3_searchFrom 4 none) (rmk L) D ca ad SH [.ref (ad 0), .int a] σ none τ) (a1 : Int32) (q2 : Nat) (hq2 : SH[q2]? = some oPiece) (q3 : Nat) (hq3 : SH[q3]? = some oSpot) (a4 : Int32) (τ : St) (k33 : Int32 → Int32 → Int32 → Int32 → Int32 → Int32 → St → Option (St)) (k56 : Int32 → Int32 → Int32 → Int32 → Int32 → Int32 → Int32 → St → Option (St))  (hk33 : ∀ (w1 w4 w5 w6 w7 w8 : Int32) (σ : St), k33 w1 w4 w5 w6 w7 w8 σ = some τ → WW p l e (rmk (L + 1)) s m args below meth c 0 0 (EQ D ca ad SH A below args s none τ) A D ca ad SH 33 [some (.ref (ad 0)), some (.int w1), some (.ref (ad q2)), some (.ref (ad q3)), some (.int w4), some (.int w5), some (.int w6), some (.int w7), some (.int w8), none, none] [] σ) (hk56 : ∀ (w1 w4 w5 w6 w7 w8 w9 : Int32) (σ : St), k56 w1 w4 w5 w6 w7 w8 w9 σ = some τ → WW p l e (rmk (L + 1)) s m args below meth c 0 0 (EQ D ca ad SH A below args s none τ) A D ca ad SH 56 [some (.ref (ad 0)), some (.int w1), some (.ref (ad q2)), some (.ref (ad q3)), some (.int w4), some (.int w5), some (.int w6), some (.int w7), some (.int w8), some (.int w9), none] [] σ) : ∀ (n : Nat) (v1 v4 v5 v6 v7 v8 v9 v10 : Int32) (σ : St), lp_X3_tryWay_79 N rec a1 q2 q3 a4 k33 k56 n v1 v4 v5 v6 v7 v8 v9 v10 σ = some τ → WW p l e (rmk (L + 1)) s m args below meth c 0 0 (EQ D ca ad SH A below args s none τ) A D ca ad SH 79 [some (.ref (ad 0)), some (.int v1), some (.ref (ad q2)), some (.ref (ad q3)), some (.int v4), some (.int v5), some (.int v6), some (.int v7), some (.int v8), some (.int v9), some (.int v10)] [] σ := by
  intro n
  induction n with
  | zero => intro v1 v4 v5 v6 v7 v8 v9 v10 σ hf; cases hf
  | succ n ih =>
    intro v1 v4 v5 v6 v7 v8 v9 v10 σ hf
    rw [lp_X3_tryWay_79] at hf
    refine s_iload (pc := 79) C dX3_tryWay_79 rfl ?_
    refine s_bipush (pc := 81) (v := 8) C dX3_tryWay_81 (by decide) ?_
    refine s_icmp_gt (pc := 83) (tgt := 179) C dX3_tryWay_83 (by decide) (fun h_1 => ?_) (fun h_1 => ?_)
    · replace hf := ifp h_1 hf
      refine s_iinc (pc := 179) (v := (v9 + 1)) (lo' := [some (.ref (ad 0)), some (.int v1), some (.ref (ad q2)), some (.ref (ad q3)), some (.int v4), some (.int v5), some (.int v6), some (.int v7), some (.int v8), some (.int (v9 + 1)), some (.int v10)]) C dX3_tryWay_179 rfl rfl rfl ?_
      refine s_goto (pc := 182) (tgt := 56) C dX3_tryWay_182 (by decide) ?_
      refine s_few (lo' := [some (.ref (ad 0)), some (.int v1), some (.ref (ad q2)), some (.ref (ad q3)), some (.int v4), some (.int v5), some (.int v6), some (.int v7), some (.int v8), some (.int (v9 + 1)), none]) (lfS (lfS (lfS (lfS (lfS (lfS (lfS (lfS (lfS (lfS (lfN lf0))))))))))) ?_
      exact hk56 v1 v4 v5 v6 v7 v8 (v9 + 1) σ hf
    · replace hf := ifn h_1 hf
      refine s_iload (pc := 86) C dX3_tryWay_86 rfl ?_
      refine s_iload (pc := 88) C dX3_tryWay_88 rfl ?_
      obtain ⟨r_1, τ_1, e_1, hf⟩ := bnd hf
      refine s_callO (pc := 90) (rest := []) C rfl (c_X3_isIn l D ca ad N v5 v10 σ r_1 τ_1 e_1) ko_X3_260 ⟨rfl, rfl⟩ (by simp only [rmk]; omega) rfl rfl (Nat.le_of_ble_eq_true rfl) dX3_tryWay_90 ⟨Nat.zero_le _, Nat.zero_le _⟩ ?_
      refine s_st (st' := [.int r_1]) rfl ?_
      refine s_if_ne (pc := 93) (tgt := 99) C dX3_tryWay_93 (by decide) (fun h_2 => ?_) (fun h_2 => ?_)
      · replace hf := ifn h_2 hf
        refine s_aloadn (pc := 99) C dX3_tryWay_99 rfl ?_
        refine s_getI (pc := 100) C fl_X3_117 SH_0 rfl dX3_tryWay_100 ?_
        refine s_aloadn (pc := 103) C dX3_tryWay_103 rfl ?_
        refine s_getI (pc := 104) C fl_X3_238 SH_0 rfl dX3_tryWay_104 ?_
        refine s_icmp_lt (pc := 107) (tgt := 116) C dX3_tryWay_107 (by decide) (fun h_3 => ?_) (fun h_3 => ?_)
        · replace hf := ifp h_3 hf
          refine s_aloadn (pc := 116) C dX3_tryWay_116 rfl ?_
          refine s_dup (pc := 117) C dX3_tryWay_117 rfl ?_
          refine s_getI (pc := 118) C fl_X3_117 SH_0 rfl dX3_tryWay_118 ?_
          refine s_iconst (pc := 121) (v := 1) C dX3_tryWay_121 (by decide) ?_
          refine s_iadd (pc := 122) C dX3_tryWay_122 ?_
          refine s_putI (pc := 123) C fp_X3_117 SH_0 rfl dX3_tryWay_123 ?_
          refine s_aloadn (pc := 126) C dX3_tryWay_126 rfl ?_
          refine s_aloadn (pc := 127) C dX3_tryWay_127 rfl ?_
          refine s_iload (pc := 128) C dX3_tryWay_128 rfl ?_
          refine s_iload (pc := 130) C dX3_tryWay_130 rfl ?_
          refine s_iload (pc := 132) C dX3_tryWay_132 rfl ?_
          refine s_iload (pc := 134) C dX3_tryWay_134 rfl ?_
          obtain ⟨τ_2, e_2, hf⟩ := bvd hf
          refine s_callV (pc := 136) (rest := []) C rfl (c_X2_stand l D ca ad N q3 hq3 q2 hq2 v4 v10 v9 v8 (su τ_1 0 9 ((τ_1 0 9) + 1)) τ_2 e_2) kv_X3_264 ⟨rfl, rfl⟩ (by simp only [rmk]; omega) hq3 ⟨_, rfl, rfl⟩ rfl rfl (Nat.le_of_ble_eq_true rfl) dX3_tryWay_136 ⟨Nat.zero_le _, Nat.zero_le _⟩ ?_
          refine s_st (st' := []) rfl ?_
          refine s_aloadn (pc := 139) C dX3_tryWay_139 rfl ?_
          refine s_getR (pc := 140) (r := 3) C fl_X3_29 SH_0 rfl dX3_tryWay_140 ?_
          refine s_aloadn (pc := 143) C dX3_tryWay_143 rfl ?_
          refine s_aloadn (pc := 144) C dX3_tryWay_144 rfl ?_
          refine s_getI (pc := 145) C fl_X3_96 SH_0 rfl dX3_tryWay_145 ?_
          obtain ⟨r_3, τ_3, e_3, hf⟩ := bnd hf
          refine s_callV (pc := 148) (rest := []) C rfl (c_X1_isPlanWith l D ca ad N 1 (by decide : 1 < 2) q3 hq3 (τ_2 0 6) τ_2 r_3 τ_3 e_3) kv_X3_268 ⟨rfl, rfl⟩ (by simp only [rmk]; omega) (SH_plan (by decide : 1 < 2)) ⟨_, rfl, rfl⟩ rfl rfl (Nat.le_of_ble_eq_true rfl) dX3_tryWay_148 ⟨Nat.zero_le _, Nat.zero_le _⟩ ?_
          refine s_st (st' := [.int r_3]) rfl ?_
          refine s_if_eq (pc := 151) (tgt := 161) C dX3_tryWay_151 (by decide) (fun h_4 => ?_) (fun h_4 => ?_)
          · replace hf := ifp h_4 hf
            refine s_aloadn (pc := 161) C dX3_tryWay_161 rfl ?_
            obtain ⟨τ_4, e_4, hf⟩ := bvd hf
            refine s_callV (pc := 162) (rest := []) C rfl (c_X2_leave l D ca ad N q3 hq3 τ_3 τ_4 e_4) kv_X3_272 ⟨rfl, rfl⟩ (by simp only [rmk]; omega) hq3 ⟨_, rfl, rfl⟩ rfl rfl (Nat.le_of_ble_eq_true rfl) dX3_tryWay_162 ⟨Nat.zero_le _, Nat.zero_le _⟩ ?_
            refine s_st (st' := []) rfl ?_
            refine s_aloadn (pc := 165) C dX3_tryWay_165 rfl ?_
            refine s_getZ (pc := 166) C fl_X3_107 SH_0 rfl dX3_tryWay_166 ?_
            refine s_if_eq (pc := 169) (tgt := 173) C dX3_tryWay_169 (by decide) (fun h_5 => ?_) (fun h_5 => ?_)
            · replace hf := ifp h_5 hf
              refine s_iinc (pc := 173) (v := (v10 + 1)) (lo' := [some (.ref (ad 0)), some (.int v1), some (.ref (ad q2)), some (.ref (ad q3)), some (.int v4), some (.int v5), some (.int v6), some (.int v7), some (.int v8), some (.int v9), some (.int (v10 + 1))]) C dX3_tryWay_173 rfl rfl rfl ?_
              refine s_goto (pc := 176) (tgt := 79) C dX3_tryWay_176 (by decide) ?_
              refine s_few (lo' := [some (.ref (ad 0)), some (.int v1), some (.ref (ad q2)), some (.ref (ad q3)), some (.int v4), some (.int v5), some (.int v6), some (.int v7), some (.int v8), some (.int v9), some (.int (v10 + 1))]) (lfS (lfS (lfS (lfS (lfS (lfS (lfS (lfS (lfS (lfS (lfS lf0))))))))))) ?_
              exact ih v1 v4 v5 v6 v7 v8 v9 (v10 + 1) τ_4 hf
            · replace hf := ifn h_5 hf
              exact s_vret (pc := 172) C hr hlk dX3_tryWay_172 rfl (rtv hf)
          · replace hf := ifn h_4 hf
            refine s_aloadn (pc := 154) C dX3_tryWay_154 rfl ?_
            refine s_iloadn (pc := 155) C dX3_tryWay_155 rfl ?_
            refine s_iconst (pc := 156) (v := 1) C dX3_tryWay_156 (by decide) ?_
            refine s_iadd (pc := 157) C dX3_tryWay_157 ?_
            obtain ⟨τ_5, e_5, hf⟩ := bvd hf
            refine s_callV (pc := 158) (rest := []) C rfl (hrec (v1 + 1) τ_3 τ_5 e_5) kv_X3_104 ⟨rfl, rfl⟩ (by simp only [rmk]; omega) SH_0 ⟨_, rfl, rfl⟩ rfl rfl (Nat.le_of_ble_eq_true rfl) dX3_tryWay_158 ⟨Nat.zero_le _, Nat.zero_le _⟩ ?_
            refine s_st (st' := []) rfl ?_
            refine s_aloadn (pc := 161) C dX3_tryWay_161 rfl ?_
            obtain ⟨τ_6, e_6, hf⟩ := bvd hf
            refine s_callV (pc := 162) (rest := []) C rfl (c_X2_leave l D ca ad N q3 hq3 τ_5 τ_6 e_6) kv_X3_272 ⟨rfl, rfl⟩ (by simp only [rmk]; omega) hq3 ⟨_, rfl, rfl⟩ rfl rfl (Nat.le_of_ble_eq_true rfl) dX3_tryWay_162 ⟨Nat.zero_le _, Nat.zero_le _⟩ ?_
            refine s_st (st' := []) rfl ?_
            refine s_aloadn (pc := 165) C dX3_tryWay_165 rfl ?_
            refine s_getZ (pc := 166) C fl_X3_107 SH_0 rfl dX3_tryWay_166 ?_
            refine s_if_eq (pc := 169) (tgt := 173) C dX3_tryWay_169 (by decide) (fun h_6 => ?_) (fun h_6 => ?_)
            · replace hf := ifp h_6 hf
              refine s_iinc (pc := 173) (v := (v10 + 1)) (lo' := [some (.ref (ad 0)), some (.int v1), some (.ref (ad q2)), some (.ref (ad q3)), some (.int v4), some (.int v5), some (.int v6), some (.int v7), some (.int v8), some (.int v9), some (.int (v10 + 1))]) C dX3_tryWay_173 rfl rfl rfl ?_
              refine s_goto (pc := 176) (tgt := 79) C dX3_tryWay_176 (by decide) ?_
              refine s_few (lo' := [some (.ref (ad 0)), some (.int v1), some (.ref (ad q2)), some (.ref (ad q3)), some (.int v4), some (.int v5), some (.int v6), some (.int v7), some (.int v8), some (.int v9), some (.int (v10 + 1))]) (lfS (lfS (lfS (lfS (lfS (lfS (lfS (lfS (lfS (lfS (lfS lf0))))))))))) ?_
              exact ih v1 v4 v5 v6 v7 v8 v9 (v10 + 1) τ_6 hf
            · replace hf := ifn h_6 hf
              exact s_vret (pc := 172) C hr hlk dX3_tryWay_172 rfl (rtv hf)
        · replace hf := ifn h_3 hf
          refine s_aloadn (pc := 110) C dX3_tryWay_110 rfl ?_
          refine s_iconst (pc := 111) (v := 1) C dX3_tryWay_111 (by decide) ?_
          refine s_putZ (pc := 112) C fp_X3_107 SH_0 rfl (by decide) dX3_tryWay_112 ?_
          exact s_vret (pc := 115) C hr hlk dX3_tryWay_115 rfl (rtv hf)
      · replace hf := ifp h_2 hf
        refine s_goto (pc := 96) (tgt := 173) C dX3_tryWay_96 (by decide) ?_
        refine s_iinc (pc := 173) (v := (v10 + 1)) (lo' := [some (.ref (ad 0)), some (.int v1), some (.ref (ad q2)), some (.ref (ad q3)), some (.int v4), some (.int v5), some (.int v6), some (.int v7), some (.int v8), some (.int v9), some (.int (v10 + 1))]) C dX3_tryWay_173 rfl rfl rfl ?_
        refine s_goto (pc := 176) (tgt := 79) C dX3_tryWay_176 (by decide) ?_
        refine s_few (lo' := [some (.ref (ad 0)), some (.int v1), some (.ref (ad q2)), some (.ref (ad q3)), some (.int v4), some (.int v5), some (.int v6), some (.int v7), some (.int v8), some (.int v9), some (.int (v10 + 1))]) (lfS (lfS (lfS (lfS (lfS (lfS (lfS (lfS (lfS (lfS (lfS lf0))))))))))) ?_
        exact ih v1 v4 v5 v6 v7 v8 v9 (v10 + 1) τ_1 hf
def lp_X3_tryWay_56 (N : Nat) (rec : Int32 → St → Option St) (a1 : Int32) (q2 : Nat) (q3 : Nat) (a4 : Int32) (k33 : Int32 → Int32 → Int32 → Int32 → Int32 → Int32 → St → Option (St)) : Nat → Int32 → Int32 → Int32 → Int32 → Int32 → Int32 → Int32 → St → Option (St)
  | 0, _, _, _, _, _, _, _, _ => none
  | n + 1, v1, v4, v5, v6, v7, v8, v9, σ =>
    if 8 < v9 then
      k33 v1 v4 v5 v6 v7 (v8 + 1) σ
    else
      bn (f_X3_isIn N v6 v9 σ) fun r_1 τ_1 =>
      if r_1 = 0 then
        lp_X3_tryWay_56 N rec a1 q2 q3 a4 k33 n v1 v4 v5 v6 v7 v8 (v9 + 1) τ_1
      else
        lp_X3_tryWay_79 N rec a1 q2 q3 a4 (fun w1 w4 w5 w6 w7 w8 σ => k33 w1 w4 w5 w6 w7 w8 σ) (fun w1 w4 w5 w6 w7 w8 w9 σ => lp_X3_tryWay_56 N rec a1 q2 q3 a4 k33 n w1 w4 w5 w6 w7 w8 w9 σ) N v1 v4 v5 v6 v7 v8 v9 0 τ_1
set_option maxRecDepth 100000 in
set_option maxHeartbeats 4000000 in
theorem w_X3_tryWay_56 {l : Launch} {D : va_G} {ca : Nat → ClassId} {ad : Nat → Nat} {p : Program} {e : Env} {s : State} {m : MethodId} {args : Array Value} {below : List Frame} {meth : Method} {c : Code} {A : Nat → Prop} (C : CX p s m args c D ca A RX3 cX3_tryWay 11) (hr : meth.sig.returnType = none) (hlk : meth.locks = false) (N : Nat) (L : Nat) (hL : 7 ≤ L) (rec : Int32 → St → Option St) (hrec : ∀ (a : Int32) (σ τ : St), rec a σ = some τ → cM l yX3_searchFrom (.code yX3_searchFrom cX3_searchFrom 4 none) (rmk L) D ca ad SH [.ref (ad 0), .int a] σ none τ) (a1 : Int32) (q2 : Nat) (hq2 : SH[q2]? = some oPiece) (q3 : Nat) (hq3 : SH[q3]? = some oSpot) (a4 : Int32) (τ : St) (k33 : Int32 → Int32 → Int32 → Int32 → Int32 → Int32 → St → Option (St))  (hk33 : ∀ (w1 w4 w5 w6 w7 w8 : Int32) (σ : St), k33 w1 w4 w5 w6 w7 w8 σ = some τ → WW p l e (rmk (L + 1)) s m args below meth c 0 0 (EQ D ca ad SH A below args s none τ) A D ca ad SH 33 [some (.ref (ad 0)), some (.int w1), some (.ref (ad q2)), some (.ref (ad q3)), some (.int w4), some (.int w5), some (.int w6), some (.int w7), some (.int w8), none, none] [] σ) : ∀ (n : Nat) (v1 v4 v5 v6 v7 v8 v9 : Int32) (σ : St), lp_X3_tryWay_56 N rec a1 q2 q3 a4 k33 n v1 v4 v5 v6 v7 v8 v9 σ = some τ → WW p l e (rmk (L + 1)) s m args below meth c 0 0 (EQ D ca ad SH A below args s none τ) A D ca ad SH 56 [some (.ref (ad 0)), some (.int v1), some (.ref (ad q2)), some (.ref (ad q3)), some (.int v4), some (.int v5), some (.int v6), some (.int v7), some (.int v8), some (.int v9), none] [] σ := by
  intro n
  induction n with
  | zero => intro v1 v4 v5 v6 v7 v8 v9 σ hf; cases hf
  | succ n ih =>
    intro v1 v4 v5 v6 v7 v8 v9 σ hf
    rw [lp_X3_tryWay_56] at hf
    refine s_iload (pc := 56) C dX3_tryWay_56 rfl ?_
    refine s_bipush (pc := 58) (v := 8) C dX3_tryWay_58 (by decide) ?_
    refine s_icmp_gt (pc := 60) (tgt := 185) C dX3_tryWay_60 (by decide) (fun h_1 => ?_) (fun h_1 => ?_)
    · replace hf := ifp h_1 hf
      refine s_iinc (pc := 185) (v := (v8 + 1)) (lo' := [some (.ref (ad 0)), some (.int v1), some (.ref (ad q2)), some (.ref (ad q3)), some (.int v4), some (.int v5), some (.int v6), some (.int v7), some (.int (v8 + 1)), some (.int v9), none]) C dX3_tryWay_185 rfl rfl rfl ?_
      refine s_goto (pc := 188) (tgt := 33) C dX3_tryWay_188 (by decide) ?_
      refine s_few (lo' := [some (.ref (ad 0)), some (.int v1), some (.ref (ad q2)), some (.ref (ad q3)), some (.int v4), some (.int v5), some (.int v6), some (.int v7), some (.int (v8 + 1)), none, none]) (lfS (lfS (lfS (lfS (lfS (lfS (lfS (lfS (lfS (lfN (lfN lf0))))))))))) ?_
      exact hk33 v1 v4 v5 v6 v7 (v8 + 1) σ hf
    · replace hf := ifn h_1 hf
      refine s_iload (pc := 63) C dX3_tryWay_63 rfl ?_
      refine s_iload (pc := 65) C dX3_tryWay_65 rfl ?_
      obtain ⟨r_1, τ_1, e_1, hf⟩ := bnd hf
      refine s_callO (pc := 67) (rest := []) C rfl (c_X3_isIn l D ca ad N v6 v9 σ r_1 τ_1 e_1) ko_X3_260 ⟨rfl, rfl⟩ (by simp only [rmk]; omega) rfl rfl (Nat.le_of_ble_eq_true rfl) dX3_tryWay_67 ⟨Nat.zero_le _, Nat.zero_le _⟩ ?_
      refine s_st (st' := [.int r_1]) rfl ?_
      refine s_if_ne (pc := 70) (tgt := 76) C dX3_tryWay_70 (by decide) (fun h_2 => ?_) (fun h_2 => ?_)
      · replace hf := ifn h_2 hf
        refine s_iconst (pc := 76) (v := 0) C dX3_tryWay_76 (by decide) ?_
        refine s_istore (pc := 77) (lo' := [some (.ref (ad 0)), some (.int v1), some (.ref (ad q2)), some (.ref (ad q3)), some (.int v4), some (.int v5), some (.int v6), some (.int v7), some (.int v8), some (.int v9), some (.int 0)]) C dX3_tryWay_77 (Nat.le_of_ble_eq_true rfl) rfl ?_
        refine s_few (lo' := [some (.ref (ad 0)), some (.int v1), some (.ref (ad q2)), some (.ref (ad q3)), some (.int v4), some (.int v5), some (.int v6), some (.int v7), some (.int v8), some (.int v9), some (.int 0)]) (lfS (lfS (lfS (lfS (lfS (lfS (lfS (lfS (lfS (lfS (lfS lf0))))))))))) ?_
        exact w_X3_tryWay_79 C hr hlk N L hL rec hrec a1 q2 hq2 q3 hq3 a4 τ (fun w1 w4 w5 w6 w7 w8 σ => k33 w1 w4 w5 w6 w7 w8 σ) (fun w1 w4 w5 w6 w7 w8 w9 σ => lp_X3_tryWay_56 N rec a1 q2 q3 a4 k33 n w1 w4 w5 w6 w7 w8 w9 σ) (fun w1 w4 w5 w6 w7 w8 σ h => hk33 w1 w4 w5 w6 w7 w8 σ h) (fun w1 w4 w5 w6 w7 w8 w9 σ h => ih w1 w4 w5 w6 w7 w8 w9 σ h) N v1 v4 v5 v6 v7 v8 v9 0 τ_1 hf
      · replace hf := ifp h_2 hf
        refine s_goto (pc := 73) (tgt := 179) C dX3_tryWay_73 (by decide) ?_
        refine s_iinc (pc := 179) (v := (v9 + 1)) (lo' := [some (.ref (ad 0)), some (.int v1), some (.ref (ad q2)), some (.ref (ad q3)), some (.int v4), some (.int v5), some (.int v6), some (.int v7), some (.int v8), some (.int (v9 + 1)), none]) C dX3_tryWay_179 rfl rfl rfl ?_
        refine s_goto (pc := 182) (tgt := 56) C dX3_tryWay_182 (by decide) ?_
        refine s_few (lo' := [some (.ref (ad 0)), some (.int v1), some (.ref (ad q2)), some (.ref (ad q3)), some (.int v4), some (.int v5), some (.int v6), some (.int v7), some (.int v8), some (.int (v9 + 1)), none]) (lfS (lfS (lfS (lfS (lfS (lfS (lfS (lfS (lfS (lfS (lfN lf0))))))))))) ?_
        exact ih v1 v4 v5 v6 v7 v8 (v9 + 1) τ_1 hf
def lp_X3_tryWay_33 (N : Nat) (rec : Int32 → St → Option St) (a1 : Int32) (q2 : Nat) (q3 : Nat) (a4 : Int32) : Nat → Int32 → Int32 → Int32 → Int32 → Int32 → Int32 → St → Option (St)
  | 0, _, _, _, _, _, _, _ => none
  | n + 1, v1, v4, v5, v6, v7, v8, σ =>
    if 8 < v8 then
      some σ
    else
      bn (f_X3_isIn N v7 v8 σ) fun r_1 τ_1 =>
      if r_1 = 0 then
        lp_X3_tryWay_33 N rec a1 q2 q3 a4  n v1 v4 v5 v6 v7 (v8 + 1) τ_1
      else
        lp_X3_tryWay_56 N rec a1 q2 q3 a4 (fun w1 w4 w5 w6 w7 w8 σ => lp_X3_tryWay_33 N rec a1 q2 q3 a4  n w1 w4 w5 w6 w7 w8 σ) N v1 v4 v5 v6 v7 v8 0 τ_1
set_option maxRecDepth 100000 in
set_option maxHeartbeats 4000000 in
theorem w_X3_tryWay_33 {l : Launch} {D : va_G} {ca : Nat → ClassId} {ad : Nat → Nat} {p : Program} {e : Env} {s : State} {m : MethodId} {args : Array Value} {below : List Frame} {meth : Method} {c : Code} {A : Nat → Prop} (C : CX p s m args c D ca A RX3 cX3_tryWay 11) (hr : meth.sig.returnType = none) (hlk : meth.locks = false) (N : Nat) (L : Nat) (hL : 7 ≤ L) (rec : Int32 → St → Option St) (hrec : ∀ (a : Int32) (σ τ : St), rec a σ = some τ → cM l yX3_searchFrom (.code yX3_searchFrom cX3_searchFrom 4 none) (rmk L) D ca ad SH [.ref (ad 0), .int a] σ none τ) (a1 : Int32) (q2 : Nat) (hq2 : SH[q2]? = some oPiece) (q3 : Nat) (hq3 : SH[q3]? = some oSpot) (a4 : Int32) (τ : St)  : ∀ (n : Nat) (v1 v4 v5 v6 v7 v8 : Int32) (σ : St), lp_X3_tryWay_33 N rec a1 q2 q3 a4  n v1 v4 v5 v6 v7 v8 σ = some τ → WW p l e (rmk (L + 1)) s m args below meth c 0 0 (EQ D ca ad SH A below args s none τ) A D ca ad SH 33 [some (.ref (ad 0)), some (.int v1), some (.ref (ad q2)), some (.ref (ad q3)), some (.int v4), some (.int v5), some (.int v6), some (.int v7), some (.int v8), none, none] [] σ := by
  intro n
  induction n with
  | zero => intro v1 v4 v5 v6 v7 v8 σ hf; cases hf
  | succ n ih =>
    intro v1 v4 v5 v6 v7 v8 σ hf
    rw [lp_X3_tryWay_33] at hf
    refine s_iload (pc := 33) C dX3_tryWay_33 rfl ?_
    refine s_bipush (pc := 35) (v := 8) C dX3_tryWay_35 (by decide) ?_
    refine s_icmp_gt (pc := 37) (tgt := 191) C dX3_tryWay_37 (by decide) (fun h_1 => ?_) (fun h_1 => ?_)
    · replace hf := ifp h_1 hf
      exact s_vret (pc := 191) C hr hlk dX3_tryWay_191 rfl (rtv hf)
    · replace hf := ifn h_1 hf
      refine s_iload (pc := 40) C dX3_tryWay_40 rfl ?_
      refine s_iload (pc := 42) C dX3_tryWay_42 rfl ?_
      obtain ⟨r_1, τ_1, e_1, hf⟩ := bnd hf
      refine s_callO (pc := 44) (rest := []) C rfl (c_X3_isIn l D ca ad N v7 v8 σ r_1 τ_1 e_1) ko_X3_260 ⟨rfl, rfl⟩ (by simp only [rmk]; omega) rfl rfl (Nat.le_of_ble_eq_true rfl) dX3_tryWay_44 ⟨Nat.zero_le _, Nat.zero_le _⟩ ?_
      refine s_st (st' := [.int r_1]) rfl ?_
      refine s_if_ne (pc := 47) (tgt := 53) C dX3_tryWay_47 (by decide) (fun h_2 => ?_) (fun h_2 => ?_)
      · replace hf := ifn h_2 hf
        refine s_iconst (pc := 53) (v := 0) C dX3_tryWay_53 (by decide) ?_
        refine s_istore (pc := 54) (lo' := [some (.ref (ad 0)), some (.int v1), some (.ref (ad q2)), some (.ref (ad q3)), some (.int v4), some (.int v5), some (.int v6), some (.int v7), some (.int v8), some (.int 0), none]) C dX3_tryWay_54 (Nat.le_of_ble_eq_true rfl) rfl ?_
        refine s_few (lo' := [some (.ref (ad 0)), some (.int v1), some (.ref (ad q2)), some (.ref (ad q3)), some (.int v4), some (.int v5), some (.int v6), some (.int v7), some (.int v8), some (.int 0), none]) (lfS (lfS (lfS (lfS (lfS (lfS (lfS (lfS (lfS (lfS (lfN lf0))))))))))) ?_
        exact w_X3_tryWay_56 C hr hlk N L hL rec hrec a1 q2 hq2 q3 hq3 a4 τ (fun w1 w4 w5 w6 w7 w8 σ => lp_X3_tryWay_33 N rec a1 q2 q3 a4  n w1 w4 w5 w6 w7 w8 σ) (fun w1 w4 w5 w6 w7 w8 σ h => ih w1 w4 w5 w6 w7 w8 σ h) N v1 v4 v5 v6 v7 v8 0 τ_1 hf
      · replace hf := ifp h_2 hf
        refine s_goto (pc := 50) (tgt := 185) C dX3_tryWay_50 (by decide) ?_
        refine s_iinc (pc := 185) (v := (v8 + 1)) (lo' := [some (.ref (ad 0)), some (.int v1), some (.ref (ad q2)), some (.ref (ad q3)), some (.int v4), some (.int v5), some (.int v6), some (.int v7), some (.int (v8 + 1)), none, none]) C dX3_tryWay_185 rfl rfl rfl ?_
        refine s_goto (pc := 188) (tgt := 33) C dX3_tryWay_188 (by decide) ?_
        refine s_few (lo' := [some (.ref (ad 0)), some (.int v1), some (.ref (ad q2)), some (.ref (ad q3)), some (.int v4), some (.int v5), some (.int v6), some (.int v7), some (.int (v8 + 1)), none, none]) (lfS (lfS (lfS (lfS (lfS (lfS (lfS (lfS (lfS (lfN (lfN lf0))))))))))) ?_
        exact ih v1 v4 v5 v6 v7 (v8 + 1) τ_1 hf
def f_X3_tryWay (N : Nat) (rec : Int32 → St → Option St) (a1 : Int32) (q2 : Nat) (q3 : Nat) (a4 : Int32) (σ : St) : Option (St) :=
  bn (f_X1_ends N 1 0 σ) fun r_1 τ_1 =>
  bn (f_X1_ends N 1 1 τ_1) fun r_2 τ_2 =>
  bn (f_X1_ends N 1 2 τ_2) fun r_3 τ_3 =>
  lp_X3_tryWay_33 N rec a1 q2 q3 a4 N a1 a4 r_1 r_2 r_3 0 τ_3
set_option maxRecDepth 100000 in
set_option maxHeartbeats 4000000 in
theorem c_X3_tryWay (l : Launch) (D : va_G) (ca : Nat → ClassId) (ad : Nat → Nat) (N : Nat) (L : Nat) (hL : 7 ≤ L) (rec : Int32 → St → Option St) (hrec : ∀ (a : Int32) (σ τ : St), rec a σ = some τ → cM l yX3_searchFrom (.code yX3_searchFrom cX3_searchFrom 4 none) (rmk L) D ca ad SH [.ref (ad 0), .int a] σ none τ) (a1 : Int32) (q2 : Nat) (hq2 : SH[q2]? = some oPiece) (q3 : Nat) (hq3 : SH[q3]? = some oSpot) (a4 : Int32) (σ : St) (τ : St) (hf : f_X3_tryWay N rec a1 q2 q3 a4 σ = some τ) : cM l yX3_tryWay (.code yX3_tryWay cX3_tryWay 11 none) (rmk (L + 1)) D ca ad SH [.ref (ad 0), .int a1, .ref (ad q2), .ref (ad q3), .int a4] σ none τ := by
  refine cM.intro2 (own := RX3) (lo := [some (.ref (ad 0)), some (.int a1), some (.ref (ad q2)), some (.ref (ad q3)), some (.int a4), none, none, none, none, none, none]) (by decide) rfl (ccR (ccI (ccR (ccR (ccI cc0))))) (Nat.le_of_ble_eq_true rfl) rfl ?_
  intro p e s m args below meth c A C hr hlk
  unfold f_X3_tryWay at hf
  refine s_aloadn (pc := 0) C dX3_tryWay_0 rfl ?_
  refine s_getR (pc := 1) (r := 3) C fl_X3_29 SH_0 rfl dX3_tryWay_1 ?_
  refine s_iconst (pc := 4) (v := 0) C dX3_tryWay_4 (by decide) ?_
  obtain ⟨r_1, τ_1, e_1, hf⟩ := bnd hf
  refine s_callV (pc := 5) (rest := []) C rfl (c_X1_ends l D ca ad N 1 (by decide : 1 < 2) 0 σ r_1 τ_1 e_1) kv_X3_257 ⟨rfl, rfl⟩ (by simp only [rmk]; omega) (SH_plan (by decide : 1 < 2)) ⟨_, rfl, rfl⟩ rfl rfl (Nat.le_of_ble_eq_true rfl) dX3_tryWay_5 ⟨Nat.zero_le _, Nat.zero_le _⟩ ?_
  refine s_st (st' := [.int r_1]) rfl ?_
  refine s_istore (pc := 8) (lo' := [some (.ref (ad 0)), some (.int a1), some (.ref (ad q2)), some (.ref (ad q3)), some (.int a4), some (.int r_1), none, none, none, none, none]) C dX3_tryWay_8 (Nat.le_of_ble_eq_true rfl) rfl ?_
  refine s_aloadn (pc := 10) C dX3_tryWay_10 rfl ?_
  refine s_getR (pc := 11) (r := 3) C fl_X3_29 SH_0 rfl dX3_tryWay_11 ?_
  refine s_iconst (pc := 14) (v := 1) C dX3_tryWay_14 (by decide) ?_
  obtain ⟨r_2, τ_2, e_2, hf⟩ := bnd hf
  refine s_callV (pc := 15) (rest := []) C rfl (c_X1_ends l D ca ad N 1 (by decide : 1 < 2) 1 τ_1 r_2 τ_2 e_2) kv_X3_257 ⟨rfl, rfl⟩ (by simp only [rmk]; omega) (SH_plan (by decide : 1 < 2)) ⟨_, rfl, rfl⟩ rfl rfl (Nat.le_of_ble_eq_true rfl) dX3_tryWay_15 ⟨Nat.zero_le _, Nat.zero_le _⟩ ?_
  refine s_st (st' := [.int r_2]) rfl ?_
  refine s_istore (pc := 18) (lo' := [some (.ref (ad 0)), some (.int a1), some (.ref (ad q2)), some (.ref (ad q3)), some (.int a4), some (.int r_1), some (.int r_2), none, none, none, none]) C dX3_tryWay_18 (Nat.le_of_ble_eq_true rfl) rfl ?_
  refine s_aloadn (pc := 20) C dX3_tryWay_20 rfl ?_
  refine s_getR (pc := 21) (r := 3) C fl_X3_29 SH_0 rfl dX3_tryWay_21 ?_
  refine s_iconst (pc := 24) (v := 2) C dX3_tryWay_24 (by decide) ?_
  obtain ⟨r_3, τ_3, e_3, hf⟩ := bnd hf
  refine s_callV (pc := 25) (rest := []) C rfl (c_X1_ends l D ca ad N 1 (by decide : 1 < 2) 2 τ_2 r_3 τ_3 e_3) kv_X3_257 ⟨rfl, rfl⟩ (by simp only [rmk]; omega) (SH_plan (by decide : 1 < 2)) ⟨_, rfl, rfl⟩ rfl rfl (Nat.le_of_ble_eq_true rfl) dX3_tryWay_25 ⟨Nat.zero_le _, Nat.zero_le _⟩ ?_
  refine s_st (st' := [.int r_3]) rfl ?_
  refine s_istore (pc := 28) (lo' := [some (.ref (ad 0)), some (.int a1), some (.ref (ad q2)), some (.ref (ad q3)), some (.int a4), some (.int r_1), some (.int r_2), some (.int r_3), none, none, none]) C dX3_tryWay_28 (Nat.le_of_ble_eq_true rfl) rfl ?_
  refine s_iconst (pc := 30) (v := 0) C dX3_tryWay_30 (by decide) ?_
  refine s_istore (pc := 31) (lo' := [some (.ref (ad 0)), some (.int a1), some (.ref (ad q2)), some (.ref (ad q3)), some (.int a4), some (.int r_1), some (.int r_2), some (.int r_3), some (.int 0), none, none]) C dX3_tryWay_31 (Nat.le_of_ble_eq_true rfl) rfl ?_
  refine s_few (lo' := [some (.ref (ad 0)), some (.int a1), some (.ref (ad q2)), some (.ref (ad q3)), some (.int a4), some (.int r_1), some (.int r_2), some (.int r_3), some (.int 0), none, none]) (lfS (lfS (lfS (lfS (lfS (lfS (lfS (lfS (lfS (lfN (lfN lf0))))))))))) ?_
  exact w_X3_tryWay_33 C hr hlk N L hL rec hrec a1 q2 hq2 q3 hq3 a4 τ  N a1 a4 r_1 r_2 r_3 0 τ_3 hf
def lp_X3_searchFrom_22 (N : Nat) (rec : Int32 → St → Option St) (a1 : Int32) : Nat → Int32 → Int32 → Int32 → St → Option (St)
  | 0, _, _, _, _ => none
  | n + 1, v1, v2, v3, σ =>
    if 6 ≤ v3 then
      if (σ 0 11 &&& 1) = 0 then
        bv (rec (v1 + 1) σ) fun τ_1 =>
        some τ_1
      else
        some σ
    else
      if (σ 0 11 &&& 1) = 0 then
        if inb v2 6 = true then
        bn (f_X0_lets N (5 + ix v2) v3 σ) fun r_3 τ_3 =>
        if r_3 = 0 then
          lp_X3_searchFrom_22 N rec a1  n v1 v2 (v3 + 1) τ_3
        else
          if inb v2 6 = true then
          if inb v2 6 = true then
          bv (f_X3_tryWay N rec v1 (5 + ix v2) (13 + 6 * 1 + ix v2) v3 τ_3) fun τ_4 =>
          lp_X3_searchFrom_22 N rec a1  n v1 v2 (v3 + 1) τ_4
          else none
          else none
        else none
      else
        if (σ 0 11 &&& 1) = 0 then
          bv (rec (v1 + 1) σ) fun τ_2 =>
          some τ_2
        else
          some σ
set_option maxRecDepth 100000 in
set_option maxHeartbeats 4000000 in
theorem w_X3_searchFrom_22 {l : Launch} {D : va_G} {ca : Nat → ClassId} {ad : Nat → Nat} {p : Program} {e : Env} {s : State} {m : MethodId} {args : Array Value} {below : List Frame} {meth : Method} {c : Code} {A : Nat → Prop} (C : CX p s m args c D ca A RX3 cX3_searchFrom 4) (hr : meth.sig.returnType = none) (hlk : meth.locks = false) (N : Nat) (L : Nat) (hL : 7 ≤ L) (rec : Int32 → St → Option St) (hrec : ∀ (a : Int32) (σ τ : St), rec a σ = some τ → cM l yX3_searchFrom (.code yX3_searchFrom cX3_searchFrom 4 none) (rmk L) D ca ad SH [.ref (ad 0), .int a] σ none τ) (a1 : Int32) (τ : St)  : ∀ (n : Nat) (v1 v2 v3 : Int32) (σ : St), lp_X3_searchFrom_22 N rec a1  n v1 v2 v3 σ = some τ → WW p l e (rmk (L + 2)) s m args below meth c 0 0 (EQ D ca ad SH A below args s none τ) A D ca ad SH 22 [some (.ref (ad 0)), some (.int v1), some (.int v2), some (.int v3)] [] σ := by
  intro n
  induction n with
  | zero => intro v1 v2 v3 σ hf; cases hf
  | succ n ih =>
    intro v1 v2 v3 σ hf
    rw [lp_X3_searchFrom_22] at hf
    refine s_iloadn (pc := 22) C dX3_searchFrom_22 rfl ?_
    refine s_bipush (pc := 23) (v := 6) C dX3_searchFrom_23 (by decide) ?_
    refine s_icmp_ge (pc := 25) (tgt := 75) C dX3_searchFrom_25 (by decide) (fun h_1 => ?_) (fun h_1 => ?_)
    · replace hf := ifp h_1 hf
      refine s_aloadn (pc := 75) C dX3_searchFrom_75 rfl ?_
      refine s_getZ (pc := 76) C fl_X3_107 SH_0 rfl dX3_searchFrom_76 ?_
      refine s_if_ne (pc := 79) (tgt := 89) C dX3_searchFrom_79 (by decide) (fun h_2 => ?_) (fun h_2 => ?_)
      · replace hf := ifn h_2 hf
        exact s_vret (pc := 89) C hr hlk dX3_searchFrom_89 rfl (rtv hf)
      · replace hf := ifp h_2 hf
        refine s_aloadn (pc := 82) C dX3_searchFrom_82 rfl ?_
        refine s_iloadn (pc := 83) C dX3_searchFrom_83 rfl ?_
        refine s_iconst (pc := 84) (v := 1) C dX3_searchFrom_84 (by decide) ?_
        refine s_iadd (pc := 85) C dX3_searchFrom_85 ?_
        obtain ⟨τ_1, e_1, hf⟩ := bvd hf
        refine s_callV (pc := 86) (rest := []) C rfl (hrec (v1 + 1) σ τ_1 e_1) kv_X3_104 ⟨rfl, rfl⟩ (by simp only [rmk]; omega) SH_0 ⟨_, rfl, rfl⟩ rfl rfl (Nat.le_of_ble_eq_true rfl) dX3_searchFrom_86 ⟨Nat.zero_le _, Nat.zero_le _⟩ ?_
        refine s_st (st' := []) rfl ?_
        exact s_vret (pc := 89) C hr hlk dX3_searchFrom_89 rfl (rtv hf)
    · replace hf := ifn h_1 hf
      refine s_aloadn (pc := 28) C dX3_searchFrom_28 rfl ?_
      refine s_getZ (pc := 29) C fl_X3_107 SH_0 rfl dX3_searchFrom_29 ?_
      refine s_if_ne (pc := 32) (tgt := 75) C dX3_searchFrom_32 (by decide) (fun h_3 => ?_) (fun h_3 => ?_)
      · replace hf := ifn h_3 hf
        refine s_aloadn (pc := 75) C dX3_searchFrom_75 rfl ?_
        refine s_getZ (pc := 76) C fl_X3_107 SH_0 rfl dX3_searchFrom_76 ?_
        refine s_if_ne (pc := 79) (tgt := 89) C dX3_searchFrom_79 (by decide) (fun h_4 => ?_) (fun h_4 => ?_)
        · replace hf := ifn h_4 hf
          exact s_vret (pc := 89) C hr hlk dX3_searchFrom_89 rfl (rtv hf)
        · replace hf := ifp h_4 hf
          refine s_aloadn (pc := 82) C dX3_searchFrom_82 rfl ?_
          refine s_iloadn (pc := 83) C dX3_searchFrom_83 rfl ?_
          refine s_iconst (pc := 84) (v := 1) C dX3_searchFrom_84 (by decide) ?_
          refine s_iadd (pc := 85) C dX3_searchFrom_85 ?_
          obtain ⟨τ_2, e_2, hf⟩ := bvd hf
          refine s_callV (pc := 86) (rest := []) C rfl (hrec (v1 + 1) σ τ_2 e_2) kv_X3_104 ⟨rfl, rfl⟩ (by simp only [rmk]; omega) SH_0 ⟨_, rfl, rfl⟩ rfl rfl (Nat.le_of_ble_eq_true rfl) dX3_searchFrom_86 ⟨Nat.zero_le _, Nat.zero_le _⟩ ?_
          refine s_st (st' := []) rfl ?_
          exact s_vret (pc := 89) C hr hlk dX3_searchFrom_89 rfl (rtv hf)
      · replace hf := ifp h_3 hf
        refine s_aloadn (pc := 35) C dX3_searchFrom_35 rfl ?_
        refine s_getR (pc := 36) (r := 1) C fl_X3_15 SH_0 rfl dX3_searchFrom_36 ?_
        refine s_iloadn (pc := 39) C dX3_searchFrom_39 rfl ?_
        obtain ⟨g_1, hf⟩ := gd hf
        refine s_aald (pc := 40) C SH_1 (ty1 ca) g_1 dX3_searchFrom_40 ?_
        refine s_iloadn (pc := 41) C dX3_searchFrom_41 rfl ?_
        obtain ⟨r_3, τ_3, e_3, hf⟩ := bnd hf
        refine s_callV (pc := 42) (rest := []) C rfl (c_X0_lets l D ca ad N (5 + ix v2) (SH_piece (inb_lt g_1)) v3 σ r_3 τ_3 e_3) kv_X3_223 ⟨rfl, rfl⟩ (by simp only [rmk]; omega) (SH_piece (inb_lt g_1)) ⟨_, rfl, rfl⟩ rfl rfl (Nat.le_of_ble_eq_true rfl) dX3_searchFrom_42 ⟨Nat.zero_le _, Nat.zero_le _⟩ ?_
        refine s_st (st' := [.int r_3]) rfl ?_
        refine s_if_eq (pc := 45) (tgt := 69) C dX3_searchFrom_45 (by decide) (fun h_5 => ?_) (fun h_5 => ?_)
        · replace hf := ifp h_5 hf
          refine s_iinc (pc := 69) (v := (v3 + 1)) (lo' := [some (.ref (ad 0)), some (.int v1), some (.int v2), some (.int (v3 + 1))]) C dX3_searchFrom_69 rfl rfl rfl ?_
          refine s_goto (pc := 72) (tgt := 22) C dX3_searchFrom_72 (by decide) ?_
          refine s_few (lo' := [some (.ref (ad 0)), some (.int v1), some (.int v2), some (.int (v3 + 1))]) (lfS (lfS (lfS (lfS lf0)))) ?_
          exact ih v1 v2 (v3 + 1) τ_3 hf
        · replace hf := ifn h_5 hf
          refine s_aloadn (pc := 48) C dX3_searchFrom_48 rfl ?_
          refine s_iloadn (pc := 49) C dX3_searchFrom_49 rfl ?_
          refine s_aloadn (pc := 50) C dX3_searchFrom_50 rfl ?_
          refine s_getR (pc := 51) (r := 1) C fl_X3_15 SH_0 rfl dX3_searchFrom_51 ?_
          refine s_iloadn (pc := 54) C dX3_searchFrom_54 rfl ?_
          obtain ⟨g_2, hf⟩ := gd hf
          refine s_aald (pc := 55) C SH_1 (ty1 ca) g_2 dX3_searchFrom_55 ?_
          refine s_aloadn (pc := 56) C dX3_searchFrom_56 rfl ?_
          refine s_getR (pc := 57) (r := 3) C fl_X3_29 SH_0 rfl dX3_searchFrom_57 ?_
          refine s_getR (pc := 60) (r := (11 + 1)) C fl_X3_196 (SH_plan (by decide : 1 < 2)) rfl dX3_searchFrom_60 ?_
          refine s_iloadn (pc := 63) C dX3_searchFrom_63 rfl ?_
          obtain ⟨g_3, hf⟩ := gd hf
          refine s_aald (pc := 64) C (SH_spots (by decide : 1 < 2)) (ty2 ca) g_3 dX3_searchFrom_64 ?_
          refine s_iloadn (pc := 65) C dX3_searchFrom_65 rfl ?_
          obtain ⟨τ_4, e_4, hf⟩ := bvd hf
          refine s_callV (pc := 66) (rest := []) C rfl (c_X3_tryWay l D ca ad N L hL rec hrec v1 (5 + ix v2) (SH_piece (inb_lt g_2)) (13 + 6 * 1 + ix v2) (SH_spot (by decide : 1 < 2) (inb_lt g_3)) v3 τ_3 τ_4 e_4) kv_X3_253 ⟨rfl, rfl⟩ (by simp only [rmk]; omega) SH_0 ⟨_, rfl, rfl⟩ rfl rfl (Nat.le_of_ble_eq_true rfl) dX3_searchFrom_66 ⟨Nat.zero_le _, Nat.zero_le _⟩ ?_
          refine s_st (st' := []) rfl ?_
          refine s_iinc (pc := 69) (v := (v3 + 1)) (lo' := [some (.ref (ad 0)), some (.int v1), some (.int v2), some (.int (v3 + 1))]) C dX3_searchFrom_69 rfl rfl rfl ?_
          refine s_goto (pc := 72) (tgt := 22) C dX3_searchFrom_72 (by decide) ?_
          refine s_few (lo' := [some (.ref (ad 0)), some (.int v1), some (.int v2), some (.int (v3 + 1))]) (lfS (lfS (lfS (lfS lf0)))) ?_
          exact ih v1 v2 (v3 + 1) τ_4 hf
def f_X3_searchFromG (N : Nat) (rec : Int32 → St → Option St) (a1 : Int32) (σ : St) : Option (St) :=
  if a1 < (σ 0 5) then
    if inb a1 6 = true then
    lp_X3_searchFrom_22 N rec a1 N a1 (σ 4 (ix a1)) 0 σ
    else none
  else
    bv (f_X3_lookAtTrial N σ) fun τ_1 =>
    some τ_1
set_option maxRecDepth 100000 in
set_option maxHeartbeats 4000000 in
theorem c_X3_searchFromG (l : Launch) (D : va_G) (ca : Nat → ClassId) (ad : Nat → Nat) (N : Nat) (L : Nat) (hL : 7 ≤ L) (rec : Int32 → St → Option St) (hrec : ∀ (a : Int32) (σ τ : St), rec a σ = some τ → cM l yX3_searchFrom (.code yX3_searchFrom cX3_searchFrom 4 none) (rmk L) D ca ad SH [.ref (ad 0), .int a] σ none τ) (a1 : Int32) (σ : St) (τ : St) (hf : f_X3_searchFromG N rec a1 σ = some τ) : cM l yX3_searchFrom (.code yX3_searchFrom cX3_searchFrom 4 none) (rmk (L + 2)) D ca ad SH [.ref (ad 0), .int a1] σ none τ := by
  refine cM.intro2 (own := RX3) (lo := [some (.ref (ad 0)), some (.int a1), none, none]) (by decide) rfl (ccR (ccI cc0)) (Nat.le_of_ble_eq_true rfl) rfl ?_
  intro p e s m args below meth c A C hr hlk
  unfold f_X3_searchFromG at hf
  refine s_iloadn (pc := 0) C dX3_searchFrom_0 rfl ?_
  refine s_aloadn (pc := 1) C dX3_searchFrom_1 rfl ?_
  refine s_getI (pc := 2) C fl_X3_247 SH_0 rfl dX3_searchFrom_2 ?_
  refine s_icmp_lt (pc := 5) (tgt := 13) C dX3_searchFrom_5 (by decide) (fun h_1 => ?_) (fun h_1 => ?_)
  · replace hf := ifp h_1 hf
    refine s_aloadn (pc := 13) C dX3_searchFrom_13 rfl ?_
    refine s_getR (pc := 14) (r := 4) C fl_X3_32 SH_0 rfl dX3_searchFrom_14 ?_
    refine s_iloadn (pc := 17) C dX3_searchFrom_17 rfl ?_
    obtain ⟨g_1, hf⟩ := gd hf
    refine s_iald (pc := 18) C SH_4 (ty0 ca) g_1 dX3_searchFrom_18 ?_
    refine s_istoren (pc := 19) (lo' := [some (.ref (ad 0)), some (.int a1), some (.int (σ 4 (ix a1))), none]) C dX3_searchFrom_19 (Nat.le_of_ble_eq_true rfl) rfl ?_
    refine s_iconst (pc := 20) (v := 0) C dX3_searchFrom_20 (by decide) ?_
    refine s_istoren (pc := 21) (lo' := [some (.ref (ad 0)), some (.int a1), some (.int (σ 4 (ix a1))), some (.int 0)]) C dX3_searchFrom_21 (Nat.le_of_ble_eq_true rfl) rfl ?_
    refine s_few (lo' := [some (.ref (ad 0)), some (.int a1), some (.int (σ 4 (ix a1))), some (.int 0)]) (lfS (lfS (lfS (lfS lf0)))) ?_
    exact w_X3_searchFrom_22 C hr hlk N L hL rec hrec a1 τ  N a1 (σ 4 (ix a1)) 0 σ hf
  · replace hf := ifn h_1 hf
    refine s_aloadn (pc := 8) C dX3_searchFrom_8 rfl ?_
    obtain ⟨τ_1, e_1, hf⟩ := bvd hf
    refine s_callV (pc := 9) (rest := []) C rfl (c_X3_lookAtTrial l D ca ad N  σ τ_1 e_1) kv_X3_250 ⟨rfl, rfl⟩ (by simp only [rmk]; omega) SH_0 ⟨_, rfl, rfl⟩ rfl rfl (Nat.le_of_ble_eq_true rfl) dX3_searchFrom_9 ⟨Nat.zero_le _, Nat.zero_le _⟩ ?_
    refine s_st (st' := []) rfl ?_
    exact s_vret (pc := 12) C hr hlk dX3_searchFrom_12 rfl (rtv hf)
/-- the search itself, by the depth that is left -/
def f_X3_searchFrom (N : Nat) : Nat → Int32 → St → Option St
  | 0, _, _ => none
  | d + 1, a, σ => f_X3_searchFromG N (f_X3_searchFrom N d) a σ
theorem c_X3_searchFrom (l : Launch) (D : va_G) (ca : Nat → ClassId) (ad : Nat → Nat) (N : Nat) : ∀ (d : Nat) (a : Int32) (σ τ : St), f_X3_searchFrom N d a σ = some τ → cM l yX3_searchFrom (.code yX3_searchFrom cX3_searchFrom 4 none) (rmk (7 + 2 * d)) D ca ad SH [.ref (ad 0), .int a] σ none τ := by
  intro d
  induction d with
  | zero => intro a σ τ h; cases h
  | succ d ih =>
    intro a σ τ h
    rw [f_X3_searchFrom] at h
    exact c_X3_searchFromG l D ca ad N (7 + 2 * d) (by omega) _ ih a σ τ h
