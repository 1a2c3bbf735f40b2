def lp_X1_clear_2 (N : Nat) (b0 : Nat) : Nat → Int32 → St → Option (St)
  | 0, _, _ => none
  | n + 1, v1, σ =>
    if 6 ≤ v1 then
      some σ
    else
      if inb v1 6 = true then
      bv (f_X2_leave N (13 + 6 * b0 + ix v1) σ) fun τ_1 =>
      lp_X1_clear_2 N b0  n (v1 + 1) τ_1
      else none
set_option maxRecDepth 100000 in
set_option maxHeartbeats 4000000 in
theorem w_X1_clear_2 {l : Launch} {D : va_G} {ca : Nat → ClassId} {ad : Nat → Nat} {p : Program} {e : Env} {s : State} {m : MethodId} {args : Array Value} {below : List Frame} {meth : Method} {c : Code} {A : Nat → Prop} (C : CX p s m args c D ca A RX1 cX1_clear 2) (hr : meth.sig.returnType = none) (hlk : meth.locks = false) (N : Nat) (b0 : Nat) (hb0 : b0 < 2) (τ : St)  : ∀ (n : Nat) (v1 : Int32) (σ : St), lp_X1_clear_2 N b0  n v1 σ = some τ → WW p l e (rmk 1) s m args below meth c 0 0 (EQ D ca ad SH A below args s none τ) A D ca ad SH 2 [some (.ref (ad (2 + b0))), some (.int v1)] [] σ := by
  intro n
  induction n with
  | zero => intro v1 σ hf; cases hf
  | succ n ih =>
    intro v1 σ hf
    rw [lp_X1_clear_2] at hf
    refine s_iloadn (pc := 2) C dX1_clear_2 rfl ?_
    refine s_aloadn (pc := 3) C dX1_clear_3 rfl ?_
    refine s_getR (pc := 4) (r := (11 + b0)) C fl_X1_23 (SH_plan hb0) rfl dX1_clear_4 ?_
    refine s_alenI (pc := 7) (v := 6) C (SH_spots hb0) (ty2 ca) (by decide) dX1_clear_7 ?_
    refine s_icmp_ge (pc := 8) (tgt := 26) C dX1_clear_8 (by decide) (fun h_1 => ?_) (fun h_1 => ?_)
    · replace hf := ifp h_1 hf
      exact s_vret (pc := 26) C hr hlk dX1_clear_26 rfl (rtv hf)
    · replace hf := ifn h_1 hf
      refine s_aloadn (pc := 11) C dX1_clear_11 rfl ?_
      refine s_getR (pc := 12) (r := (11 + b0)) C fl_X1_23 (SH_plan hb0) rfl dX1_clear_12 ?_
      refine s_iloadn (pc := 15) C dX1_clear_15 rfl ?_
      obtain ⟨g_1, hf⟩ := gd hf
      refine s_aald (pc := 16) C (SH_spots hb0) (ty2 ca) g_1 dX1_clear_16 ?_
      obtain ⟨τ_1, e_1, hf⟩ := bvd hf
      refine s_callV (pc := 17) (rest := []) C rfl (c_X2_leave l D ca ad N (13 + 6 * b0 + ix v1) (SH_spot hb0 (inb_lt g_1)) σ τ_1 e_1) kv_X1_28 ⟨rfl, rfl⟩ (by decide) (SH_spot hb0 (inb_lt g_1)) ⟨_, rfl, rfl⟩ rfl rfl (Nat.le_of_ble_eq_true rfl) dX1_clear_17 ⟨Nat.zero_le _, Nat.zero_le _⟩ ?_
      refine s_st (st' := []) rfl ?_
      refine s_iinc (pc := 20) (v := (v1 + 1)) (lo' := [some (.ref (ad (2 + b0))), some (.int (v1 + 1))]) C dX1_clear_20 rfl rfl rfl ?_
      refine s_goto (pc := 23) (tgt := 2) C dX1_clear_23 (by decide) ?_
      refine s_few (lo' := [some (.ref (ad (2 + b0))), some (.int (v1 + 1))]) (lfS (lfS lf0)) ?_
      exact ih (v1 + 1) τ_1 hf
def f_X1_clear (N : Nat) (b0 : Nat) (σ : St) : Option (St) :=
  lp_X1_clear_2 N b0 N 0 σ
set_option maxRecDepth 100000 in
set_option maxHeartbeats 4000000 in
theorem c_X1_clear (l : Launch) (D : va_G) (ca : Nat → ClassId) (ad : Nat → Nat) (N : Nat) (b0 : Nat) (hb0 : b0 < 2) (σ : St) (τ : St) (hf : f_X1_clear N b0 σ = some τ) : cM l yX1_clear (.code yX1_clear cX1_clear 2 none) (rmk 1) D ca ad SH [.ref (ad (2 + b0))] σ none τ := by
  refine cM.intro2 (own := RX1) (lo := [some (.ref (ad (2 + b0))), none]) (by decide) rfl (ccR cc0) (Nat.le_of_ble_eq_true rfl) rfl ?_
  intro p e s m args below meth c A C hr hlk
  unfold f_X1_clear at hf
  refine s_iconst (pc := 0) (v := 0) C dX1_clear_0 (by decide) ?_
  refine s_istoren (pc := 1) (lo' := [some (.ref (ad (2 + b0))), some (.int 0)]) C dX1_clear_1 (Nat.le_of_ble_eq_true rfl) rfl ?_
  refine s_few (lo' := [some (.ref (ad (2 + b0))), some (.int 0)]) (lfS (lfS lf0)) ?_
  exact w_X1_clear_2 C hr hlk N b0 hb0 τ  N 0 σ hf
def lp_X1_copyFrom_2 (N : Nat) (b0 : Nat) (b1 : Nat) : Nat → Int32 → St → Option (St)
  | 0, _, _ => none
  | n + 1, v2, σ =>
    if 6 ≤ v2 then
      some σ
    else
      if 6 ≤ v2 then
        some σ
      else
        if inb v2 6 = true then
        if inb v2 6 = true then
        bv (f_X2_copyFrom N (13 + 6 * b0 + ix v2) (13 + 6 * b1 + ix v2) σ) fun τ_1 =>
        lp_X1_copyFrom_2 N b0 b1  n (v2 + 1) τ_1
        else none
        else none
set_option maxRecDepth 100000 in
set_option maxHeartbeats 4000000 in
theorem w_X1_copyFrom_2 {l : Launch} {D : va_G} {ca : Nat → ClassId} {ad : Nat → Nat} {p : Program} {e : Env} {s : State} {m : MethodId} {args : Array Value} {below : List Frame} {meth : Method} {c : Code} {A : Nat → Prop} (C : CX p s m args c D ca A RX1 cX1_copyFrom 3) (hr : meth.sig.returnType = none) (hlk : meth.locks = false) (N : Nat) (b0 : Nat) (hb0 : b0 < 2) (b1 : Nat) (hb1 : b1 < 2) (τ : St)  : ∀ (n : Nat) (v2 : Int32) (σ : St), lp_X1_copyFrom_2 N b0 b1  n v2 σ = some τ → WW p l e (rmk 1) s m args below meth c 0 0 (EQ D ca ad SH A below args s none τ) A D ca ad SH 2 [some (.ref (ad (2 + b0))), some (.ref (ad (2 + b1))), some (.int v2)] [] σ := by
  intro n
  induction n with
  | zero => intro v2 σ hf; cases hf
  | succ n ih =>
    intro v2 σ hf
    rw [lp_X1_copyFrom_2] at hf
    refine s_iloadn (pc := 2) C dX1_copyFrom_2 rfl ?_
    refine s_aloadn (pc := 3) C dX1_copyFrom_3 rfl ?_
    refine s_getR (pc := 4) (r := (11 + b0)) C fl_X1_23 (SH_plan hb0) rfl dX1_copyFrom_4 ?_
    refine s_alenI (pc := 7) (v := 6) C (SH_spots hb0) (ty2 ca) (by decide) dX1_copyFrom_7 ?_
    refine s_icmp_ge (pc := 8) (tgt := 41) C dX1_copyFrom_8 (by decide) (fun h_1 => ?_) (fun h_1 => ?_)
    · replace hf := ifp h_1 hf
      exact s_vret (pc := 41) C hr hlk dX1_copyFrom_41 rfl (rtv hf)
    · replace hf := ifn h_1 hf
      refine s_iloadn (pc := 11) C dX1_copyFrom_11 rfl ?_
      refine s_aloadn (pc := 12) C dX1_copyFrom_12 rfl ?_
      refine s_getR (pc := 13) (r := (11 + b1)) C fl_X1_23 (SH_plan hb1) rfl dX1_copyFrom_13 ?_
      refine s_alenI (pc := 16) (v := 6) C (SH_spots hb1) (ty2 ca) (by decide) dX1_copyFrom_16 ?_
      refine s_icmp_ge (pc := 17) (tgt := 41) C dX1_copyFrom_17 (by decide) (fun h_2 => ?_) (fun h_2 => ?_)
      · replace hf := ifp h_2 hf
        exact s_vret (pc := 41) C hr hlk dX1_copyFrom_41 rfl (rtv hf)
      · replace hf := ifn h_2 hf
        refine s_aloadn (pc := 20) C dX1_copyFrom_20 rfl ?_
        refine s_getR (pc := 21) (r := (11 + b0)) C fl_X1_23 (SH_plan hb0) rfl dX1_copyFrom_21 ?_
        refine s_iloadn (pc := 24) C dX1_copyFrom_24 rfl ?_
        obtain ⟨g_1, hf⟩ := gd hf
        refine s_aald (pc := 25) C (SH_spots hb0) (ty2 ca) g_1 dX1_copyFrom_25 ?_
        refine s_aloadn (pc := 26) C dX1_copyFrom_26 rfl ?_
        refine s_getR (pc := 27) (r := (11 + b1)) C fl_X1_23 (SH_plan hb1) rfl dX1_copyFrom_27 ?_
        refine s_iloadn (pc := 30) C dX1_copyFrom_30 rfl ?_
        obtain ⟨g_2, hf⟩ := gd hf
        refine s_aald (pc := 31) C (SH_spots hb1) (ty2 ca) g_2 dX1_copyFrom_31 ?_
        obtain ⟨τ_1, e_1, hf⟩ := bvd hf
        refine s_callV (pc := 32) (rest := []) C rfl (c_X2_copyFrom l D ca ad N (13 + 6 * b0 + ix v2) (SH_spot hb0 (inb_lt g_1)) (13 + 6 * b1 + ix v2) (SH_spot hb1 (inb_lt g_2)) σ τ_1 e_1) kv_X1_31 ⟨rfl, rfl⟩ (by decide) (SH_spot hb0 (inb_lt g_1)) ⟨_, rfl, rfl⟩ rfl rfl (Nat.le_of_ble_eq_true rfl) dX1_copyFrom_32 ⟨Nat.zero_le _, Nat.zero_le _⟩ ?_
        refine s_st (st' := []) rfl ?_
        refine s_iinc (pc := 35) (v := (v2 + 1)) (lo' := [some (.ref (ad (2 + b0))), some (.ref (ad (2 + b1))), some (.int (v2 + 1))]) C dX1_copyFrom_35 rfl rfl rfl ?_
        refine s_goto (pc := 38) (tgt := 2) C dX1_copyFrom_38 (by decide) ?_
        refine s_few (lo' := [some (.ref (ad (2 + b0))), some (.ref (ad (2 + b1))), some (.int (v2 + 1))]) (lfS (lfS (lfS lf0))) ?_
        exact ih (v2 + 1) τ_1 hf
def f_X1_copyFrom (N : Nat) (b0 : Nat) (b1 : Nat) (σ : St) : Option (St) :=
  lp_X1_copyFrom_2 N b0 b1 N 0 σ
set_option maxRecDepth 100000 in
set_option maxHeartbeats 4000000 in
theorem c_X1_copyFrom (l : Launch) (D : va_G) (ca : Nat → ClassId) (ad : Nat → Nat) (N : Nat) (b0 : Nat) (hb0 : b0 < 2) (b1 : Nat) (hb1 : b1 < 2) (σ : St) (τ : St) (hf : f_X1_copyFrom N b0 b1 σ = some τ) : cM l yX1_copyFrom (.code yX1_copyFrom cX1_copyFrom 3 none) (rmk 1) D ca ad SH [.ref (ad (2 + b0)), .ref (ad (2 + b1))] σ none τ := by
  refine cM.intro2 (own := RX1) (lo := [some (.ref (ad (2 + b0))), some (.ref (ad (2 + b1))), none]) (by decide) rfl (ccR (ccR cc0)) (Nat.le_of_ble_eq_true rfl) rfl ?_
  intro p e s m args below meth c A C hr hlk
  unfold f_X1_copyFrom at hf
  refine s_iconst (pc := 0) (v := 0) C dX1_copyFrom_0 (by decide) ?_
  refine s_istoren (pc := 1) (lo' := [some (.ref (ad (2 + b0))), some (.ref (ad (2 + b1))), some (.int 0)]) C dX1_copyFrom_1 (Nat.le_of_ble_eq_true rfl) rfl ?_
  refine s_few (lo' := [some (.ref (ad (2 + b0))), some (.ref (ad (2 + b1))), some (.int 0)]) (lfS (lfS (lfS lf0))) ?_
  exact w_X1_copyFrom_2 C hr hlk N b0 hb0 b1 hb1 τ  N 0 σ hf
def f_X1_boxVolume (N : Nat) (b0 : Nat) (σ : St) : Option (Int32 × St) :=
  some ((((σ (2 + b0) 0) * (σ (2 + b0) 1)) * (σ (2 + b0) 2)), σ)
set_option maxRecDepth 100000 in
set_option maxHeartbeats 4000000 in
theorem c_X1_boxVolume (l : Launch) (D : va_G) (ca : Nat → ClassId) (ad : Nat → Nat) (N : Nat) (b0 : Nat) (hb0 : b0 < 2) (σ : St) (r : Int32) (τ : St) (hf : f_X1_boxVolume N b0 σ = some (r, τ)) : cM l yX1_boxVolume (.code yX1_boxVolume cX1_boxVolume 1 (some .int)) (rmk 0) D ca ad SH [.ref (ad (2 + b0))] σ (some (.int r)) τ := by
  refine cM.intro2 (own := RX1) (lo := [some (.ref (ad (2 + b0)))]) (by decide) rfl (ccR cc0) (Nat.le_of_ble_eq_true rfl) rfl ?_
  intro p e s m args below meth c A C hr hlk
  unfold f_X1_boxVolume at hf
  refine s_aloadn (pc := 0) C dX1_boxVolume_0 rfl ?_
  refine s_getI (pc := 1) C fl_X1_9 (SH_plan hb0) rfl dX1_boxVolume_1 ?_
  refine s_aloadn (pc := 4) C dX1_boxVolume_4 rfl ?_
  refine s_getI (pc := 5) C fl_X1_15 (SH_plan hb0) rfl dX1_boxVolume_5 ?_
  refine s_imul (pc := 8) C dX1_boxVolume_8 ?_
  refine s_aloadn (pc := 9) C dX1_boxVolume_9 rfl ?_
  refine s_getI (pc := 10) C fl_X1_18 (SH_plan hb0) rfl dX1_boxVolume_10 ?_
  refine s_imul (pc := 13) C dX1_boxVolume_13 ?_
  exact s_iret (pc := 14) C hr hlk dX1_boxVolume_14 (congrArg (fun z => some (Value.int z)) (rt hf).1) (rt hf).2
def f_X1_takes (N : Nat) (b0 : Nat) (a1 : Int32) (a2 : Int32) (a3 : Int32) (σ : St) : Option (Int32 × St) :=
  if (σ (2 + b0) 0) < a1 then
    some (0, σ)
  else
    if (σ (2 + b0) 1) < a2 then
      some (0, σ)
    else
      if (σ (2 + b0) 2) < a3 then
        some (0, σ)
      else
        some (1, σ)
set_option maxRecDepth 100000 in
set_option maxHeartbeats 4000000 in
theorem c_X1_takes (l : Launch) (D : va_G) (ca : Nat → ClassId) (ad : Nat → Nat) (N : Nat) (b0 : Nat) (hb0 : b0 < 2) (a1 : Int32) (a2 : Int32) (a3 : Int32) (σ : St) (r : Int32) (τ : St) (hf : f_X1_takes N b0 a1 a2 a3 σ = some (r, τ)) : cM l yX1_takes (.code yX1_takes cX1_takes 4 (some .boolean)) (rmk 0) D ca ad SH [.ref (ad (2 + b0)), .int a1, .int a2, .int a3] σ (some (.int r)) τ := by
  refine cM.intro2 (own := RX1) (lo := [some (.ref (ad (2 + b0))), some (.int a1), some (.int a2), some (.int a3)]) (by decide) rfl (ccR (ccI (ccI (ccI cc0)))) (Nat.le_of_ble_eq_true rfl) rfl ?_
  intro p e s m args below meth c A C hr hlk
  unfold f_X1_takes at hf
  refine s_iloadn (pc := 0) C dX1_takes_0 rfl ?_
  refine s_aloadn (pc := 1) C dX1_takes_1 rfl ?_
  refine s_getI (pc := 2) C fl_X1_9 (SH_plan hb0) rfl dX1_takes_2 ?_
  refine s_icmp_gt (pc := 5) (tgt := 28) C dX1_takes_5 (by decide) (fun h_1 => ?_) (fun h_1 => ?_)
  · replace hf := ifp h_1 hf
    refine s_iconst (pc := 28) (v := 0) C dX1_takes_28 (by decide) ?_
    exact s_zret (pc := 29) C hr hlk dX1_takes_29 (by decide) (congrArg (fun z => some (Value.int z)) (rt hf).1) (rt hf).2
  · replace hf := ifn h_1 hf
    refine s_iloadn (pc := 8) C dX1_takes_8 rfl ?_
    refine s_aloadn (pc := 9) C dX1_takes_9 rfl ?_
    refine s_getI (pc := 10) C fl_X1_15 (SH_plan hb0) rfl dX1_takes_10 ?_
    refine s_icmp_gt (pc := 13) (tgt := 28) C dX1_takes_13 (by decide) (fun h_2 => ?_) (fun h_2 => ?_)
    · replace hf := ifp h_2 hf
      refine s_iconst (pc := 28) (v := 0) C dX1_takes_28 (by decide) ?_
      exact s_zret (pc := 29) C hr hlk dX1_takes_29 (by decide) (congrArg (fun z => some (Value.int z)) (rt hf).1) (rt hf).2
    · replace hf := ifn h_2 hf
      refine s_iloadn (pc := 16) C dX1_takes_16 rfl ?_
      refine s_aloadn (pc := 17) C dX1_takes_17 rfl ?_
      refine s_getI (pc := 18) C fl_X1_18 (SH_plan hb0) rfl dX1_takes_18 ?_
      refine s_icmp_gt (pc := 21) (tgt := 28) C dX1_takes_21 (by decide) (fun h_3 => ?_) (fun h_3 => ?_)
      · replace hf := ifp h_3 hf
        refine s_iconst (pc := 28) (v := 0) C dX1_takes_28 (by decide) ?_
        exact s_zret (pc := 29) C hr hlk dX1_takes_29 (by decide) (congrArg (fun z => some (Value.int z)) (rt hf).1) (rt hf).2
      · replace hf := ifn h_3 hf
        refine s_iconst (pc := 24) (v := 1) C dX1_takes_24 (by decide) ?_
        refine s_goto (pc := 25) (tgt := 29) C dX1_takes_25 (by decide) ?_
        exact s_zret (pc := 29) C hr hlk dX1_takes_29 (by decide) (congrArg (fun z => some (Value.int z)) (rt hf).1) (rt hf).2
def f_X1_hasCell (N : Nat) (b0 : Nat) (a1 : Int32) (a2 : Int32) (a3 : Int32) (σ : St) : Option (Int32 × St) :=
  if a1 < 0 then
    some (0, σ)
  else
    if (σ (2 + b0) 0) ≤ a1 then
      some (0, σ)
    else
      if a2 < 0 then
        some (0, σ)
      else
        if (σ (2 + b0) 1) ≤ a2 then
          some (0, σ)
        else
          if a3 < 0 then
            some (0, σ)
          else
            if (σ (2 + b0) 2) ≤ a3 then
              some (0, σ)
            else
              some (1, σ)
set_option maxRecDepth 100000 in
set_option maxHeartbeats 4000000 in
theorem c_X1_hasCell (l : Launch) (D : va_G) (ca : Nat → ClassId) (ad : Nat → Nat) (N : Nat) (b0 : Nat) (hb0 : b0 < 2) (a1 : Int32) (a2 : Int32) (a3 : Int32) (σ : St) (r : Int32) (τ : St) (hf : f_X1_hasCell N b0 a1 a2 a3 σ = some (r, τ)) : cM l yX1_hasCell (.code yX1_hasCell cX1_hasCell 4 (some .boolean)) (rmk 0) D ca ad SH [.ref (ad (2 + b0)), .int a1, .int a2, .int a3] σ (some (.int r)) τ := by
  refine cM.intro2 (own := RX1) (lo := [some (.ref (ad (2 + b0))), some (.int a1), some (.int a2), some (.int a3)]) (by decide) rfl (ccR (ccI (ccI (ccI cc0)))) (Nat.le_of_ble_eq_true rfl) rfl ?_
  intro p e s m args below meth c A C hr hlk
  unfold f_X1_hasCell at hf
  refine s_iloadn (pc := 0) C dX1_hasCell_0 rfl ?_
  refine s_if_lt (pc := 1) (tgt := 40) C dX1_hasCell_1 (by decide) (fun h_1 => ?_) (fun h_1 => ?_)
  · replace hf := ifp h_1 hf
    refine s_iconst (pc := 40) (v := 0) C dX1_hasCell_40 (by decide) ?_
    exact s_zret (pc := 41) C hr hlk dX1_hasCell_41 (by decide) (congrArg (fun z => some (Value.int z)) (rt hf).1) (rt hf).2
  · replace hf := ifn h_1 hf
    refine s_iloadn (pc := 4) C dX1_hasCell_4 rfl ?_
    refine s_aloadn (pc := 5) C dX1_hasCell_5 rfl ?_
    refine s_getI (pc := 6) C fl_X1_9 (SH_plan hb0) rfl dX1_hasCell_6 ?_
    refine s_icmp_ge (pc := 9) (tgt := 40) C dX1_hasCell_9 (by decide) (fun h_2 => ?_) (fun h_2 => ?_)
    · replace hf := ifp h_2 hf
      refine s_iconst (pc := 40) (v := 0) C dX1_hasCell_40 (by decide) ?_
      exact s_zret (pc := 41) C hr hlk dX1_hasCell_41 (by decide) (congrArg (fun z => some (Value.int z)) (rt hf).1) (rt hf).2
    · replace hf := ifn h_2 hf
      refine s_iloadn (pc := 12) C dX1_hasCell_12 rfl ?_
      refine s_if_lt (pc := 13) (tgt := 40) C dX1_hasCell_13 (by decide) (fun h_3 => ?_) (fun h_3 => ?_)
      · replace hf := ifp h_3 hf
        refine s_iconst (pc := 40) (v := 0) C dX1_hasCell_40 (by decide) ?_
        exact s_zret (pc := 41) C hr hlk dX1_hasCell_41 (by decide) (congrArg (fun z => some (Value.int z)) (rt hf).1) (rt hf).2
      · replace hf := ifn h_3 hf
        refine s_iloadn (pc := 16) C dX1_hasCell_16 rfl ?_
        refine s_aloadn (pc := 17) C dX1_hasCell_17 rfl ?_
        refine s_getI (pc := 18) C fl_X1_15 (SH_plan hb0) rfl dX1_hasCell_18 ?_
        refine s_icmp_ge (pc := 21) (tgt := 40) C dX1_hasCell_21 (by decide) (fun h_4 => ?_) (fun h_4 => ?_)
        · replace hf := ifp h_4 hf
          refine s_iconst (pc := 40) (v := 0) C dX1_hasCell_40 (by decide) ?_
          exact s_zret (pc := 41) C hr hlk dX1_hasCell_41 (by decide) (congrArg (fun z => some (Value.int z)) (rt hf).1) (rt hf).2
        · replace hf := ifn h_4 hf
          refine s_iloadn (pc := 24) C dX1_hasCell_24 rfl ?_
          refine s_if_lt (pc := 25) (tgt := 40) C dX1_hasCell_25 (by decide) (fun h_5 => ?_) (fun h_5 => ?_)
          · replace hf := ifp h_5 hf
            refine s_iconst (pc := 40) (v := 0) C dX1_hasCell_40 (by decide) ?_
            exact s_zret (pc := 41) C hr hlk dX1_hasCell_41 (by decide) (congrArg (fun z => some (Value.int z)) (rt hf).1) (rt hf).2
          · replace hf := ifn h_5 hf
            refine s_iloadn (pc := 28) C dX1_hasCell_28 rfl ?_
            refine s_aloadn (pc := 29) C dX1_hasCell_29 rfl ?_
            refine s_getI (pc := 30) C fl_X1_18 (SH_plan hb0) rfl dX1_hasCell_30 ?_
            refine s_icmp_ge (pc := 33) (tgt := 40) C dX1_hasCell_33 (by decide) (fun h_6 => ?_) (fun h_6 => ?_)
            · replace hf := ifp h_6 hf
              refine s_iconst (pc := 40) (v := 0) C dX1_hasCell_40 (by decide) ?_
              exact s_zret (pc := 41) C hr hlk dX1_hasCell_41 (by decide) (congrArg (fun z => some (Value.int z)) (rt hf).1) (rt hf).2
            · replace hf := ifn h_6 hf
              refine s_iconst (pc := 36) (v := 1) C dX1_hasCell_36 (by decide) ?_
              refine s_goto (pc := 37) (tgt := 41) C dX1_hasCell_37 (by decide) ?_
              exact s_zret (pc := 41) C hr hlk dX1_hasCell_41 (by decide) (congrArg (fun z => some (Value.int z)) (rt hf).1) (rt hf).2
def lp_X1_pieceIn_3 (N : Nat) (b0 : Nat) (a1 : Int32) (a2 : Int32) (a3 : Int32) : Nat → Int32 → Int32 → Int32 → Int32 → St → Option (Int32 × St)
  | 0, _, _, _, _, _ => none
  | n + 1, v1, v2, v3, v4, σ =>
    if 6 ≤ v4 then
      some ((-1), σ)
    else
      if inb v4 6 = true then
      if (σ (13 + 6 * b0 + ix v4) 0 &&& 1) = 0 then
        lp_X1_pieceIn_3 N b0 a1 a2 a3  n v1 v2 v3 (v4 + 1) σ
      else
        if inb v4 6 = true then
        bn (f_X2_covers N (13 + 6 * b0 + ix v4) v1 v2 v3 σ) fun r_1 τ_1 =>
        if r_1 = 0 then
          lp_X1_pieceIn_3 N b0 a1 a2 a3  n v1 v2 v3 (v4 + 1) τ_1
        else
          some (v4, τ_1)
        else none
      else none
set_option maxRecDepth 100000 in
set_option maxHeartbeats 4000000 in
theorem w_X1_pieceIn_3 {l : Launch} {D : va_G} {ca : Nat → ClassId} {ad : Nat → Nat} {p : Program} {e : Env} {s : State} {m : MethodId} {args : Array Value} {below : List Frame} {meth : Method} {c : Code} {A : Nat → Prop} (C : CX p s m args c D ca A RX1 cX1_pieceIn 5) (hr : meth.sig.returnType = (some .int)) (hlk : meth.locks = false) (N : Nat) (b0 : Nat) (hb0 : b0 < 2) (a1 : Int32) (a2 : Int32) (a3 : Int32) (r : Int32) (τ : St)  : ∀ (n : Nat) (v1 v2 v3 v4 : Int32) (σ : St), lp_X1_pieceIn_3 N b0 a1 a2 a3  n v1 v2 v3 v4 σ = some (r, τ) → WW p l e (rmk 1) s m args below meth c 0 0 (EQ D ca ad SH A below args s (some (.int r)) τ) A D ca ad SH 3 [some (.ref (ad (2 + b0))), some (.int v1), some (.int v2), some (.int v3), some (.int v4)] [] σ := by
  intro n
  induction n with
  | zero => intro v1 v2 v3 v4 σ hf; cases hf
  | succ n ih =>
    intro v1 v2 v3 v4 σ hf
    rw [lp_X1_pieceIn_3] at hf
    refine s_iload (pc := 3) C dX1_pieceIn_3 rfl ?_
    refine s_aloadn (pc := 5) C dX1_pieceIn_5 rfl ?_
    refine s_getR (pc := 6) (r := (11 + b0)) C fl_X1_23 (SH_plan hb0) rfl dX1_pieceIn_6 ?_
    refine s_alenI (pc := 9) (v := 6) C (SH_spots hb0) (ty2 ca) (by decide) dX1_pieceIn_9 ?_
    refine s_icmp_ge (pc := 10) (tgt := 51) C dX1_pieceIn_10 (by decide) (fun h_1 => ?_) (fun h_1 => ?_)
    · replace hf := ifp h_1 hf
      refine s_iconst (pc := 51) (v := (-1)) C dX1_pieceIn_51 (by decide) ?_
      exact s_iret (pc := 52) C hr hlk dX1_pieceIn_52 (congrArg (fun z => some (Value.int z)) (rt hf).1) (rt hf).2
    · replace hf := ifn h_1 hf
      refine s_aloadn (pc := 13) C dX1_pieceIn_13 rfl ?_
      refine s_getR (pc := 14) (r := (11 + b0)) C fl_X1_23 (SH_plan hb0) rfl dX1_pieceIn_14 ?_
      refine s_iload (pc := 17) C dX1_pieceIn_17 rfl ?_
      obtain ⟨g_1, hf⟩ := gd hf
      refine s_aald (pc := 19) C (SH_spots hb0) (ty2 ca) g_1 dX1_pieceIn_19 ?_
      refine s_getZ (pc := 20) C fl_X1_35 (SH_spot hb0 (inb_lt g_1)) rfl dX1_pieceIn_20 ?_
      refine s_if_eq (pc := 23) (tgt := 45) C dX1_pieceIn_23 (by decide) (fun h_2 => ?_) (fun h_2 => ?_)
      · replace hf := ifp h_2 hf
        refine s_iinc (pc := 45) (v := (v4 + 1)) (lo' := [some (.ref (ad (2 + b0))), some (.int v1), some (.int v2), some (.int v3), some (.int (v4 + 1))]) C dX1_pieceIn_45 rfl rfl rfl ?_
        refine s_goto (pc := 48) (tgt := 3) C dX1_pieceIn_48 (by decide) ?_
        refine s_few (lo' := [some (.ref (ad (2 + b0))), some (.int v1), some (.int v2), some (.int v3), some (.int (v4 + 1))]) (lfS (lfS (lfS (lfS (lfS lf0))))) ?_
        exact ih v1 v2 v3 (v4 + 1) σ hf
      · replace hf := ifn h_2 hf
        refine s_aloadn (pc := 26) C dX1_pieceIn_26 rfl ?_
        refine s_getR (pc := 27) (r := (11 + b0)) C fl_X1_23 (SH_plan hb0) rfl dX1_pieceIn_27 ?_
        refine s_iload (pc := 30) C dX1_pieceIn_30 rfl ?_
        obtain ⟨g_2, hf⟩ := gd hf
        refine s_aald (pc := 32) C (SH_spots hb0) (ty2 ca) g_2 dX1_pieceIn_32 ?_
        refine s_iloadn (pc := 33) C dX1_pieceIn_33 rfl ?_
        refine s_iloadn (pc := 34) C dX1_pieceIn_34 rfl ?_
        refine s_iloadn (pc := 35) C dX1_pieceIn_35 rfl ?_
        obtain ⟨r_1, τ_1, e_1, hf⟩ := bnd hf
        refine s_callV (pc := 36) (rest := []) C rfl (c_X2_covers l D ca ad N (13 + 6 * b0 + ix v4) (SH_spot hb0 (inb_lt g_2)) v1 v2 v3 σ r_1 τ_1 e_1) kv_X1_39 ⟨rfl, rfl⟩ (by decide) (SH_spot hb0 (inb_lt g_2)) ⟨_, rfl, rfl⟩ rfl rfl (Nat.le_of_ble_eq_true rfl) dX1_pieceIn_36 ⟨Nat.zero_le _, Nat.zero_le _⟩ ?_
        refine s_st (st' := [.int r_1]) rfl ?_
        refine s_if_eq (pc := 39) (tgt := 45) C dX1_pieceIn_39 (by decide) (fun h_3 => ?_) (fun h_3 => ?_)
        · replace hf := ifp h_3 hf
          refine s_iinc (pc := 45) (v := (v4 + 1)) (lo' := [some (.ref (ad (2 + b0))), some (.int v1), some (.int v2), some (.int v3), some (.int (v4 + 1))]) C dX1_pieceIn_45 rfl rfl rfl ?_
          refine s_goto (pc := 48) (tgt := 3) C dX1_pieceIn_48 (by decide) ?_
          refine s_few (lo' := [some (.ref (ad (2 + b0))), some (.int v1), some (.int v2), some (.int v3), some (.int (v4 + 1))]) (lfS (lfS (lfS (lfS (lfS lf0))))) ?_
          exact ih v1 v2 v3 (v4 + 1) τ_1 hf
        · replace hf := ifn h_3 hf
          refine s_iload (pc := 42) C dX1_pieceIn_42 rfl ?_
          exact s_iret (pc := 44) C hr hlk dX1_pieceIn_44 (congrArg (fun z => some (Value.int z)) (rt hf).1) (rt hf).2
def f_X1_pieceIn (N : Nat) (b0 : Nat) (a1 : Int32) (a2 : Int32) (a3 : Int32) (σ : St) : Option (Int32 × St) :=
  lp_X1_pieceIn_3 N b0 a1 a2 a3 N a1 a2 a3 0 σ
set_option maxRecDepth 100000 in
set_option maxHeartbeats 4000000 in
theorem c_X1_pieceIn (l : Launch) (D : va_G) (ca : Nat → ClassId) (ad : Nat → Nat) (N : Nat) (b0 : Nat) (hb0 : b0 < 2) (a1 : Int32) (a2 : Int32) (a3 : Int32) (σ : St) (r : Int32) (τ : St) (hf : f_X1_pieceIn N b0 a1 a2 a3 σ = some (r, τ)) : cM l yX1_pieceIn (.code yX1_pieceIn cX1_pieceIn 5 (some .int)) (rmk 1) D ca ad SH [.ref (ad (2 + b0)), .int a1, .int a2, .int a3] σ (some (.int r)) τ := by
  refine cM.intro2 (own := RX1) (lo := [some (.ref (ad (2 + b0))), some (.int a1), some (.int a2), some (.int a3), none]) (by decide) rfl (ccR (ccI (ccI (ccI cc0)))) (Nat.le_of_ble_eq_true rfl) rfl ?_
  intro p e s m args below meth c A C hr hlk
  unfold f_X1_pieceIn at hf
  refine s_iconst (pc := 0) (v := 0) C dX1_pieceIn_0 (by decide) ?_
  refine s_istore (pc := 1) (lo' := [some (.ref (ad (2 + b0))), some (.int a1), some (.int a2), some (.int a3), some (.int 0)]) C dX1_pieceIn_1 (Nat.le_of_ble_eq_true rfl) rfl ?_
  refine s_few (lo' := [some (.ref (ad (2 + b0))), some (.int a1), some (.int a2), some (.int a3), some (.int 0)]) (lfS (lfS (lfS (lfS (lfS lf0))))) ?_
  exact w_X1_pieceIn_3 C hr hlk N b0 hb0 a1 a2 a3 r τ  N a1 a2 a3 0 σ hf
def lp_X1_size_4 (N : Nat) (b0 : Nat) : Nat → Int32 → Int32 → St → Option (Int32 × St)
  | 0, _, _, _ => none
  | n + 1, v1, v2, σ =>
    if 6 ≤ v2 then
      some (v1, σ)
    else
      if inb v2 6 = true then
      if (σ (13 + 6 * b0 + ix v2) 0 &&& 1) = 0 then
        lp_X1_size_4 N b0  n v1 (v2 + 1) σ
      else
        lp_X1_size_4 N b0  n (v1 + 1) (v2 + 1) σ
      else none
set_option maxRecDepth 100000 in
set_option maxHeartbeats 4000000 in
theorem w_X1_size_4 {l : Launch} {D : va_G} {ca : Nat → ClassId} {ad : Nat → Nat} {p : Program} {e : Env} {s : State} {m : MethodId} {args : Array Value} {below : List Frame} {meth : Method} {c : Code} {A : Nat → Prop} (C : CX p s m args c D ca A RX1 cX1_size 3) (hr : meth.sig.returnType = (some .int)) (hlk : meth.locks = false) (N : Nat) (b0 : Nat) (hb0 : b0 < 2) (r : Int32) (τ : St)  : ∀ (n : Nat) (v1 v2 : Int32) (σ : St), lp_X1_size_4 N b0  n v1 v2 σ = some (r, τ) → WW p l e (rmk 0) s m args below meth c 0 0 (EQ D ca ad SH A below args s (some (.int r)) τ) A D ca ad SH 4 [some (.ref (ad (2 + b0))), some (.int v1), some (.int v2)] [] σ := by
  intro n
  induction n with
  | zero => intro v1 v2 σ hf; cases hf
  | succ n ih =>
    intro v1 v2 σ hf
    rw [lp_X1_size_4] at hf
    refine s_iloadn (pc := 4) C dX1_size_4 rfl ?_
    refine s_aloadn (pc := 5) C dX1_size_5 rfl ?_
    refine s_getR (pc := 6) (r := (11 + b0)) C fl_X1_23 (SH_plan hb0) rfl dX1_size_6 ?_
    refine s_alenI (pc := 9) (v := 6) C (SH_spots hb0) (ty2 ca) (by decide) dX1_size_9 ?_
    refine s_icmp_ge (pc := 10) (tgt := 34) C dX1_size_10 (by decide) (fun h_1 => ?_) (fun h_1 => ?_)
    · replace hf := ifp h_1 hf
      refine s_iloadn (pc := 34) C dX1_size_34 rfl ?_
      exact s_iret (pc := 35) C hr hlk dX1_size_35 (congrArg (fun z => some (Value.int z)) (rt hf).1) (rt hf).2
    · replace hf := ifn h_1 hf
      refine s_aloadn (pc := 13) C dX1_size_13 rfl ?_
      refine s_getR (pc := 14) (r := (11 + b0)) C fl_X1_23 (SH_plan hb0) rfl dX1_size_14 ?_
      refine s_iloadn (pc := 17) C dX1_size_17 rfl ?_
      obtain ⟨g_1, hf⟩ := gd hf
      refine s_aald (pc := 18) C (SH_spots hb0) (ty2 ca) g_1 dX1_size_18 ?_
      refine s_getZ (pc := 19) C fl_X1_35 (SH_spot hb0 (inb_lt g_1)) rfl dX1_size_19 ?_
      refine s_if_eq (pc := 22) (tgt := 28) C dX1_size_22 (by decide) (fun h_2 => ?_) (fun h_2 => ?_)
      · replace hf := ifp h_2 hf
        refine s_iinc (pc := 28) (v := (v2 + 1)) (lo' := [some (.ref (ad (2 + b0))), some (.int v1), some (.int (v2 + 1))]) C dX1_size_28 rfl rfl rfl ?_
        refine s_goto (pc := 31) (tgt := 4) C dX1_size_31 (by decide) ?_
        refine s_few (lo' := [some (.ref (ad (2 + b0))), some (.int v1), some (.int (v2 + 1))]) (lfS (lfS (lfS lf0))) ?_
        exact ih v1 (v2 + 1) σ hf
      · replace hf := ifn h_2 hf
        refine s_iinc (pc := 25) (v := (v1 + 1)) (lo' := [some (.ref (ad (2 + b0))), some (.int (v1 + 1)), some (.int v2)]) C dX1_size_25 rfl rfl rfl ?_
        refine s_iinc (pc := 28) (v := (v2 + 1)) (lo' := [some (.ref (ad (2 + b0))), some (.int (v1 + 1)), some (.int (v2 + 1))]) C dX1_size_28 rfl rfl rfl ?_
        refine s_goto (pc := 31) (tgt := 4) C dX1_size_31 (by decide) ?_
        refine s_few (lo' := [some (.ref (ad (2 + b0))), some (.int (v1 + 1)), some (.int (v2 + 1))]) (lfS (lfS (lfS lf0))) ?_
        exact ih (v1 + 1) (v2 + 1) σ hf
def f_X1_size (N : Nat) (b0 : Nat) (σ : St) : Option (Int32 × St) :=
  lp_X1_size_4 N b0 N 0 0 σ
set_option maxRecDepth 100000 in
set_option maxHeartbeats 4000000 in
theorem c_X1_size (l : Launch) (D : va_G) (ca : Nat → ClassId) (ad : Nat → Nat) (N : Nat) (b0 : Nat) (hb0 : b0 < 2) (σ : St) (r : Int32) (τ : St) (hf : f_X1_size N b0 σ = some (r, τ)) : cM l yX1_size (.code yX1_size cX1_size 3 (some .int)) (rmk 0) D ca ad SH [.ref (ad (2 + b0))] σ (some (.int r)) τ := by
  refine cM.intro2 (own := RX1) (lo := [some (.ref (ad (2 + b0))), none, none]) (by decide) rfl (ccR cc0) (Nat.le_of_ble_eq_true rfl) rfl ?_
  intro p e s m args below meth c A C hr hlk
  unfold f_X1_size at hf
  refine s_iconst (pc := 0) (v := 0) C dX1_size_0 (by decide) ?_
  refine s_istoren (pc := 1) (lo' := [some (.ref (ad (2 + b0))), some (.int 0), none]) C dX1_size_1 (Nat.le_of_ble_eq_true rfl) rfl ?_
  refine s_iconst (pc := 2) (v := 0) C dX1_size_2 (by decide) ?_
  refine s_istoren (pc := 3) (lo' := [some (.ref (ad (2 + b0))), some (.int 0), some (.int 0)]) C dX1_size_3 (Nat.le_of_ble_eq_true rfl) rfl ?_
  refine s_few (lo' := [some (.ref (ad (2 + b0))), some (.int 0), some (.int 0)]) (lfS (lfS (lfS lf0))) ?_
  exact w_X1_size_4 C hr hlk N b0 hb0 r τ  N 0 0 σ hf
def lp_X1_volume_4 (N : Nat) (b0 : Nat) : Nat → Int32 → Int32 → St → Option (Int32 × St)
  | 0, _, _, _ => none
  | n + 1, v1, v2, σ =>
    if 6 ≤ v2 then
      some (v1, σ)
    else
      if inb v2 6 = true then
      bn (f_X2_volume N (13 + 6 * b0 + ix v2) σ) fun r_1 τ_1 =>
      lp_X1_volume_4 N b0  n (v1 + r_1) (v2 + 1) τ_1
      else none
set_option maxRecDepth 100000 in
set_option maxHeartbeats 4000000 in
theorem w_X1_volume_4 {l : Launch} {D : va_G} {ca : Nat → ClassId} {ad : Nat → Nat} {p : Program} {e : Env} {s : State} {m : MethodId} {args : Array Value} {below : List Frame} {meth : Method} {c : Code} {A : Nat → Prop} (C : CX p s m args c D ca A RX1 cX1_volume 3) (hr : meth.sig.returnType = (some .int)) (hlk : meth.locks = false) (N : Nat) (b0 : Nat) (hb0 : b0 < 2) (r : Int32) (τ : St)  : ∀ (n : Nat) (v1 v2 : Int32) (σ : St), lp_X1_volume_4 N b0  n v1 v2 σ = some (r, τ) → WW p l e (rmk 2) s m args below meth c 0 0 (EQ D ca ad SH A below args s (some (.int r)) τ) A D ca ad SH 4 [some (.ref (ad (2 + b0))), some (.int v1), some (.int v2)] [] σ := by
  intro n
  induction n with
  | zero => intro v1 v2 σ hf; cases hf
  | succ n ih =>
    intro v1 v2 σ hf
    rw [lp_X1_volume_4] at hf
    refine s_iloadn (pc := 4) C dX1_volume_4 rfl ?_
    refine s_aloadn (pc := 5) C dX1_volume_5 rfl ?_
    refine s_getR (pc := 6) (r := (11 + b0)) C fl_X1_23 (SH_plan hb0) rfl dX1_volume_6 ?_
    refine s_alenI (pc := 9) (v := 6) C (SH_spots hb0) (ty2 ca) (by decide) dX1_volume_9 ?_
    refine s_icmp_ge (pc := 10) (tgt := 31) C dX1_volume_10 (by decide) (fun h_1 => ?_) (fun h_1 => ?_)
    · replace hf := ifp h_1 hf
      refine s_iloadn (pc := 31) C dX1_volume_31 rfl ?_
      exact s_iret (pc := 32) C hr hlk dX1_volume_32 (congrArg (fun z => some (Value.int z)) (rt hf).1) (rt hf).2
    · replace hf := ifn h_1 hf
      refine s_iloadn (pc := 13) C dX1_volume_13 rfl ?_
      refine s_aloadn (pc := 14) C dX1_volume_14 rfl ?_
      refine s_getR (pc := 15) (r := (11 + b0)) C fl_X1_23 (SH_plan hb0) rfl dX1_volume_15 ?_
      refine s_iloadn (pc := 18) C dX1_volume_18 rfl ?_
      obtain ⟨g_1, hf⟩ := gd hf
      refine s_aald (pc := 19) C (SH_spots hb0) (ty2 ca) g_1 dX1_volume_19 ?_
      obtain ⟨r_1, τ_1, e_1, hf⟩ := bnd hf
      refine s_callV (pc := 20) (rest := [.int v1]) C rfl (c_X2_volume l D ca ad N (13 + 6 * b0 + ix v2) (SH_spot hb0 (inb_lt g_1)) σ r_1 τ_1 e_1) kv_X1_43 ⟨rfl, rfl⟩ (by decide) (SH_spot hb0 (inb_lt g_1)) ⟨_, rfl, rfl⟩ rfl rfl (Nat.le_of_ble_eq_true rfl) dX1_volume_20 ⟨Nat.zero_le _, Nat.zero_le _⟩ ?_
      refine s_st (st' := [.int r_1, .int v1]) rfl ?_
      refine s_iadd (pc := 23) C dX1_volume_23 ?_
      refine s_istoren (pc := 24) (lo' := [some (.ref (ad (2 + b0))), some (.int (v1 + r_1)), some (.int v2)]) C dX1_volume_24 (Nat.le_of_ble_eq_true rfl) rfl ?_
      refine s_iinc (pc := 25) (v := (v2 + 1)) (lo' := [some (.ref (ad (2 + b0))), some (.int (v1 + r_1)), some (.int (v2 + 1))]) C dX1_volume_25 rfl rfl rfl ?_
      refine s_goto (pc := 28) (tgt := 4) C dX1_volume_28 (by decide) ?_
      refine s_few (lo' := [some (.ref (ad (2 + b0))), some (.int (v1 + r_1)), some (.int (v2 + 1))]) (lfS (lfS (lfS lf0))) ?_
      exact ih (v1 + r_1) (v2 + 1) τ_1 hf
def f_X1_volume (N : Nat) (b0 : Nat) (σ : St) : Option (Int32 × St) :=
  lp_X1_volume_4 N b0 N 0 0 σ
set_option maxRecDepth 100000 in
set_option maxHeartbeats 4000000 in
theorem c_X1_volume (l : Launch) (D : va_G) (ca : Nat → ClassId) (ad : Nat → Nat) (N : Nat) (b0 : Nat) (hb0 : b0 < 2) (σ : St) (r : Int32) (τ : St) (hf : f_X1_volume N b0 σ = some (r, τ)) : cM l yX1_volume (.code yX1_volume cX1_volume 3 (some .int)) (rmk 2) D ca ad SH [.ref (ad (2 + b0))] σ (some (.int r)) τ := by
  refine cM.intro2 (own := RX1) (lo := [some (.ref (ad (2 + b0))), none, none]) (by decide) rfl (ccR cc0) (Nat.le_of_ble_eq_true rfl) rfl ?_
  intro p e s m args below meth c A C hr hlk
  unfold f_X1_volume at hf
  refine s_iconst (pc := 0) (v := 0) C dX1_volume_0 (by decide) ?_
  refine s_istoren (pc := 1) (lo' := [some (.ref (ad (2 + b0))), some (.int 0), none]) C dX1_volume_1 (Nat.le_of_ble_eq_true rfl) rfl ?_
  refine s_iconst (pc := 2) (v := 0) C dX1_volume_2 (by decide) ?_
  refine s_istoren (pc := 3) (lo' := [some (.ref (ad (2 + b0))), some (.int 0), some (.int 0)]) C dX1_volume_3 (Nat.le_of_ble_eq_true rfl) rfl ?_
  refine s_few (lo' := [some (.ref (ad (2 + b0))), some (.int 0), some (.int 0)]) (lfS (lfS (lfS lf0))) ?_
  exact w_X1_volume_4 C hr hlk N b0 hb0 r τ  N 0 0 σ hf
def lp_X1_weight_4 (N : Nat) (b0 : Nat) : Nat → Int32 → Int32 → St → Option (Int32 × St)
  | 0, _, _, _ => none
  | n + 1, v1, v2, σ =>
    if 6 ≤ v2 then
      some (v1, σ)
    else
      if inb v2 6 = true then
      if (σ (13 + 6 * b0 + ix v2) 0 &&& 1) = 0 then
        lp_X1_weight_4 N b0  n v1 (v2 + 1) σ
      else
        if inb v2 6 = true then
        lp_X1_weight_4 N b0  n (v1 + (σ (13 + 6 * b0 + ix v2) 8)) (v2 + 1) σ
        else none
      else none
set_option maxRecDepth 100000 in
set_option maxHeartbeats 4000000 in
theorem w_X1_weight_4 {l : Launch} {D : va_G} {ca : Nat → ClassId} {ad : Nat → Nat} {p : Program} {e : Env} {s : State} {m : MethodId} {args : Array Value} {below : List Frame} {meth : Method} {c : Code} {A : Nat → Prop} (C : CX p s m args c D ca A RX1 cX1_weight 3) (hr : meth.sig.returnType = (some .int)) (hlk : meth.locks = false) (N : Nat) (b0 : Nat) (hb0 : b0 < 2) (r : Int32) (τ : St)  : ∀ (n : Nat) (v1 v2 : Int32) (σ : St), lp_X1_weight_4 N b0  n v1 v2 σ = some (r, τ) → WW p l e (rmk 0) s m args below meth c 0 0 (EQ D ca ad SH A below args s (some (.int r)) τ) A D ca ad SH 4 [some (.ref (ad (2 + b0))), some (.int v1), some (.int v2)] [] σ := by
  intro n
  induction n with
  | zero => intro v1 v2 σ hf; cases hf
  | succ n ih =>
    intro v1 v2 σ hf
    rw [lp_X1_weight_4] at hf
    refine s_iloadn (pc := 4) C dX1_weight_4 rfl ?_
    refine s_aloadn (pc := 5) C dX1_weight_5 rfl ?_
    refine s_getR (pc := 6) (r := (11 + b0)) C fl_X1_23 (SH_plan hb0) rfl dX1_weight_6 ?_
    refine s_alenI (pc := 9) (v := 6) C (SH_spots hb0) (ty2 ca) (by decide) dX1_weight_9 ?_
    refine s_icmp_ge (pc := 10) (tgt := 43) C dX1_weight_10 (by decide) (fun h_1 => ?_) (fun h_1 => ?_)
    · replace hf := ifp h_1 hf
      refine s_iloadn (pc := 43) C dX1_weight_43 rfl ?_
      exact s_iret (pc := 44) C hr hlk dX1_weight_44 (congrArg (fun z => some (Value.int z)) (rt hf).1) (rt hf).2
    · replace hf := ifn h_1 hf
      refine s_aloadn (pc := 13) C dX1_weight_13 rfl ?_
      refine s_getR (pc := 14) (r := (11 + b0)) C fl_X1_23 (SH_plan hb0) rfl dX1_weight_14 ?_
      refine s_iloadn (pc := 17) C dX1_weight_17 rfl ?_
      obtain ⟨g_1, hf⟩ := gd hf
      refine s_aald (pc := 18) C (SH_spots hb0) (ty2 ca) g_1 dX1_weight_18 ?_
      refine s_getZ (pc := 19) C fl_X1_35 (SH_spot hb0 (inb_lt g_1)) rfl dX1_weight_19 ?_
      refine s_if_eq (pc := 22) (tgt := 37) C dX1_weight_22 (by decide) (fun h_2 => ?_) (fun h_2 => ?_)
      · replace hf := ifp h_2 hf
        refine s_iinc (pc := 37) (v := (v2 + 1)) (lo' := [some (.ref (ad (2 + b0))), some (.int v1), some (.int (v2 + 1))]) C dX1_weight_37 rfl rfl rfl ?_
        refine s_goto (pc := 40) (tgt := 4) C dX1_weight_40 (by decide) ?_
        refine s_few (lo' := [some (.ref (ad (2 + b0))), some (.int v1), some (.int (v2 + 1))]) (lfS (lfS (lfS lf0))) ?_
        exact ih v1 (v2 + 1) σ hf
      · replace hf := ifn h_2 hf
        refine s_iloadn (pc := 25) C dX1_weight_25 rfl ?_
        refine s_aloadn (pc := 26) C dX1_weight_26 rfl ?_
        refine s_getR (pc := 27) (r := (11 + b0)) C fl_X1_23 (SH_plan hb0) rfl dX1_weight_27 ?_
        refine s_iloadn (pc := 30) C dX1_weight_30 rfl ?_
        obtain ⟨g_2, hf⟩ := gd hf
        refine s_aald (pc := 31) C (SH_spots hb0) (ty2 ca) g_2 dX1_weight_31 ?_
        refine s_getI (pc := 32) C fl_X1_47 (SH_spot hb0 (inb_lt g_2)) rfl dX1_weight_32 ?_
        refine s_iadd (pc := 35) C dX1_weight_35 ?_
        refine s_istoren (pc := 36) (lo' := [some (.ref (ad (2 + b0))), some (.int (v1 + (σ (13 + 6 * b0 + ix v2) 8))), some (.int v2)]) C dX1_weight_36 (Nat.le_of_ble_eq_true rfl) rfl ?_
        refine s_iinc (pc := 37) (v := (v2 + 1)) (lo' := [some (.ref (ad (2 + b0))), some (.int (v1 + (σ (13 + 6 * b0 + ix v2) 8))), some (.int (v2 + 1))]) C dX1_weight_37 rfl rfl rfl ?_
        refine s_goto (pc := 40) (tgt := 4) C dX1_weight_40 (by decide) ?_
        refine s_few (lo' := [some (.ref (ad (2 + b0))), some (.int (v1 + (σ (13 + 6 * b0 + ix v2) 8))), some (.int (v2 + 1))]) (lfS (lfS (lfS lf0))) ?_
        exact ih (v1 + (σ (13 + 6 * b0 + ix v2) 8)) (v2 + 1) σ hf
def f_X1_weight (N : Nat) (b0 : Nat) (σ : St) : Option (Int32 × St) :=
  lp_X1_weight_4 N b0 N 0 0 σ
set_option maxRecDepth 100000 in
set_option maxHeartbeats 4000000 in
theorem c_X1_weight (l : Launch) (D : va_G) (ca : Nat → ClassId) (ad : Nat → Nat) (N : Nat) (b0 : Nat) (hb0 : b0 < 2) (σ : St) (r : Int32) (τ : St) (hf : f_X1_weight N b0 σ = some (r, τ)) : cM l yX1_weight (.code yX1_weight cX1_weight 3 (some .int)) (rmk 0) D ca ad SH [.ref (ad (2 + b0))] σ (some (.int r)) τ := by
  refine cM.intro2 (own := RX1) (lo := [some (.ref (ad (2 + b0))), none, none]) (by decide) rfl (ccR cc0) (Nat.le_of_ble_eq_true rfl) rfl ?_
  intro p e s m args below meth c A C hr hlk
  unfold f_X1_weight at hf
  refine s_iconst (pc := 0) (v := 0) C dX1_weight_0 (by decide) ?_
  refine s_istoren (pc := 1) (lo' := [some (.ref (ad (2 + b0))), some (.int 0), none]) C dX1_weight_1 (Nat.le_of_ble_eq_true rfl) rfl ?_
  refine s_iconst (pc := 2) (v := 0) C dX1_weight_2 (by decide) ?_
  refine s_istoren (pc := 3) (lo' := [some (.ref (ad (2 + b0))), some (.int 0), some (.int 0)]) C dX1_weight_3 (Nat.le_of_ble_eq_true rfl) rfl ?_
  refine s_few (lo' := [some (.ref (ad (2 + b0))), some (.int 0), some (.int 0)]) (lfS (lfS (lfS lf0))) ?_
  exact w_X1_weight_4 C hr hlk N b0 hb0 r τ  N 0 0 σ hf
def lp_X1_top_4 (N : Nat) (b0 : Nat) : Nat → Int32 → Int32 → St → Option (Int32 × St)
  | 0, _, _, _ => none
  | n + 1, v1, v2, σ =>
    if 6 ≤ v2 then
      some (v1, σ)
    else
      if inb v2 6 = true then
      if (σ (13 + 6 * b0 + ix v2) 0 &&& 1) = 0 then
        lp_X1_top_4 N b0  n v1 (v2 + 1) σ
      else
        if inb v2 6 = true then
        bn (f_X2_endAlong N (13 + 6 * b0 + ix v2) 2 σ) fun r_1 τ_1 =>
        lp_X1_top_4 N b0  n (mmax v1 r_1) (v2 + 1) τ_1
        else none
      else none
set_option maxRecDepth 100000 in
set_option maxHeartbeats 4000000 in
theorem w_X1_top_4 {l : Launch} {D : va_G} {ca : Nat → ClassId} {ad : Nat → Nat} {p : Program} {e : Env} {s : State} {m : MethodId} {args : Array Value} {below : List Frame} {meth : Method} {c : Code} {A : Nat → Prop} (C : CX p s m args c D ca A RX1 cX1_top 3) (hr : meth.sig.returnType = (some .int)) (hlk : meth.locks = false) (N : Nat) (b0 : Nat) (hb0 : b0 < 2) (r : Int32) (τ : St)  : ∀ (n : Nat) (v1 v2 : Int32) (σ : St), lp_X1_top_4 N b0  n v1 v2 σ = some (r, τ) → WW p l e (rmk 1) s m args below meth c 0 0 (EQ D ca ad SH A below args s (some (.int r)) τ) A D ca ad SH 4 [some (.ref (ad (2 + b0))), some (.int v1), some (.int v2)] [] σ := by
  intro n
  induction n with
  | zero => intro v1 v2 σ hf; cases hf
  | succ n ih =>
    intro v1 v2 σ hf
    rw [lp_X1_top_4] at hf
    refine s_iloadn (pc := 4) C dX1_top_4 rfl ?_
    refine s_aloadn (pc := 5) C dX1_top_5 rfl ?_
    refine s_getR (pc := 6) (r := (11 + b0)) C fl_X1_23 (SH_plan hb0) rfl dX1_top_6 ?_
    refine s_alenI (pc := 9) (v := 6) C (SH_spots hb0) (ty2 ca) (by decide) dX1_top_9 ?_
    refine s_icmp_ge (pc := 10) (tgt := 46) C dX1_top_10 (by decide) (fun h_1 => ?_) (fun h_1 => ?_)
    · replace hf := ifp h_1 hf
      refine s_iloadn (pc := 46) C dX1_top_46 rfl ?_
      exact s_iret (pc := 47) C hr hlk dX1_top_47 (congrArg (fun z => some (Value.int z)) (rt hf).1) (rt hf).2
    · replace hf := ifn h_1 hf
      refine s_aloadn (pc := 13) C dX1_top_13 rfl ?_
      refine s_getR (pc := 14) (r := (11 + b0)) C fl_X1_23 (SH_plan hb0) rfl dX1_top_14 ?_
      refine s_iloadn (pc := 17) C dX1_top_17 rfl ?_
      obtain ⟨g_1, hf⟩ := gd hf
      refine s_aald (pc := 18) C (SH_spots hb0) (ty2 ca) g_1 dX1_top_18 ?_
      refine s_getZ (pc := 19) C fl_X1_35 (SH_spot hb0 (inb_lt g_1)) rfl dX1_top_19 ?_
      refine s_if_eq (pc := 22) (tgt := 40) C dX1_top_22 (by decide) (fun h_2 => ?_) (fun h_2 => ?_)
      · replace hf := ifp h_2 hf
        refine s_iinc (pc := 40) (v := (v2 + 1)) (lo' := [some (.ref (ad (2 + b0))), some (.int v1), some (.int (v2 + 1))]) C dX1_top_40 rfl rfl rfl ?_
        refine s_goto (pc := 43) (tgt := 4) C dX1_top_43 (by decide) ?_
        refine s_few (lo' := [some (.ref (ad (2 + b0))), some (.int v1), some (.int (v2 + 1))]) (lfS (lfS (lfS lf0))) ?_
        exact ih v1 (v2 + 1) σ hf
      · replace hf := ifn h_2 hf
        refine s_iloadn (pc := 25) C dX1_top_25 rfl ?_
        refine s_aloadn (pc := 26) C dX1_top_26 rfl ?_
        refine s_getR (pc := 27) (r := (11 + b0)) C fl_X1_23 (SH_plan hb0) rfl dX1_top_27 ?_
        refine s_iloadn (pc := 30) C dX1_top_30 rfl ?_
        obtain ⟨g_2, hf⟩ := gd hf
        refine s_aald (pc := 31) C (SH_spots hb0) (ty2 ca) g_2 dX1_top_31 ?_
        refine s_iconst (pc := 32) (v := 2) C dX1_top_32 (by decide) ?_
        obtain ⟨r_1, τ_1, e_1, hf⟩ := bnd hf
        refine s_callV (pc := 33) (rest := [.int v1]) C rfl (c_X2_endAlong l D ca ad N (13 + 6 * b0 + ix v2) (SH_spot hb0 (inb_lt g_2)) 2 σ r_1 τ_1 e_1) kv_X1_50 ⟨rfl, rfl⟩ (by decide) (SH_spot hb0 (inb_lt g_2)) ⟨_, rfl, rfl⟩ rfl rfl (Nat.le_of_ble_eq_true rfl) dX1_top_33 ⟨Nat.zero_le _, Nat.zero_le _⟩ ?_
        refine s_st (st' := [.int r_1, .int v1]) rfl ?_
        refine s_mmax (pc := 36) C rfl hk_X1_54 ⟨by decide, Nat.le_of_ble_eq_true rfl⟩ ⟨Nat.zero_le _, Nat.zero_le _⟩ hm_max dX1_top_36 ?_
        refine s_istoren (pc := 39) (lo' := [some (.ref (ad (2 + b0))), some (.int (mmax v1 r_1)), some (.int v2)]) C dX1_top_39 (Nat.le_of_ble_eq_true rfl) rfl ?_
        refine s_iinc (pc := 40) (v := (v2 + 1)) (lo' := [some (.ref (ad (2 + b0))), some (.int (mmax v1 r_1)), some (.int (v2 + 1))]) C dX1_top_40 rfl rfl rfl ?_
        refine s_goto (pc := 43) (tgt := 4) C dX1_top_43 (by decide) ?_
        refine s_few (lo' := [some (.ref (ad (2 + b0))), some (.int (mmax v1 r_1)), some (.int (v2 + 1))]) (lfS (lfS (lfS lf0))) ?_
        exact ih (mmax v1 r_1) (v2 + 1) τ_1 hf
def f_X1_top (N : Nat) (b0 : Nat) (σ : St) : Option (Int32 × St) :=
  lp_X1_top_4 N b0 N 0 0 σ
set_option maxRecDepth 100000 in
set_option maxHeartbeats 4000000 in
theorem c_X1_top (l : Launch) (D : va_G) (ca : Nat → ClassId) (ad : Nat → Nat) (N : Nat) (b0 : Nat) (hb0 : b0 < 2) (σ : St) (r : Int32) (τ : St) (hf : f_X1_top N b0 σ = some (r, τ)) : cM l yX1_top (.code yX1_top cX1_top 3 (some .int)) (rmk 1) D ca ad SH [.ref (ad (2 + b0))] σ (some (.int r)) τ := by
  refine cM.intro2 (own := RX1) (lo := [some (.ref (ad (2 + b0))), none, none]) (by decide) rfl (ccR cc0) (Nat.le_of_ble_eq_true rfl) rfl ?_
  intro p e s m args below meth c A C hr hlk
  unfold f_X1_top at hf
  refine s_iconst (pc := 0) (v := 0) C dX1_top_0 (by decide) ?_
  refine s_istoren (pc := 1) (lo' := [some (.ref (ad (2 + b0))), some (.int 0), none]) C dX1_top_1 (Nat.le_of_ble_eq_true rfl) rfl ?_
  refine s_iconst (pc := 2) (v := 0) C dX1_top_2 (by decide) ?_
  refine s_istoren (pc := 3) (lo' := [some (.ref (ad (2 + b0))), some (.int 0), some (.int 0)]) C dX1_top_3 (Nat.le_of_ble_eq_true rfl) rfl ?_
  refine s_few (lo' := [some (.ref (ad (2 + b0))), some (.int 0), some (.int 0)]) (lfS (lfS (lfS lf0))) ?_
  exact w_X1_top_4 C hr hlk N b0 hb0 r τ  N 0 0 σ hf
def lp_X1_ends_4 (N : Nat) (b0 : Nat) (a1 : Int32) : Nat → Int32 → Int32 → Int32 → St → Option (Int32 × St)
  | 0, _, _, _, _ => none
  | n + 1, v1, v2, v3, σ =>
    if 6 ≤ v3 then
      some (v2, σ)
    else
      if inb v3 6 = true then
      if (σ (13 + 6 * b0 + ix v3) 0 &&& 1) = 0 then
        lp_X1_ends_4 N b0 a1  n v1 v2 (v3 + 1) σ
      else
        if inb v3 6 = true then
        bn (f_X2_endAlong N (13 + 6 * b0 + ix v3) v1 σ) fun r_1 τ_1 =>
        lp_X1_ends_4 N b0 a1  n v1 (v2 ||| (1 <<< (r_1 &&& 31))) (v3 + 1) τ_1
        else none
      else none
set_option maxRecDepth 100000 in
set_option maxHeartbeats 4000000 in
theorem w_X1_ends_4 {l : Launch} {D : va_G} {ca : Nat → ClassId} {ad : Nat → Nat} {p : Program} {e : Env} {s : State} {m : MethodId} {args : Array Value} {below : List Frame} {meth : Method} {c : Code} {A : Nat → Prop} (C : CX p s m args c D ca A RX1 cX1_ends 4) (hr : meth.sig.returnType = (some .int)) (hlk : meth.locks = false) (N : Nat) (b0 : Nat) (hb0 : b0 < 2) (a1 : Int32) (r : Int32) (τ : St)  : ∀ (n : Nat) (v1 v2 v3 : Int32) (σ : St), lp_X1_ends_4 N b0 a1  n v1 v2 v3 σ = some (r, τ) → WW p l e (rmk 1) s m args below meth c 0 0 (EQ D ca ad SH A below args s (some (.int r)) τ) A D ca ad SH 4 [some (.ref (ad (2 + b0))), some (.int v1), some (.int v2), some (.int v3)] [] σ := by
  intro n
  induction n with
  | zero => intro v1 v2 v3 σ hf; cases hf
  | succ n ih =>
    intro v1 v2 v3 σ hf
    rw [lp_X1_ends_4] at hf
    refine s_iloadn (pc := 4) C dX1_ends_4 rfl ?_
    refine s_aloadn (pc := 5) C dX1_ends_5 rfl ?_
    refine s_getR (pc := 6) (r := (11 + b0)) C fl_X1_23 (SH_plan hb0) rfl dX1_ends_6 ?_
    refine s_alenI (pc := 9) (v := 6) C (SH_spots hb0) (ty2 ca) (by decide) dX1_ends_9 ?_
    refine s_icmp_ge (pc := 10) (tgt := 46) C dX1_ends_10 (by decide) (fun h_1 => ?_) (fun h_1 => ?_)
    · replace hf := ifp h_1 hf
      refine s_iloadn (pc := 46) C dX1_ends_46 rfl ?_
      exact s_iret (pc := 47) C hr hlk dX1_ends_47 (congrArg (fun z => some (Value.int z)) (rt hf).1) (rt hf).2
    · replace hf := ifn h_1 hf
      refine s_aloadn (pc := 13) C dX1_ends_13 rfl ?_
      refine s_getR (pc := 14) (r := (11 + b0)) C fl_X1_23 (SH_plan hb0) rfl dX1_ends_14 ?_
      refine s_iloadn (pc := 17) C dX1_ends_17 rfl ?_
      obtain ⟨g_1, hf⟩ := gd hf
      refine s_aald (pc := 18) C (SH_spots hb0) (ty2 ca) g_1 dX1_ends_18 ?_
      refine s_getZ (pc := 19) C fl_X1_35 (SH_spot hb0 (inb_lt g_1)) rfl dX1_ends_19 ?_
      refine s_if_eq (pc := 22) (tgt := 40) C dX1_ends_22 (by decide) (fun h_2 => ?_) (fun h_2 => ?_)
      · replace hf := ifp h_2 hf
        refine s_iinc (pc := 40) (v := (v3 + 1)) (lo' := [some (.ref (ad (2 + b0))), some (.int v1), some (.int v2), some (.int (v3 + 1))]) C dX1_ends_40 rfl rfl rfl ?_
        refine s_goto (pc := 43) (tgt := 4) C dX1_ends_43 (by decide) ?_
        refine s_few (lo' := [some (.ref (ad (2 + b0))), some (.int v1), some (.int v2), some (.int (v3 + 1))]) (lfS (lfS (lfS (lfS lf0)))) ?_
        exact ih v1 v2 (v3 + 1) σ hf
      · replace hf := ifn h_2 hf
        refine s_iloadn (pc := 25) C dX1_ends_25 rfl ?_
        refine s_iconst (pc := 26) (v := 1) C dX1_ends_26 (by decide) ?_
        refine s_aloadn (pc := 27) C dX1_ends_27 rfl ?_
        refine s_getR (pc := 28) (r := (11 + b0)) C fl_X1_23 (SH_plan hb0) rfl dX1_ends_28 ?_
        refine s_iloadn (pc := 31) C dX1_ends_31 rfl ?_
        obtain ⟨g_2, hf⟩ := gd hf
        refine s_aald (pc := 32) C (SH_spots hb0) (ty2 ca) g_2 dX1_ends_32 ?_
        refine s_iloadn (pc := 33) C dX1_ends_33 rfl ?_
        obtain ⟨r_1, τ_1, e_1, hf⟩ := bnd hf
        refine s_callV (pc := 34) (rest := [.int 1, .int v2]) C rfl (c_X2_endAlong l D ca ad N (13 + 6 * b0 + ix v3) (SH_spot hb0 (inb_lt g_2)) v1 σ r_1 τ_1 e_1) kv_X1_50 ⟨rfl, rfl⟩ (by decide) (SH_spot hb0 (inb_lt g_2)) ⟨_, rfl, rfl⟩ rfl rfl (Nat.le_of_ble_eq_true rfl) dX1_ends_34 ⟨Nat.zero_le _, Nat.zero_le _⟩ ?_
        refine s_st (st' := [.int r_1, .int 1, .int v2]) rfl ?_
        refine s_ishl (pc := 37) C dX1_ends_37 ?_
        refine s_ior (pc := 38) C dX1_ends_38 ?_
        refine s_istoren (pc := 39) (lo' := [some (.ref (ad (2 + b0))), some (.int v1), some (.int (v2 ||| (1 <<< (r_1 &&& 31)))), some (.int v3)]) C dX1_ends_39 (Nat.le_of_ble_eq_true rfl) rfl ?_
        refine s_iinc (pc := 40) (v := (v3 + 1)) (lo' := [some (.ref (ad (2 + b0))), some (.int v1), some (.int (v2 ||| (1 <<< (r_1 &&& 31)))), some (.int (v3 + 1))]) C dX1_ends_40 rfl rfl rfl ?_
        refine s_goto (pc := 43) (tgt := 4) C dX1_ends_43 (by decide) ?_
        refine s_few (lo' := [some (.ref (ad (2 + b0))), some (.int v1), some (.int (v2 ||| (1 <<< (r_1 &&& 31)))), some (.int (v3 + 1))]) (lfS (lfS (lfS (lfS lf0)))) ?_
        exact ih v1 (v2 ||| (1 <<< (r_1 &&& 31))) (v3 + 1) τ_1 hf
def f_X1_ends (N : Nat) (b0 : Nat) (a1 : Int32) (σ : St) : Option (Int32 × St) :=
  lp_X1_ends_4 N b0 a1 N a1 1 0 σ
set_option maxRecDepth 100000 in
set_option maxHeartbeats 4000000 in
theorem c_X1_ends (l : Launch) (D : va_G) (ca : Nat → ClassId) (ad : Nat → Nat) (N : Nat) (b0 : Nat) (hb0 : b0 < 2) (a1 : Int32) (σ : St) (r : Int32) (τ : St) (hf : f_X1_ends N b0 a1 σ = some (r, τ)) : cM l yX1_ends (.code yX1_ends cX1_ends 4 (some .int)) (rmk 1) D ca ad SH [.ref (ad (2 + b0)), .int a1] σ (some (.int r)) τ := by
  refine cM.intro2 (own := RX1) (lo := [some (.ref (ad (2 + b0))), some (.int a1), none, none]) (by decide) rfl (ccR (ccI cc0)) (Nat.le_of_ble_eq_true rfl) rfl ?_
  intro p e s m args below meth c A C hr hlk
  unfold f_X1_ends at hf
  refine s_iconst (pc := 0) (v := 1) C dX1_ends_0 (by decide) ?_
  refine s_istoren (pc := 1) (lo' := [some (.ref (ad (2 + b0))), some (.int a1), some (.int 1), none]) C dX1_ends_1 (Nat.le_of_ble_eq_true rfl) rfl ?_
  refine s_iconst (pc := 2) (v := 0) C dX1_ends_2 (by decide) ?_
  refine s_istoren (pc := 3) (lo' := [some (.ref (ad (2 + b0))), some (.int a1), some (.int 1), some (.int 0)]) C dX1_ends_3 (Nat.le_of_ble_eq_true rfl) rfl ?_
  refine s_few (lo' := [some (.ref (ad (2 + b0))), some (.int a1), some (.int 1), some (.int 0)]) (lfS (lfS (lfS (lfS lf0)))) ?_
  exact w_X1_ends_4 C hr hlk N b0 hb0 a1 r τ  N a1 1 0 σ hf
def lp_X1_supportOf_16 (N : Nat) (b0 : Nat) (q1 : Nat) : Nat → Int32 → Int32 → St → Option (Int32 × St)
  | 0, _, _, _ => none
  | n + 1, v2, v3, σ =>
    if 6 ≤ v3 then
      some (v2, σ)
    else
      if inb v3 6 = true then
      if (σ (13 + 6 * b0 + ix v3) 0 &&& 1) = 0 then
        lp_X1_supportOf_16 N b0 q1  n v2 (v3 + 1) σ
      else
        if inb v3 6 = true then
        bn (f_X2_standsOn N q1 (13 + 6 * b0 + ix v3) σ) fun r_1 τ_1 =>
        if r_1 = 0 then
          lp_X1_supportOf_16 N b0 q1  n v2 (v3 + 1) τ_1
        else
          if inb v3 6 = true then
          bn (f_X2_commonArea N q1 (13 + 6 * b0 + ix v3) τ_1) fun r_2 τ_2 =>
          lp_X1_supportOf_16 N b0 q1  n (v2 + r_2) (v3 + 1) τ_2
          else none
        else none
      else none
set_option maxRecDepth 100000 in
set_option maxHeartbeats 4000000 in
theorem w_X1_supportOf_16 {l : Launch} {D : va_G} {ca : Nat → ClassId} {ad : Nat → Nat} {p : Program} {e : Env} {s : State} {m : MethodId} {args : Array Value} {below : List Frame} {meth : Method} {c : Code} {A : Nat → Prop} (C : CX p s m args c D ca A RX1 cX1_supportOf 4) (hr : meth.sig.returnType = (some .int)) (hlk : meth.locks = false) (N : Nat) (b0 : Nat) (hb0 : b0 < 2) (q1 : Nat) (hq1 : SH[q1]? = some oSpot) (r : Int32) (τ : St)  : ∀ (n : Nat) (v2 v3 : Int32) (σ : St), lp_X1_supportOf_16 N b0 q1  n v2 v3 σ = some (r, τ) → WW p l e (rmk 2) s m args below meth c 0 0 (EQ D ca ad SH A below args s (some (.int r)) τ) A D ca ad SH 16 [some (.ref (ad (2 + b0))), some (.ref (ad q1)), some (.int v2), some (.int v3)] [] σ := by
  intro n
  induction n with
  | zero => intro v2 v3 σ hf; cases hf
  | succ n ih =>
    intro v2 v3 σ hf
    rw [lp_X1_supportOf_16] at hf
    refine s_iloadn (pc := 16) C dX1_supportOf_16 rfl ?_
    refine s_aloadn (pc := 17) C dX1_supportOf_17 rfl ?_
    refine s_getR (pc := 18) (r := (11 + b0)) C fl_X1_23 (SH_plan hb0) rfl dX1_supportOf_18 ?_
    refine s_alenI (pc := 21) (v := 6) C (SH_spots hb0) (ty2 ca) (by decide) dX1_supportOf_21 ?_
    refine s_icmp_ge (pc := 22) (tgt := 69) C dX1_supportOf_22 (by decide) (fun h_1 => ?_) (fun h_1 => ?_)
    · replace hf := ifp h_1 hf
      refine s_iloadn (pc := 69) C dX1_supportOf_69 rfl ?_
      exact s_iret (pc := 70) C hr hlk dX1_supportOf_70 (congrArg (fun z => some (Value.int z)) (rt hf).1) (rt hf).2
    · replace hf := ifn h_1 hf
      refine s_aloadn (pc := 25) C dX1_supportOf_25 rfl ?_
      refine s_getR (pc := 26) (r := (11 + b0)) C fl_X1_23 (SH_plan hb0) rfl dX1_supportOf_26 ?_
      refine s_iloadn (pc := 29) C dX1_supportOf_29 rfl ?_
      obtain ⟨g_1, hf⟩ := gd hf
      refine s_aald (pc := 30) C (SH_spots hb0) (ty2 ca) g_1 dX1_supportOf_30 ?_
      refine s_getZ (pc := 31) C fl_X1_35 (SH_spot hb0 (inb_lt g_1)) rfl dX1_supportOf_31 ?_
      refine s_if_eq (pc := 34) (tgt := 63) C dX1_supportOf_34 (by decide) (fun h_2 => ?_) (fun h_2 => ?_)
      · replace hf := ifp h_2 hf
        refine s_iinc (pc := 63) (v := (v3 + 1)) (lo' := [some (.ref (ad (2 + b0))), some (.ref (ad q1)), some (.int v2), some (.int (v3 + 1))]) C dX1_supportOf_63 rfl rfl rfl ?_
        refine s_goto (pc := 66) (tgt := 16) C dX1_supportOf_66 (by decide) ?_
        refine s_few (lo' := [some (.ref (ad (2 + b0))), some (.ref (ad q1)), some (.int v2), some (.int (v3 + 1))]) (lfS (lfS (lfS (lfS lf0)))) ?_
        exact ih v2 (v3 + 1) σ hf
      · replace hf := ifn h_2 hf
        refine s_aloadn (pc := 37) C dX1_supportOf_37 rfl ?_
        refine s_aloadn (pc := 38) C dX1_supportOf_38 rfl ?_
        refine s_getR (pc := 39) (r := (11 + b0)) C fl_X1_23 (SH_plan hb0) rfl dX1_supportOf_39 ?_
        refine s_iloadn (pc := 42) C dX1_supportOf_42 rfl ?_
        obtain ⟨g_2, hf⟩ := gd hf
        refine s_aald (pc := 43) C (SH_spots hb0) (ty2 ca) g_2 dX1_supportOf_43 ?_
        obtain ⟨r_1, τ_1, e_1, hf⟩ := bnd hf
        refine s_callV (pc := 44) (rest := []) C rfl (c_X2_standsOn l D ca ad N q1 hq1 (13 + 6 * b0 + ix v3) (SH_spot hb0 (inb_lt g_2)) σ r_1 τ_1 e_1) kv_X1_99 ⟨rfl, rfl⟩ (by decide) hq1 ⟨_, rfl, rfl⟩ rfl rfl (Nat.le_of_ble_eq_true rfl) dX1_supportOf_44 ⟨Nat.zero_le _, Nat.zero_le _⟩ ?_
        refine s_st (st' := [.int r_1]) rfl ?_
        refine s_if_eq (pc := 47) (tgt := 63) C dX1_supportOf_47 (by decide) (fun h_3 => ?_) (fun h_3 => ?_)
        · replace hf := ifp h_3 hf
          refine s_iinc (pc := 63) (v := (v3 + 1)) (lo' := [some (.ref (ad (2 + b0))), some (.ref (ad q1)), some (.int v2), some (.int (v3 + 1))]) C dX1_supportOf_63 rfl rfl rfl ?_
          refine s_goto (pc := 66) (tgt := 16) C dX1_supportOf_66 (by decide) ?_
          refine s_few (lo' := [some (.ref (ad (2 + b0))), some (.ref (ad q1)), some (.int v2), some (.int (v3 + 1))]) (lfS (lfS (lfS (lfS lf0)))) ?_
          exact ih v2 (v3 + 1) τ_1 hf
        · replace hf := ifn h_3 hf
          refine s_iloadn (pc := 50) C dX1_supportOf_50 rfl ?_
          refine s_aloadn (pc := 51) C dX1_supportOf_51 rfl ?_
          refine s_aloadn (pc := 52) C dX1_supportOf_52 rfl ?_
          refine s_getR (pc := 53) (r := (11 + b0)) C fl_X1_23 (SH_plan hb0) rfl dX1_supportOf_53 ?_
          refine s_iloadn (pc := 56) C dX1_supportOf_56 rfl ?_
          obtain ⟨g_3, hf⟩ := gd hf
          refine s_aald (pc := 57) C (SH_spots hb0) (ty2 ca) g_3 dX1_supportOf_57 ?_
          obtain ⟨r_2, τ_2, e_2, hf⟩ := bnd hf
          refine s_callV (pc := 58) (rest := [.int v2]) C rfl (c_X2_commonArea l D ca ad N q1 hq1 (13 + 6 * b0 + ix v3) (SH_spot hb0 (inb_lt g_3)) τ_1 r_2 τ_2 e_2) kv_X1_102 ⟨rfl, rfl⟩ (by decide) hq1 ⟨_, rfl, rfl⟩ rfl rfl (Nat.le_of_ble_eq_true rfl) dX1_supportOf_58 ⟨Nat.zero_le _, Nat.zero_le _⟩ ?_
          refine s_st (st' := [.int r_2, .int v2]) rfl ?_
          refine s_iadd (pc := 61) C dX1_supportOf_61 ?_
          refine s_istoren (pc := 62) (lo' := [some (.ref (ad (2 + b0))), some (.ref (ad q1)), some (.int (v2 + r_2)), some (.int v3)]) C dX1_supportOf_62 (Nat.le_of_ble_eq_true rfl) rfl ?_
          refine s_iinc (pc := 63) (v := (v3 + 1)) (lo' := [some (.ref (ad (2 + b0))), some (.ref (ad q1)), some (.int (v2 + r_2)), some (.int (v3 + 1))]) C dX1_supportOf_63 rfl rfl rfl ?_
          refine s_goto (pc := 66) (tgt := 16) C dX1_supportOf_66 (by decide) ?_
          refine s_few (lo' := [some (.ref (ad (2 + b0))), some (.ref (ad q1)), some (.int (v2 + r_2)), some (.int (v3 + 1))]) (lfS (lfS (lfS (lfS lf0)))) ?_
          exact ih (v2 + r_2) (v3 + 1) τ_2 hf
def f_X1_supportOf (N : Nat) (b0 : Nat) (q1 : Nat) (σ : St) : Option (Int32 × St) :=
  if (σ q1 3) = 0 then
    bn (f_X2_area N q1 σ) fun r_1 τ_1 =>
    some (r_1, τ_1)
  else
    lp_X1_supportOf_16 N b0 q1 N 0 0 σ
set_option maxRecDepth 100000 in
set_option maxHeartbeats 4000000 in
theorem c_X1_supportOf (l : Launch) (D : va_G) (ca : Nat → ClassId) (ad : Nat → Nat) (N : Nat) (b0 : Nat) (hb0 : b0 < 2) (q1 : Nat) (hq1 : SH[q1]? = some oSpot) (σ : St) (r : Int32) (τ : St) (hf : f_X1_supportOf N b0 q1 σ = some (r, τ)) : cM l yX1_supportOf (.code yX1_supportOf cX1_supportOf 4 (some .int)) (rmk 2) D ca ad SH [.ref (ad (2 + b0)), .ref (ad q1)] σ (some (.int r)) τ := by
  refine cM.intro2 (own := RX1) (lo := [some (.ref (ad (2 + b0))), some (.ref (ad q1)), none, none]) (by decide) rfl (ccR (ccR cc0)) (Nat.le_of_ble_eq_true rfl) rfl ?_
  intro p e s m args below meth c A C hr hlk
  unfold f_X1_supportOf at hf
  refine s_aloadn (pc := 0) C dX1_supportOf_0 rfl ?_
  refine s_getI (pc := 1) C fl_X1_72 hq1 rfl dX1_supportOf_1 ?_
  refine s_if_ne (pc := 4) (tgt := 12) C dX1_supportOf_4 (by decide) (fun h_1 => ?_) (fun h_1 => ?_)
  · replace hf := ifn h_1 hf
    refine s_iconst (pc := 12) (v := 0) C dX1_supportOf_12 (by decide) ?_
    refine s_istoren (pc := 13) (lo' := [some (.ref (ad (2 + b0))), some (.ref (ad q1)), some (.int 0), none]) C dX1_supportOf_13 (Nat.le_of_ble_eq_true rfl) rfl ?_
    refine s_iconst (pc := 14) (v := 0) C dX1_supportOf_14 (by decide) ?_
    refine s_istoren (pc := 15) (lo' := [some (.ref (ad (2 + b0))), some (.ref (ad q1)), some (.int 0), some (.int 0)]) C dX1_supportOf_15 (Nat.le_of_ble_eq_true rfl) rfl ?_
    refine s_few (lo' := [some (.ref (ad (2 + b0))), some (.ref (ad q1)), some (.int 0), some (.int 0)]) (lfS (lfS (lfS (lfS lf0)))) ?_
    exact w_X1_supportOf_16 C hr hlk N b0 hb0 q1 hq1 r τ  N 0 0 σ hf
  · replace hf := ifp h_1 hf
    refine s_aloadn (pc := 7) C dX1_supportOf_7 rfl ?_
    obtain ⟨r_1, τ_1, e_1, hf⟩ := bnd hf
    refine s_callV (pc := 8) (rest := []) C rfl (c_X2_area l D ca ad N q1 hq1 σ r_1 τ_1 e_1) kv_X1_89 ⟨rfl, rfl⟩ (by decide) hq1 ⟨_, rfl, rfl⟩ rfl rfl (Nat.le_of_ble_eq_true rfl) dX1_supportOf_8 ⟨Nat.zero_le _, Nat.zero_le _⟩ ?_
    refine s_st (st' := [.int r_1]) rfl ?_
    exact s_iret (pc := 11) C hr hlk dX1_supportOf_11 (congrArg (fun z => some (Value.int z)) (rt hf).1) (rt hf).2
def lp_X1_hasRoomFor_2 (N : Nat) (b0 : Nat) (q1 : Nat) : Nat → Int32 → St → Option (Int32 × St)
  | 0, _, _ => none
  | n + 1, v2, σ =>
    if 6 ≤ v2 then
      some (1, σ)
    else
      if inb v2 6 = true then
      if (σ (13 + 6 * b0 + ix v2) 0 &&& 1) = 0 then
        lp_X1_hasRoomFor_2 N b0 q1  n (v2 + 1) σ
      else
        if inb v2 6 = true then
        if (13 + 6 * b0 + ix v2) = q1 then
          lp_X1_hasRoomFor_2 N b0 q1  n (v2 + 1) σ
        else
          if inb v2 6 = true then
          bn (f_X2_meets N (13 + 6 * b0 + ix v2) q1 σ) fun r_1 τ_1 =>
          if r_1 = 0 then
            lp_X1_hasRoomFor_2 N b0 q1  n (v2 + 1) τ_1
          else
            some (0, τ_1)
          else none
        else none
      else none
set_option maxRecDepth 100000 in
set_option maxHeartbeats 4000000 in
theorem w_X1_hasRoomFor_2 {l : Launch} {D : va_G} {ca : Nat → ClassId} {ad : Nat → Nat} {p : Program} {e : Env} {s : State} {m : MethodId} {args : Array Value} {below : List Frame} {meth : Method} {c : Code} {A : Nat → Prop} (C : CX p s m args c D ca A RX1 cX1_hasRoomFor 3) (hr : meth.sig.returnType = (some .boolean)) (hlk : meth.locks = false) (N : Nat) (b0 : Nat) (hb0 : b0 < 2) (q1 : Nat) (hq1 : SH[q1]? = some oSpot) (r : Int32) (τ : St)  : ∀ (n : Nat) (v2 : Int32) (σ : St), lp_X1_hasRoomFor_2 N b0 q1  n v2 σ = some (r, τ) → WW p l e (rmk 2) s m args below meth c 0 0 (EQ D ca ad SH A below args s (some (.int r)) τ) A D ca ad SH 2 [some (.ref (ad (2 + b0))), some (.ref (ad q1)), some (.int v2)] [] σ := by
  intro n
  induction n with
  | zero => intro v2 σ hf; cases hf
  | succ n ih =>
    intro v2 σ hf
    rw [lp_X1_hasRoomFor_2] at hf
    refine s_iloadn (pc := 2) C dX1_hasRoomFor_2 rfl ?_
    refine s_aloadn (pc := 3) C dX1_hasRoomFor_3 rfl ?_
    refine s_getR (pc := 4) (r := (11 + b0)) C fl_X1_23 (SH_plan hb0) rfl dX1_hasRoomFor_4 ?_
    refine s_alenI (pc := 7) (v := 6) C (SH_spots hb0) (ty2 ca) (by decide) dX1_hasRoomFor_7 ?_
    refine s_icmp_ge (pc := 8) (tgt := 54) C dX1_hasRoomFor_8 (by decide) (fun h_1 => ?_) (fun h_1 => ?_)
    · replace hf := ifp h_1 hf
      refine s_iconst (pc := 54) (v := 1) C dX1_hasRoomFor_54 (by decide) ?_
      exact s_zret (pc := 55) C hr hlk dX1_hasRoomFor_55 (by decide) (congrArg (fun z => some (Value.int z)) (rt hf).1) (rt hf).2
    · replace hf := ifn h_1 hf
      refine s_aloadn (pc := 11) C dX1_hasRoomFor_11 rfl ?_
      refine s_getR (pc := 12) (r := (11 + b0)) C fl_X1_23 (SH_plan hb0) rfl dX1_hasRoomFor_12 ?_
      refine s_iloadn (pc := 15) C dX1_hasRoomFor_15 rfl ?_
      obtain ⟨g_1, hf⟩ := gd hf
      refine s_aald (pc := 16) C (SH_spots hb0) (ty2 ca) g_1 dX1_hasRoomFor_16 ?_
      refine s_getZ (pc := 17) C fl_X1_35 (SH_spot hb0 (inb_lt g_1)) rfl dX1_hasRoomFor_17 ?_
      refine s_if_eq (pc := 20) (tgt := 48) C dX1_hasRoomFor_20 (by decide) (fun h_2 => ?_) (fun h_2 => ?_)
      · replace hf := ifp h_2 hf
        refine s_iinc (pc := 48) (v := (v2 + 1)) (lo' := [some (.ref (ad (2 + b0))), some (.ref (ad q1)), some (.int (v2 + 1))]) C dX1_hasRoomFor_48 rfl rfl rfl ?_
        refine s_goto (pc := 51) (tgt := 2) C dX1_hasRoomFor_51 (by decide) ?_
        refine s_few (lo' := [some (.ref (ad (2 + b0))), some (.ref (ad q1)), some (.int (v2 + 1))]) (lfS (lfS (lfS lf0))) ?_
        exact ih (v2 + 1) σ hf
      · replace hf := ifn h_2 hf
        refine s_aloadn (pc := 23) C dX1_hasRoomFor_23 rfl ?_
        refine s_getR (pc := 24) (r := (11 + b0)) C fl_X1_23 (SH_plan hb0) rfl dX1_hasRoomFor_24 ?_
        refine s_iloadn (pc := 27) C dX1_hasRoomFor_27 rfl ?_
        obtain ⟨g_2, hf⟩ := gd hf
        refine s_aald (pc := 28) C (SH_spots hb0) (ty2 ca) g_2 dX1_hasRoomFor_28 ?_
        refine s_aloadn (pc := 29) C dX1_hasRoomFor_29 rfl ?_
        refine s_acmp_eq (pc := 30) (tgt := 48) C (SH_spot hb0 (inb_lt g_2)) hq1 dX1_hasRoomFor_30 (by decide) (fun h_3 => ?_) (fun h_3 => ?_)
        · replace hf := ifp h_3 hf
          refine s_iinc (pc := 48) (v := (v2 + 1)) (lo' := [some (.ref (ad (2 + b0))), some (.ref (ad q1)), some (.int (v2 + 1))]) C dX1_hasRoomFor_48 rfl rfl rfl ?_
          refine s_goto (pc := 51) (tgt := 2) C dX1_hasRoomFor_51 (by decide) ?_
          refine s_few (lo' := [some (.ref (ad (2 + b0))), some (.ref (ad q1)), some (.int (v2 + 1))]) (lfS (lfS (lfS lf0))) ?_
          exact ih (v2 + 1) σ hf
        · replace hf := ifn h_3 hf
          refine s_aloadn (pc := 33) C dX1_hasRoomFor_33 rfl ?_
          refine s_getR (pc := 34) (r := (11 + b0)) C fl_X1_23 (SH_plan hb0) rfl dX1_hasRoomFor_34 ?_
          refine s_iloadn (pc := 37) C dX1_hasRoomFor_37 rfl ?_
          obtain ⟨g_3, hf⟩ := gd hf
          refine s_aald (pc := 38) C (SH_spots hb0) (ty2 ca) g_3 dX1_hasRoomFor_38 ?_
          refine s_aloadn (pc := 39) C dX1_hasRoomFor_39 rfl ?_
          obtain ⟨r_1, τ_1, e_1, hf⟩ := bnd hf
          refine s_callV (pc := 40) (rest := []) C rfl (c_X2_meets l D ca ad N (13 + 6 * b0 + ix v2) (SH_spot hb0 (inb_lt g_3)) q1 hq1 σ r_1 τ_1 e_1) kv_X1_96 ⟨rfl, rfl⟩ (by decide) (SH_spot hb0 (inb_lt g_3)) ⟨_, rfl, rfl⟩ rfl rfl (Nat.le_of_ble_eq_true rfl) dX1_hasRoomFor_40 ⟨Nat.zero_le _, Nat.zero_le _⟩ ?_
          refine s_st (st' := [.int r_1]) rfl ?_
          refine s_if_eq (pc := 43) (tgt := 48) C dX1_hasRoomFor_43 (by decide) (fun h_4 => ?_) (fun h_4 => ?_)
          · replace hf := ifp h_4 hf
            refine s_iinc (pc := 48) (v := (v2 + 1)) (lo' := [some (.ref (ad (2 + b0))), some (.ref (ad q1)), some (.int (v2 + 1))]) C dX1_hasRoomFor_48 rfl rfl rfl ?_
            refine s_goto (pc := 51) (tgt := 2) C dX1_hasRoomFor_51 (by decide) ?_
            refine s_few (lo' := [some (.ref (ad (2 + b0))), some (.ref (ad q1)), some (.int (v2 + 1))]) (lfS (lfS (lfS lf0))) ?_
            exact ih (v2 + 1) τ_1 hf
          · replace hf := ifn h_4 hf
            refine s_iconst (pc := 46) (v := 0) C dX1_hasRoomFor_46 (by decide) ?_
            exact s_zret (pc := 47) C hr hlk dX1_hasRoomFor_47 (by decide) (congrArg (fun z => some (Value.int z)) (rt hf).1) (rt hf).2
def f_X1_hasRoomFor (N : Nat) (b0 : Nat) (q1 : Nat) (σ : St) : Option (Int32 × St) :=
  lp_X1_hasRoomFor_2 N b0 q1 N 0 σ
set_option maxRecDepth 100000 in
set_option maxHeartbeats 4000000 in
theorem c_X1_hasRoomFor (l : Launch) (D : va_G) (ca : Nat → ClassId) (ad : Nat → Nat) (N : Nat) (b0 : Nat) (hb0 : b0 < 2) (q1 : Nat) (hq1 : SH[q1]? = some oSpot) (σ : St) (r : Int32) (τ : St) (hf : f_X1_hasRoomFor N b0 q1 σ = some (r, τ)) : cM l yX1_hasRoomFor (.code yX1_hasRoomFor cX1_hasRoomFor 3 (some .boolean)) (rmk 2) D ca ad SH [.ref (ad (2 + b0)), .ref (ad q1)] σ (some (.int r)) τ := by
  refine cM.intro2 (own := RX1) (lo := [some (.ref (ad (2 + b0))), some (.ref (ad q1)), none]) (by decide) rfl (ccR (ccR cc0)) (Nat.le_of_ble_eq_true rfl) rfl ?_
  intro p e s m args below meth c A C hr hlk
  unfold f_X1_hasRoomFor at hf
  refine s_iconst (pc := 0) (v := 0) C dX1_hasRoomFor_0 (by decide) ?_
  refine s_istoren (pc := 1) (lo' := [some (.ref (ad (2 + b0))), some (.ref (ad q1)), some (.int 0)]) C dX1_hasRoomFor_1 (Nat.le_of_ble_eq_true rfl) rfl ?_
  refine s_few (lo' := [some (.ref (ad (2 + b0))), some (.ref (ad q1)), some (.int 0)]) (lfS (lfS (lfS lf0))) ?_
  exact w_X1_hasRoomFor_2 C hr hlk N b0 hb0 q1 hq1 r τ  N 0 σ hf
def lp_X1_noteStanders_23 (N : Nat) (b0 : Nat) (k2 : Int32 → St → Option (St)) : Nat → Int32 → Int32 → St → Option (St)
  | 0, _, _, _ => none
  | n + 1, v1, v2, σ =>
    if 6 ≤ v2 then
      k2 (v1 + 1) σ
    else
      if inb v1 6 = true then
      if (σ (13 + 6 * b0 + ix v1) 0 &&& 1) = 0 then
        k2 (v1 + 1) σ
      else
        if inb v2 6 = true then
        if (σ (13 + 6 * b0 + ix v2) 0 &&& 1) = 0 then
          lp_X1_noteStanders_23 N b0 k2 n v1 (v2 + 1) σ
        else
          if inb v2 6 = true then
          if inb v1 6 = true then
          bn (f_X2_standsOn N (13 + 6 * b0 + ix v2) (13 + 6 * b0 + ix v1) σ) fun r_1 τ_1 =>
          if r_1 = 0 then
            lp_X1_noteStanders_23 N b0 k2 n v1 (v2 + 1) τ_1
          else
            if inb v1 6 = true then
            lp_X1_noteStanders_23 N b0 k2 n v1 (v2 + 1) (su τ_1 (13 + 6 * b0 + ix v1) 10 ((τ_1 (13 + 6 * b0 + ix v1) 10) ||| (1 <<< (v2 &&& 31))))
            else none
          else none
          else none
        else none
      else none
set_option maxRecDepth 100000 in
set_option maxHeartbeats 4000000 in
theorem w_X1_noteStanders_23 {l : Launch} {D : va_G} {ca : Nat → ClassId} {ad : Nat → Nat} {p : Program} {e : Env} {s : State} {m : MethodId} {args : Array Value} {below : List Frame} {meth : Method} {c : Code} {A : Nat → Prop} (C : CX p s m args c D ca A RX1 cX1_noteStanders 3) (hr : meth.sig.returnType = none) (hlk : meth.locks = false) (N : Nat) (b0 : Nat) (hb0 : b0 < 2) (τ : St) (k2 : Int32 → St → Option (St))  (hk2 : ∀ (w1 : Int32) (σ : St), k2 w1 σ = some τ → WW p l e (rmk 2) s m args below meth c 0 0 (EQ D ca ad SH A below args s none τ) A D ca ad SH 2 [some (.ref (ad (2 + b0))), some (.int w1), none] [] σ) : ∀ (n : Nat) (v1 v2 : Int32) (σ : St), lp_X1_noteStanders_23 N b0 k2 n v1 v2 σ = some τ → WW p l e (rmk 2) s m args below meth c 0 0 (EQ D ca ad SH A below args s none τ) A D ca ad SH 23 [some (.ref (ad (2 + b0))), some (.int v1), some (.int v2)] [] σ := by
  intro n
  induction n with
  | zero => intro v1 v2 σ hf; cases hf
  | succ n ih =>
    intro v1 v2 σ hf
    rw [lp_X1_noteStanders_23] at hf
    refine s_iloadn (pc := 23) C dX1_noteStanders_23 rfl ?_
    refine s_aloadn (pc := 24) C dX1_noteStanders_24 rfl ?_
    refine s_getR (pc := 25) (r := (11 + b0)) C fl_X1_23 (SH_plan hb0) rfl dX1_noteStanders_25 ?_
    refine s_alenI (pc := 28) (v := 6) C (SH_spots hb0) (ty2 ca) (by decide) dX1_noteStanders_28 ?_
    refine s_icmp_ge (pc := 29) (tgt := 97) C dX1_noteStanders_29 (by decide) (fun h_1 => ?_) (fun h_1 => ?_)
    · replace hf := ifp h_1 hf
      refine s_iinc (pc := 97) (v := (v1 + 1)) (lo' := [some (.ref (ad (2 + b0))), some (.int (v1 + 1)), some (.int v2)]) C dX1_noteStanders_97 rfl rfl rfl ?_
      refine s_goto (pc := 100) (tgt := 2) C dX1_noteStanders_100 (by decide) ?_
      refine s_few (lo' := [some (.ref (ad (2 + b0))), some (.int (v1 + 1)), none]) (lfS (lfS (lfN lf0))) ?_
      exact hk2 (v1 + 1) σ hf
    · replace hf := ifn h_1 hf
      refine s_aloadn (pc := 32) C dX1_noteStanders_32 rfl ?_
      refine s_getR (pc := 33) (r := (11 + b0)) C fl_X1_23 (SH_plan hb0) rfl dX1_noteStanders_33 ?_
      refine s_iloadn (pc := 36) C dX1_noteStanders_36 rfl ?_
      obtain ⟨g_1, hf⟩ := gd hf
      refine s_aald (pc := 37) C (SH_spots hb0) (ty2 ca) g_1 dX1_noteStanders_37 ?_
      refine s_getZ (pc := 38) C fl_X1_35 (SH_spot hb0 (inb_lt g_1)) rfl dX1_noteStanders_38 ?_
      refine s_if_eq (pc := 41) (tgt := 97) C dX1_noteStanders_41 (by decide) (fun h_2 => ?_) (fun h_2 => ?_)
      · replace hf := ifp h_2 hf
        refine s_iinc (pc := 97) (v := (v1 + 1)) (lo' := [some (.ref (ad (2 + b0))), some (.int (v1 + 1)), some (.int v2)]) C dX1_noteStanders_97 rfl rfl rfl ?_
        refine s_goto (pc := 100) (tgt := 2) C dX1_noteStanders_100 (by decide) ?_
        refine s_few (lo' := [some (.ref (ad (2 + b0))), some (.int (v1 + 1)), none]) (lfS (lfS (lfN lf0))) ?_
        exact hk2 (v1 + 1) σ hf
      · replace hf := ifn h_2 hf
        refine s_aloadn (pc := 44) C dX1_noteStanders_44 rfl ?_
        refine s_getR (pc := 45) (r := (11 + b0)) C fl_X1_23 (SH_plan hb0) rfl dX1_noteStanders_45 ?_
        refine s_iloadn (pc := 48) C dX1_noteStanders_48 rfl ?_
        obtain ⟨g_2, hf⟩ := gd hf
        refine s_aald (pc := 49) C (SH_spots hb0) (ty2 ca) g_2 dX1_noteStanders_49 ?_
        refine s_getZ (pc := 50) C fl_X1_35 (SH_spot hb0 (inb_lt g_2)) rfl dX1_noteStanders_50 ?_
        refine s_if_eq (pc := 53) (tgt := 91) C dX1_noteStanders_53 (by decide) (fun h_3 => ?_) (fun h_3 => ?_)
        · replace hf := ifp h_3 hf
          refine s_iinc (pc := 91) (v := (v2 + 1)) (lo' := [some (.ref (ad (2 + b0))), some (.int v1), some (.int (v2 + 1))]) C dX1_noteStanders_91 rfl rfl rfl ?_
          refine s_goto (pc := 94) (tgt := 23) C dX1_noteStanders_94 (by decide) ?_
          refine s_few (lo' := [some (.ref (ad (2 + b0))), some (.int v1), some (.int (v2 + 1))]) (lfS (lfS (lfS lf0))) ?_
          exact ih v1 (v2 + 1) σ hf
        · replace hf := ifn h_3 hf
          refine s_aloadn (pc := 56) C dX1_noteStanders_56 rfl ?_
          refine s_getR (pc := 57) (r := (11 + b0)) C fl_X1_23 (SH_plan hb0) rfl dX1_noteStanders_57 ?_
          refine s_iloadn (pc := 60) C dX1_noteStanders_60 rfl ?_
          obtain ⟨g_3, hf⟩ := gd hf
          refine s_aald (pc := 61) C (SH_spots hb0) (ty2 ca) g_3 dX1_noteStanders_61 ?_
          refine s_aloadn (pc := 62) C dX1_noteStanders_62 rfl ?_
          refine s_getR (pc := 63) (r := (11 + b0)) C fl_X1_23 (SH_plan hb0) rfl dX1_noteStanders_63 ?_
          refine s_iloadn (pc := 66) C dX1_noteStanders_66 rfl ?_
          obtain ⟨g_4, hf⟩ := gd hf
          refine s_aald (pc := 67) C (SH_spots hb0) (ty2 ca) g_4 dX1_noteStanders_67 ?_
          obtain ⟨r_1, τ_1, e_1, hf⟩ := bnd hf
          refine s_callV (pc := 68) (rest := []) C rfl (c_X2_standsOn l D ca ad N (13 + 6 * b0 + ix v2) (SH_spot hb0 (inb_lt g_3)) (13 + 6 * b0 + ix v1) (SH_spot hb0 (inb_lt g_4)) σ r_1 τ_1 e_1) kv_X1_99 ⟨rfl, rfl⟩ (by decide) (SH_spot hb0 (inb_lt g_3)) ⟨_, rfl, rfl⟩ rfl rfl (Nat.le_of_ble_eq_true rfl) dX1_noteStanders_68 ⟨Nat.zero_le _, Nat.zero_le _⟩ ?_
          refine s_st (st' := [.int r_1]) rfl ?_
          refine s_if_eq (pc := 71) (tgt := 91) C dX1_noteStanders_71 (by decide) (fun h_4 => ?_) (fun h_4 => ?_)
          · replace hf := ifp h_4 hf
            refine s_iinc (pc := 91) (v := (v2 + 1)) (lo' := [some (.ref (ad (2 + b0))), some (.int v1), some (.int (v2 + 1))]) C dX1_noteStanders_91 rfl rfl rfl ?_
            refine s_goto (pc := 94) (tgt := 23) C dX1_noteStanders_94 (by decide) ?_
            refine s_few (lo' := [some (.ref (ad (2 + b0))), some (.int v1), some (.int (v2 + 1))]) (lfS (lfS (lfS lf0))) ?_
            exact ih v1 (v2 + 1) τ_1 hf
          · replace hf := ifn h_4 hf
            refine s_aloadn (pc := 74) C dX1_noteStanders_74 rfl ?_
            refine s_getR (pc := 75) (r := (11 + b0)) C fl_X1_23 (SH_plan hb0) rfl dX1_noteStanders_75 ?_
            refine s_iloadn (pc := 78) C dX1_noteStanders_78 rfl ?_
            obtain ⟨g_5, hf⟩ := gd hf
            refine s_aald (pc := 79) C (SH_spots hb0) (ty2 ca) g_5 dX1_noteStanders_79 ?_
            refine s_dup (pc := 80) C dX1_noteStanders_80 rfl ?_
            refine s_getI (pc := 81) C fl_X1_114 (SH_spot hb0 (inb_lt g_5)) rfl dX1_noteStanders_81 ?_
            refine s_iconst (pc := 84) (v := 1) C dX1_noteStanders_84 (by decide) ?_
            refine s_iloadn (pc := 85) C dX1_noteStanders_85 rfl ?_
            refine s_ishl (pc := 86) C dX1_noteStanders_86 ?_
            refine s_ior (pc := 87) C dX1_noteStanders_87 ?_
            refine s_putI (pc := 88) C fp_X1_114 (SH_spot hb0 (inb_lt g_5)) rfl dX1_noteStanders_88 ?_
            refine s_iinc (pc := 91) (v := (v2 + 1)) (lo' := [some (.ref (ad (2 + b0))), some (.int v1), some (.int (v2 + 1))]) C dX1_noteStanders_91 rfl rfl rfl ?_
            refine s_goto (pc := 94) (tgt := 23) C dX1_noteStanders_94 (by decide) ?_
            refine s_few (lo' := [some (.ref (ad (2 + b0))), some (.int v1), some (.int (v2 + 1))]) (lfS (lfS (lfS lf0))) ?_
            exact ih v1 (v2 + 1) (su τ_1 (13 + 6 * b0 + ix v1) 10 ((τ_1 (13 + 6 * b0 + ix v1) 10) ||| (1 <<< (v2 &&& 31)))) hf
def lp_X1_noteStanders_2 (N : Nat) (b0 : Nat) : Nat → Int32 → St → Option (St)
  | 0, _, _ => none
  | n + 1, v1, σ =>
    if 6 ≤ v1 then
      some σ
    else
      if inb v1 6 = true then
      lp_X1_noteStanders_23 N b0 (fun w1 σ => lp_X1_noteStanders_2 N b0  n w1 σ) N v1 0 (su σ (13 + 6 * b0 + ix v1) 10 0)
      else none
set_option maxRecDepth 100000 in
set_option maxHeartbeats 4000000 in
theorem w_X1_noteStanders_2 {l : Launch} {D : va_G} {ca : Nat → ClassId} {ad : Nat → Nat} {p : Program} {e : Env} {s : State} {m : MethodId} {args : Array Value} {below : List Frame} {meth : Method} {c : Code} {A : Nat → Prop} (C : CX p s m args c D ca A RX1 cX1_noteStanders 3) (hr : meth.sig.returnType = none) (hlk : meth.locks = false) (N : Nat) (b0 : Nat) (hb0 : b0 < 2) (τ : St)  : ∀ (n : Nat) (v1 : Int32) (σ : St), lp_X1_noteStanders_2 N b0  n v1 σ = some τ → WW p l e (rmk 2) s m args below meth c 0 0 (EQ D ca ad SH A below args s none τ) A D ca ad SH 2 [some (.ref (ad (2 + b0))), some (.int v1), none] [] σ := by
  intro n
  induction n with
  | zero => intro v1 σ hf; cases hf
  | succ n ih =>
    intro v1 σ hf
    rw [lp_X1_noteStanders_2] at hf
    refine s_iloadn (pc := 2) C dX1_noteStanders_2 rfl ?_
    refine s_aloadn (pc := 3) C dX1_noteStanders_3 rfl ?_
    refine s_getR (pc := 4) (r := (11 + b0)) C fl_X1_23 (SH_plan hb0) rfl dX1_noteStanders_4 ?_
    refine s_alenI (pc := 7) (v := 6) C (SH_spots hb0) (ty2 ca) (by decide) dX1_noteStanders_7 ?_
    refine s_icmp_ge (pc := 8) (tgt := 103) C dX1_noteStanders_8 (by decide) (fun h_1 => ?_) (fun h_1 => ?_)
    · replace hf := ifp h_1 hf
      exact s_vret (pc := 103) C hr hlk dX1_noteStanders_103 rfl (rtv hf)
    · replace hf := ifn h_1 hf
      refine s_aloadn (pc := 11) C dX1_noteStanders_11 rfl ?_
      refine s_getR (pc := 12) (r := (11 + b0)) C fl_X1_23 (SH_plan hb0) rfl dX1_noteStanders_12 ?_
      refine s_iloadn (pc := 15) C dX1_noteStanders_15 rfl ?_
      obtain ⟨g_1, hf⟩ := gd hf
      refine s_aald (pc := 16) C (SH_spots hb0) (ty2 ca) g_1 dX1_noteStanders_16 ?_
      refine s_iconst (pc := 17) (v := 0) C dX1_noteStanders_17 (by decide) ?_
      refine s_putI (pc := 18) C fp_X1_114 (SH_spot hb0 (inb_lt g_1)) rfl dX1_noteStanders_18 ?_
      refine s_iconst (pc := 21) (v := 0) C dX1_noteStanders_21 (by decide) ?_
      refine s_istoren (pc := 22) (lo' := [some (.ref (ad (2 + b0))), some (.int v1), some (.int 0)]) C dX1_noteStanders_22 (Nat.le_of_ble_eq_true rfl) rfl ?_
      refine s_few (lo' := [some (.ref (ad (2 + b0))), some (.int v1), some (.int 0)]) (lfS (lfS (lfS lf0))) ?_
      exact w_X1_noteStanders_23 C hr hlk N b0 hb0 τ (fun w1 σ => lp_X1_noteStanders_2 N b0  n w1 σ) (fun w1 σ h => ih w1 σ h) N v1 0 (su σ (13 + 6 * b0 + ix v1) 10 0) hf
def f_X1_noteStanders (N : Nat) (b0 : Nat) (σ : St) : Option (St) :=
  lp_X1_noteStanders_2 N b0 N 0 σ
set_option maxRecDepth 100000 in
set_option maxHeartbeats 4000000 in
theorem c_X1_noteStanders (l : Launch) (D : va_G) (ca : Nat → ClassId) (ad : Nat → Nat) (N : Nat) (b0 : Nat) (hb0 : b0 < 2) (σ : St) (τ : St) (hf : f_X1_noteStanders N b0 σ = some τ) : cM l yX1_noteStanders (.code yX1_noteStanders cX1_noteStanders 3 none) (rmk 2) D ca ad SH [.ref (ad (2 + b0))] σ none τ := by
  refine cM.intro2 (own := RX1) (lo := [some (.ref (ad (2 + b0))), none, none]) (by decide) rfl (ccR cc0) (Nat.le_of_ble_eq_true rfl) rfl ?_
  intro p e s m args below meth c A C hr hlk
  unfold f_X1_noteStanders at hf
  refine s_iconst (pc := 0) (v := 0) C dX1_noteStanders_0 (by decide) ?_
  refine s_istoren (pc := 1) (lo' := [some (.ref (ad (2 + b0))), some (.int 0), none]) C dX1_noteStanders_1 (Nat.le_of_ble_eq_true rfl) rfl ?_
  refine s_few (lo' := [some (.ref (ad (2 + b0))), some (.int 0), none]) (lfS (lfS (lfN lf0))) ?_
  exact w_X1_noteStanders_2 C hr hlk N b0 hb0 τ  N 0 σ hf
def lp_X1_weightOn_80 (N : Nat) (b0 : Nat) (q1 : Nat) : Nat → Int32 → Int32 → Int32 → Int32 → St → Option (Int32 × St)
  | 0, _, _, _, _, _ => none
  | n + 1, v2, v3, v4, v5, σ =>
    if 6 ≤ v5 then
      some (v4, σ)
    else
      bn (f_X3_isIn N v2 v5 σ) fun r_1 τ_1 =>
      if r_1 = 0 then
        lp_X1_weightOn_80 N b0 q1  n v2 v3 v4 (v5 + 1) τ_1
      else
        if inb v5 6 = true then
        lp_X1_weightOn_80 N b0 q1  n v2 v3 (v4 + (τ_1 (13 + 6 * b0 + ix v5) 8)) (v5 + 1) τ_1
        else none
set_option maxRecDepth 100000 in
set_option maxHeartbeats 4000000 in
theorem w_X1_weightOn_80 {l : Launch} {D : va_G} {ca : Nat → ClassId} {ad : Nat → Nat} {p : Program} {e : Env} {s : State} {m : MethodId} {args : Array Value} {below : List Frame} {meth : Method} {c : Code} {A : Nat → Prop} (C : CX p s m args c D ca A RX1 cX1_weightOn 6) (hr : meth.sig.returnType = (some .int)) (hlk : meth.locks = false) (N : Nat) (b0 : Nat) (hb0 : b0 < 2) (q1 : Nat) (hq1 : SH[q1]? = some oSpot) (r : Int32) (τ : St)  : ∀ (n : Nat) (v2 v3 v4 v5 : Int32) (σ : St), lp_X1_weightOn_80 N b0 q1  n v2 v3 v4 v5 σ = some (r, τ) → WW p l e (rmk 1) s m args below meth c 0 0 (EQ D ca ad SH A below args s (some (.int r)) τ) A D ca ad SH 80 [some (.ref (ad (2 + b0))), some (.ref (ad q1)), some (.int v2), some (.int v3), some (.int v4), some (.int v5)] [] σ := by
  intro n
  induction n with
  | zero => intro v2 v3 v4 v5 σ hf; cases hf
  | succ n ih =>
    intro v2 v3 v4 v5 σ hf
    rw [lp_X1_weightOn_80] at hf
    refine s_iload (pc := 80) C dX1_weightOn_80 rfl ?_
    refine s_aloadn (pc := 82) C dX1_weightOn_82 rfl ?_
    refine s_getR (pc := 83) (r := (11 + b0)) C fl_X1_23 (SH_plan hb0) rfl dX1_weightOn_83 ?_
    refine s_alenI (pc := 86) (v := 6) C (SH_spots hb0) (ty2 ca) (by decide) dX1_weightOn_86 ?_
    refine s_icmp_ge (pc := 87) (tgt := 120) C dX1_weightOn_87 (by decide) (fun h_1 => ?_) (fun h_1 => ?_)
    · replace hf := ifp h_1 hf
      refine s_iload (pc := 120) C dX1_weightOn_120 rfl ?_
      exact s_iret (pc := 122) C hr hlk dX1_weightOn_122 (congrArg (fun z => some (Value.int z)) (rt hf).1) (rt hf).2
    · replace hf := ifn h_1 hf
      refine s_iloadn (pc := 90) C dX1_weightOn_90 rfl ?_
      refine s_iload (pc := 91) C dX1_weightOn_91 rfl ?_
      obtain ⟨r_1, τ_1, e_1, hf⟩ := bnd hf
      refine s_callN (pc := 93) (rest := []) C rfl (c_X3_isIn l D ca ad N v2 v5 σ r_1 τ_1 e_1) kn_X1_117 ⟨rfl, rfl⟩ (by decide) rfl rfl (Nat.le_of_ble_eq_true rfl) dX1_weightOn_93 ⟨Nat.zero_le _, Nat.zero_le _⟩ ?_
      refine s_st (st' := [.int r_1]) rfl ?_
      refine s_if_eq (pc := 96) (tgt := 114) C dX1_weightOn_96 (by decide) (fun h_2 => ?_) (fun h_2 => ?_)
      · replace hf := ifp h_2 hf
        refine s_iinc (pc := 114) (v := (v5 + 1)) (lo' := [some (.ref (ad (2 + b0))), some (.ref (ad q1)), some (.int v2), some (.int v3), some (.int v4), some (.int (v5 + 1))]) C dX1_weightOn_114 rfl rfl rfl ?_
        refine s_goto (pc := 117) (tgt := 80) C dX1_weightOn_117 (by decide) ?_
        refine s_few (lo' := [some (.ref (ad (2 + b0))), some (.ref (ad q1)), some (.int v2), some (.int v3), some (.int v4), some (.int (v5 + 1))]) (lfS (lfS (lfS (lfS (lfS (lfS lf0)))))) ?_
        exact ih v2 v3 v4 (v5 + 1) τ_1 hf
      · replace hf := ifn h_2 hf
        refine s_iload (pc := 99) C dX1_weightOn_99 rfl ?_
        refine s_aloadn (pc := 101) C dX1_weightOn_101 rfl ?_
        refine s_getR (pc := 102) (r := (11 + b0)) C fl_X1_23 (SH_plan hb0) rfl dX1_weightOn_102 ?_
        refine s_iload (pc := 105) C dX1_weightOn_105 rfl ?_
        obtain ⟨g_1, hf⟩ := gd hf
        refine s_aald (pc := 107) C (SH_spots hb0) (ty2 ca) g_1 dX1_weightOn_107 ?_
        refine s_getI (pc := 108) C fl_X1_47 (SH_spot hb0 (inb_lt g_1)) rfl dX1_weightOn_108 ?_
        refine s_iadd (pc := 111) C dX1_weightOn_111 ?_
        refine s_istore (pc := 112) (lo' := [some (.ref (ad (2 + b0))), some (.ref (ad q1)), some (.int v2), some (.int v3), some (.int (v4 + (τ_1 (13 + 6 * b0 + ix v5) 8))), some (.int v5)]) C dX1_weightOn_112 (Nat.le_of_ble_eq_true rfl) rfl ?_
        refine s_iinc (pc := 114) (v := (v5 + 1)) (lo' := [some (.ref (ad (2 + b0))), some (.ref (ad q1)), some (.int v2), some (.int v3), some (.int (v4 + (τ_1 (13 + 6 * b0 + ix v5) 8))), some (.int (v5 + 1))]) C dX1_weightOn_114 rfl rfl rfl ?_
        refine s_goto (pc := 117) (tgt := 80) C dX1_weightOn_117 (by decide) ?_
        refine s_few (lo' := [some (.ref (ad (2 + b0))), some (.ref (ad q1)), some (.int v2), some (.int v3), some (.int (v4 + (τ_1 (13 + 6 * b0 + ix v5) 8))), some (.int (v5 + 1))]) (lfS (lfS (lfS (lfS (lfS (lfS lf0)))))) ?_
        exact ih v2 v3 (v4 + (τ_1 (13 + 6 * b0 + ix v5) 8)) (v5 + 1) τ_1 hf
def lp_X1_weightOn_30 (N : Nat) (b0 : Nat) (q1 : Nat) (k10 : Int32 → Int32 → Int32 → St → Option (Int32 × St)) : Nat → Int32 → Int32 → Int32 → Int32 → St → Option (Int32 × St)
  | 0, _, _, _, _, _ => none
  | n + 1, v2, v3, v4, v5, σ =>
    if 6 ≤ v5 then
      k10 v2 v3 (v4 + 1) σ
    else
      bn (f_X3_isIn N v2 v5 σ) fun r_1 τ_1 =>
      if r_1 = 0 then
        lp_X1_weightOn_30 N b0 q1 k10 n v2 v3 v4 (v5 + 1) τ_1
      else
        if inb v5 6 = true then
        lp_X1_weightOn_30 N b0 q1 k10 n (v2 ||| (τ_1 (13 + 6 * b0 + ix v5) 10)) v3 v4 (v5 + 1) τ_1
        else none
set_option maxRecDepth 100000 in
set_option maxHeartbeats 4000000 in
theorem w_X1_weightOn_30 {l : Launch} {D : va_G} {ca : Nat → ClassId} {ad : Nat → Nat} {p : Program} {e : Env} {s : State} {m : MethodId} {args : Array Value} {below : List Frame} {meth : Method} {c : Code} {A : Nat → Prop} (C : CX p s m args c D ca A RX1 cX1_weightOn 6) (hr : meth.sig.returnType = (some .int)) (hlk : meth.locks = false) (N : Nat) (b0 : Nat) (hb0 : b0 < 2) (q1 : Nat) (hq1 : SH[q1]? = some oSpot) (r : Int32) (τ : St) (k10 : Int32 → Int32 → Int32 → St → Option (Int32 × St))  (hk10 : ∀ (w2 w3 w4 : Int32) (σ : St), k10 w2 w3 w4 σ = some (r, τ) → WW p l e (rmk 1) s m args below meth c 0 0 (EQ D ca ad SH A below args s (some (.int r)) τ) A D ca ad SH 10 [some (.ref (ad (2 + b0))), some (.ref (ad q1)), some (.int w2), some (.int w3), some (.int w4), none] [] σ) : ∀ (n : Nat) (v2 v3 v4 v5 : Int32) (σ : St), lp_X1_weightOn_30 N b0 q1 k10 n v2 v3 v4 v5 σ = some (r, τ) → WW p l e (rmk 1) s m args below meth c 0 0 (EQ D ca ad SH A below args s (some (.int r)) τ) A D ca ad SH 30 [some (.ref (ad (2 + b0))), some (.ref (ad q1)), some (.int v2), some (.int v3), some (.int v4), some (.int v5)] [] σ := by
  intro n
  induction n with
  | zero => intro v2 v3 v4 v5 σ hf; cases hf
  | succ n ih =>
    intro v2 v3 v4 v5 σ hf
    rw [lp_X1_weightOn_30] at hf
    refine s_iload (pc := 30) C dX1_weightOn_30 rfl ?_
    refine s_aloadn (pc := 32) C dX1_weightOn_32 rfl ?_
    refine s_getR (pc := 33) (r := (11 + b0)) C fl_X1_23 (SH_plan hb0) rfl dX1_weightOn_33 ?_
    refine s_alenI (pc := 36) (v := 6) C (SH_spots hb0) (ty2 ca) (by decide) dX1_weightOn_36 ?_
    refine s_icmp_ge (pc := 37) (tgt := 68) C dX1_weightOn_37 (by decide) (fun h_1 => ?_) (fun h_1 => ?_)
    · replace hf := ifp h_1 hf
      refine s_iinc (pc := 68) (v := (v4 + 1)) (lo' := [some (.ref (ad (2 + b0))), some (.ref (ad q1)), some (.int v2), some (.int v3), some (.int (v4 + 1)), some (.int v5)]) C dX1_weightOn_68 rfl rfl rfl ?_
      refine s_goto (pc := 71) (tgt := 10) C dX1_weightOn_71 (by decide) ?_
      refine s_few (lo' := [some (.ref (ad (2 + b0))), some (.ref (ad q1)), some (.int v2), some (.int v3), some (.int (v4 + 1)), none]) (lfS (lfS (lfS (lfS (lfS (lfN lf0)))))) ?_
      exact hk10 v2 v3 (v4 + 1) σ hf
    · replace hf := ifn h_1 hf
      refine s_iloadn (pc := 40) C dX1_weightOn_40 rfl ?_
      refine s_iload (pc := 41) C dX1_weightOn_41 rfl ?_
      obtain ⟨r_1, τ_1, e_1, hf⟩ := bnd hf
      refine s_callN (pc := 43) (rest := []) C rfl (c_X3_isIn l D ca ad N v2 v5 σ r_1 τ_1 e_1) kn_X1_117 ⟨rfl, rfl⟩ (by decide) rfl rfl (Nat.le_of_ble_eq_true rfl) dX1_weightOn_43 ⟨Nat.zero_le _, Nat.zero_le _⟩ ?_
      refine s_st (st' := [.int r_1]) rfl ?_
      refine s_if_eq (pc := 46) (tgt := 62) C dX1_weightOn_46 (by decide) (fun h_2 => ?_) (fun h_2 => ?_)
      · replace hf := ifp h_2 hf
        refine s_iinc (pc := 62) (v := (v5 + 1)) (lo' := [some (.ref (ad (2 + b0))), some (.ref (ad q1)), some (.int v2), some (.int v3), some (.int v4), some (.int (v5 + 1))]) C dX1_weightOn_62 rfl rfl rfl ?_
        refine s_goto (pc := 65) (tgt := 30) C dX1_weightOn_65 (by decide) ?_
        refine s_few (lo' := [some (.ref (ad (2 + b0))), some (.ref (ad q1)), some (.int v2), some (.int v3), some (.int v4), some (.int (v5 + 1))]) (lfS (lfS (lfS (lfS (lfS (lfS lf0)))))) ?_
        exact ih v2 v3 v4 (v5 + 1) τ_1 hf
      · replace hf := ifn h_2 hf
        refine s_iloadn (pc := 49) C dX1_weightOn_49 rfl ?_
        refine s_aloadn (pc := 50) C dX1_weightOn_50 rfl ?_
        refine s_getR (pc := 51) (r := (11 + b0)) C fl_X1_23 (SH_plan hb0) rfl dX1_weightOn_51 ?_
        refine s_iload (pc := 54) C dX1_weightOn_54 rfl ?_
        obtain ⟨g_1, hf⟩ := gd hf
        refine s_aald (pc := 56) C (SH_spots hb0) (ty2 ca) g_1 dX1_weightOn_56 ?_
        refine s_getI (pc := 57) C fl_X1_114 (SH_spot hb0 (inb_lt g_1)) rfl dX1_weightOn_57 ?_
        refine s_ior (pc := 60) C dX1_weightOn_60 ?_
        refine s_istoren (pc := 61) (lo' := [some (.ref (ad (2 + b0))), some (.ref (ad q1)), some (.int (v2 ||| (τ_1 (13 + 6 * b0 + ix v5) 10))), some (.int v3), some (.int v4), some (.int v5)]) C dX1_weightOn_61 (Nat.le_of_ble_eq_true rfl) rfl ?_
        refine s_iinc (pc := 62) (v := (v5 + 1)) (lo' := [some (.ref (ad (2 + b0))), some (.ref (ad q1)), some (.int (v2 ||| (τ_1 (13 + 6 * b0 + ix v5) 10))), some (.int v3), some (.int v4), some (.int (v5 + 1))]) C dX1_weightOn_62 rfl rfl rfl ?_
        refine s_goto (pc := 65) (tgt := 30) C dX1_weightOn_65 (by decide) ?_
        refine s_few (lo' := [some (.ref (ad (2 + b0))), some (.ref (ad q1)), some (.int (v2 ||| (τ_1 (13 + 6 * b0 + ix v5) 10))), some (.int v3), some (.int v4), some (.int (v5 + 1))]) (lfS (lfS (lfS (lfS (lfS (lfS lf0)))))) ?_
        exact ih (v2 ||| (τ_1 (13 + 6 * b0 + ix v5) 10)) v3 v4 (v5 + 1) τ_1 hf
def lp_X1_weightOn_10 (N : Nat) (b0 : Nat) (q1 : Nat) : Nat → Int32 → Int32 → Int32 → St → Option (Int32 × St)
  | 0, _, _, _, _ => none
  | n + 1, v2, v3, v4, σ =>
    if 6 ≤ v4 then
      lp_X1_weightOn_80 N b0 q1 N v2 v3 0 0 σ
    else
      if v3 = v2 then
        lp_X1_weightOn_80 N b0 q1 N v2 v3 0 0 σ
      else
        lp_X1_weightOn_30 N b0 q1 (fun w2 w3 w4 σ => lp_X1_weightOn_10 N b0 q1  n w2 w3 w4 σ) N v2 v2 v4 0 σ
set_option maxRecDepth 100000 in
set_option maxHeartbeats 4000000 in
theorem w_X1_weightOn_10 {l : Launch} {D : va_G} {ca : Nat → ClassId} {ad : Nat → Nat} {p : Program} {e : Env} {s : State} {m : MethodId} {args : Array Value} {below : List Frame} {meth : Method} {c : Code} {A : Nat → Prop} (C : CX p s m args c D ca A RX1 cX1_weightOn 6) (hr : meth.sig.returnType = (some .int)) (hlk : meth.locks = false) (N : Nat) (b0 : Nat) (hb0 : b0 < 2) (q1 : Nat) (hq1 : SH[q1]? = some oSpot) (r : Int32) (τ : St)  : ∀ (n : Nat) (v2 v3 v4 : Int32) (σ : St), lp_X1_weightOn_10 N b0 q1  n v2 v3 v4 σ = some (r, τ) → WW p l e (rmk 1) s m args below meth c 0 0 (EQ D ca ad SH A below args s (some (.int r)) τ) A D ca ad SH 10 [some (.ref (ad (2 + b0))), some (.ref (ad q1)), some (.int v2), some (.int v3), some (.int v4), none] [] σ := by
  intro n
  induction n with
  | zero => intro v2 v3 v4 σ hf; cases hf
  | succ n ih =>
    intro v2 v3 v4 σ hf
    rw [lp_X1_weightOn_10] at hf
    refine s_iload (pc := 10) C dX1_weightOn_10 rfl ?_
    refine s_aloadn (pc := 12) C dX1_weightOn_12 rfl ?_
    refine s_getR (pc := 13) (r := (11 + b0)) C fl_X1_23 (SH_plan hb0) rfl dX1_weightOn_13 ?_
    refine s_alenI (pc := 16) (v := 6) C (SH_spots hb0) (ty2 ca) (by decide) dX1_weightOn_16 ?_
    refine s_icmp_ge (pc := 17) (tgt := 74) C dX1_weightOn_17 (by decide) (fun h_1 => ?_) (fun h_1 => ?_)
    · replace hf := ifp h_1 hf
      refine s_iconst (pc := 74) (v := 0) C dX1_weightOn_74 (by decide) ?_
      refine s_istore (pc := 75) (lo' := [some (.ref (ad (2 + b0))), some (.ref (ad q1)), some (.int v2), some (.int v3), some (.int 0), none]) C dX1_weightOn_75 (Nat.le_of_ble_eq_true rfl) rfl ?_
      refine s_iconst (pc := 77) (v := 0) C dX1_weightOn_77 (by decide) ?_
      refine s_istore (pc := 78) (lo' := [some (.ref (ad (2 + b0))), some (.ref (ad q1)), some (.int v2), some (.int v3), some (.int 0), some (.int 0)]) C dX1_weightOn_78 (Nat.le_of_ble_eq_true rfl) rfl ?_
      refine s_few (lo' := [some (.ref (ad (2 + b0))), some (.ref (ad q1)), some (.int v2), some (.int v3), some (.int 0), some (.int 0)]) (lfS (lfS (lfS (lfS (lfS (lfS lf0)))))) ?_
      exact w_X1_weightOn_80 C hr hlk N b0 hb0 q1 hq1 r τ  N v2 v3 0 0 σ hf
    · replace hf := ifn h_1 hf
      refine s_iloadn (pc := 20) C dX1_weightOn_20 rfl ?_
      refine s_iloadn (pc := 21) C dX1_weightOn_21 rfl ?_
      refine s_icmp_eq (pc := 22) (tgt := 74) C dX1_weightOn_22 (by decide) (fun h_2 => ?_) (fun h_2 => ?_)
      · replace hf := ifp h_2 hf
        refine s_iconst (pc := 74) (v := 0) C dX1_weightOn_74 (by decide) ?_
        refine s_istore (pc := 75) (lo' := [some (.ref (ad (2 + b0))), some (.ref (ad q1)), some (.int v2), some (.int v3), some (.int 0), none]) C dX1_weightOn_75 (Nat.le_of_ble_eq_true rfl) rfl ?_
        refine s_iconst (pc := 77) (v := 0) C dX1_weightOn_77 (by decide) ?_
        refine s_istore (pc := 78) (lo' := [some (.ref (ad (2 + b0))), some (.ref (ad q1)), some (.int v2), some (.int v3), some (.int 0), some (.int 0)]) C dX1_weightOn_78 (Nat.le_of_ble_eq_true rfl) rfl ?_
        refine s_few (lo' := [some (.ref (ad (2 + b0))), some (.ref (ad q1)), some (.int v2), some (.int v3), some (.int 0), some (.int 0)]) (lfS (lfS (lfS (lfS (lfS (lfS lf0)))))) ?_
        exact w_X1_weightOn_80 C hr hlk N b0 hb0 q1 hq1 r τ  N v2 v3 0 0 σ hf
      · replace hf := ifn h_2 hf
        refine s_iloadn (pc := 25) C dX1_weightOn_25 rfl ?_
        refine s_istoren (pc := 26) (lo' := [some (.ref (ad (2 + b0))), some (.ref (ad q1)), some (.int v2), some (.int v2), some (.int v4), none]) C dX1_weightOn_26 (Nat.le_of_ble_eq_true rfl) rfl ?_
        refine s_iconst (pc := 27) (v := 0) C dX1_weightOn_27 (by decide) ?_
        refine s_istore (pc := 28) (lo' := [some (.ref (ad (2 + b0))), some (.ref (ad q1)), some (.int v2), some (.int v2), some (.int v4), some (.int 0)]) C dX1_weightOn_28 (Nat.le_of_ble_eq_true rfl) rfl ?_
        refine s_few (lo' := [some (.ref (ad (2 + b0))), some (.ref (ad q1)), some (.int v2), some (.int v2), some (.int v4), some (.int 0)]) (lfS (lfS (lfS (lfS (lfS (lfS lf0)))))) ?_
        exact w_X1_weightOn_30 C hr hlk N b0 hb0 q1 hq1 r τ (fun w2 w3 w4 σ => lp_X1_weightOn_10 N b0 q1  n w2 w3 w4 σ) (fun w2 w3 w4 σ h => ih w2 w3 w4 σ h) N v2 v2 v4 0 σ hf
def f_X1_weightOn (N : Nat) (b0 : Nat) (q1 : Nat) (σ : St) : Option (Int32 × St) :=
  lp_X1_weightOn_10 N b0 q1 N (σ q1 10) 0 0 σ
set_option maxRecDepth 100000 in
set_option maxHeartbeats 4000000 in
theorem c_X1_weightOn (l : Launch) (D : va_G) (ca : Nat → ClassId) (ad : Nat → Nat) (N : Nat) (b0 : Nat) (hb0 : b0 < 2) (q1 : Nat) (hq1 : SH[q1]? = some oSpot) (σ : St) (r : Int32) (τ : St) (hf : f_X1_weightOn N b0 q1 σ = some (r, τ)) : cM l yX1_weightOn (.code yX1_weightOn cX1_weightOn 6 (some .int)) (rmk 1) D ca ad SH [.ref (ad (2 + b0)), .ref (ad q1)] σ (some (.int r)) τ := by
  refine cM.intro2 (own := RX1) (lo := [some (.ref (ad (2 + b0))), some (.ref (ad q1)), none, none, none, none]) (by decide) rfl (ccR (ccR cc0)) (Nat.le_of_ble_eq_true rfl) rfl ?_
  intro p e s m args below meth c A C hr hlk
  unfold f_X1_weightOn at hf
  refine s_aloadn (pc := 0) C dX1_weightOn_0 rfl ?_
  refine s_getI (pc := 1) C fl_X1_114 hq1 rfl dX1_weightOn_1 ?_
  refine s_istoren (pc := 4) (lo' := [some (.ref (ad (2 + b0))), some (.ref (ad q1)), some (.int (σ q1 10)), none, none, none]) C dX1_weightOn_4 (Nat.le_of_ble_eq_true rfl) rfl ?_
  refine s_iconst (pc := 5) (v := 0) C dX1_weightOn_5 (by decide) ?_
  refine s_istoren (pc := 6) (lo' := [some (.ref (ad (2 + b0))), some (.ref (ad q1)), some (.int (σ q1 10)), some (.int 0), none, none]) C dX1_weightOn_6 (Nat.le_of_ble_eq_true rfl) rfl ?_
  refine s_iconst (pc := 7) (v := 0) C dX1_weightOn_7 (by decide) ?_
  refine s_istore (pc := 8) (lo' := [some (.ref (ad (2 + b0))), some (.ref (ad q1)), some (.int (σ q1 10)), some (.int 0), some (.int 0), none]) C dX1_weightOn_8 (Nat.le_of_ble_eq_true rfl) rfl ?_
  refine s_few (lo' := [some (.ref (ad (2 + b0))), some (.ref (ad q1)), some (.int (σ q1 10)), some (.int 0), some (.int 0), none]) (lfS (lfS (lfS (lfS (lfS (lfN lf0)))))) ?_
  exact w_X1_weightOn_10 C hr hlk N b0 hb0 q1 hq1 r τ  N (σ q1 10) 0 0 σ hf
def lp_X1_weightsAreBorne_6 (N : Nat) (b0 : Nat) : Nat → Int32 → St → Option (Int32 × St)
  | 0, _, _ => none
  | n + 1, v1, σ =>
    if 6 ≤ v1 then
      some (1, σ)
    else
      if inb v1 6 = true then
      if (σ (13 + 6 * b0 + ix v1) 0 &&& 1) = 0 then
        lp_X1_weightsAreBorne_6 N b0  n (v1 + 1) σ
      else
        if inb v1 6 = true then
        if (σ (13 + 6 * b0 + ix v1) 9) = (-1) then
          lp_X1_weightsAreBorne_6 N b0  n (v1 + 1) σ
        else
          if inb v1 6 = true then
          bn (f_X1_weightOn N b0 (13 + 6 * b0 + ix v1) σ) fun r_1 τ_1 =>
          if inb v1 6 = true then
          if r_1 ≤ (τ_1 (13 + 6 * b0 + ix v1) 9) then
            lp_X1_weightsAreBorne_6 N b0  n (v1 + 1) τ_1
          else
            some (0, τ_1)
          else none
          else none
        else none
      else none
set_option maxRecDepth 100000 in
set_option maxHeartbeats 4000000 in
theorem w_X1_weightsAreBorne_6 {l : Launch} {D : va_G} {ca : Nat → ClassId} {ad : Nat → Nat} {p : Program} {e : Env} {s : State} {m : MethodId} {args : Array Value} {below : List Frame} {meth : Method} {c : Code} {A : Nat → Prop} (C : CX p s m args c D ca A RX1 cX1_weightsAreBorne 2) (hr : meth.sig.returnType = (some .boolean)) (hlk : meth.locks = false) (N : Nat) (b0 : Nat) (hb0 : b0 < 2) (r : Int32) (τ : St)  : ∀ (n : Nat) (v1 : Int32) (σ : St), lp_X1_weightsAreBorne_6 N b0  n v1 σ = some (r, τ) → WW p l e (rmk 3) s m args below meth c 0 0 (EQ D ca ad SH A below args s (some (.int r)) τ) A D ca ad SH 6 [some (.ref (ad (2 + b0))), some (.int v1)] [] σ := by
  intro n
  induction n with
  | zero => intro v1 σ hf; cases hf
  | succ n ih =>
    intro v1 σ hf
    rw [lp_X1_weightsAreBorne_6] at hf
    refine s_iloadn (pc := 6) C dX1_weightsAreBorne_6 rfl ?_
    refine s_aloadn (pc := 7) C dX1_weightsAreBorne_7 rfl ?_
    refine s_getR (pc := 8) (r := (11 + b0)) C fl_X1_23 (SH_plan hb0) rfl dX1_weightsAreBorne_8 ?_
    refine s_alenI (pc := 11) (v := 6) C (SH_spots hb0) (ty2 ca) (by decide) dX1_weightsAreBorne_11 ?_
    refine s_icmp_ge (pc := 12) (tgt := 70) C dX1_weightsAreBorne_12 (by decide) (fun h_1 => ?_) (fun h_1 => ?_)
    · replace hf := ifp h_1 hf
      refine s_iconst (pc := 70) (v := 1) C dX1_weightsAreBorne_70 (by decide) ?_
      exact s_zret (pc := 71) C hr hlk dX1_weightsAreBorne_71 (by decide) (congrArg (fun z => some (Value.int z)) (rt hf).1) (rt hf).2
    · replace hf := ifn h_1 hf
      refine s_aloadn (pc := 15) C dX1_weightsAreBorne_15 rfl ?_
      refine s_getR (pc := 16) (r := (11 + b0)) C fl_X1_23 (SH_plan hb0) rfl dX1_weightsAreBorne_16 ?_
      refine s_iloadn (pc := 19) C dX1_weightsAreBorne_19 rfl ?_
      obtain ⟨g_1, hf⟩ := gd hf
      refine s_aald (pc := 20) C (SH_spots hb0) (ty2 ca) g_1 dX1_weightsAreBorne_20 ?_
      refine s_getZ (pc := 21) C fl_X1_35 (SH_spot hb0 (inb_lt g_1)) rfl dX1_weightsAreBorne_21 ?_
      refine s_if_eq (pc := 24) (tgt := 64) C dX1_weightsAreBorne_24 (by decide) (fun h_2 => ?_) (fun h_2 => ?_)
      · replace hf := ifp h_2 hf
        refine s_iinc (pc := 64) (v := (v1 + 1)) (lo' := [some (.ref (ad (2 + b0))), some (.int (v1 + 1))]) C dX1_weightsAreBorne_64 rfl rfl rfl ?_
        refine s_goto (pc := 67) (tgt := 6) C dX1_weightsAreBorne_67 (by decide) ?_
        refine s_few (lo' := [some (.ref (ad (2 + b0))), some (.int (v1 + 1))]) (lfS (lfS lf0)) ?_
        exact ih (v1 + 1) σ hf
      · replace hf := ifn h_2 hf
        refine s_aloadn (pc := 27) C dX1_weightsAreBorne_27 rfl ?_
        refine s_getR (pc := 28) (r := (11 + b0)) C fl_X1_23 (SH_plan hb0) rfl dX1_weightsAreBorne_28 ?_
        refine s_iloadn (pc := 31) C dX1_weightsAreBorne_31 rfl ?_
        obtain ⟨g_2, hf⟩ := gd hf
        refine s_aald (pc := 32) C (SH_spots hb0) (ty2 ca) g_2 dX1_weightsAreBorne_32 ?_
        refine s_getI (pc := 33) C fl_X1_108 (SH_spot hb0 (inb_lt g_2)) rfl dX1_weightsAreBorne_33 ?_
        refine s_iconst (pc := 36) (v := (-1)) C dX1_weightsAreBorne_36 (by decide) ?_
        refine s_icmp_eq (pc := 37) (tgt := 64) C dX1_weightsAreBorne_37 (by decide) (fun h_3 => ?_) (fun h_3 => ?_)
        · replace hf := ifp h_3 hf
          refine s_iinc (pc := 64) (v := (v1 + 1)) (lo' := [some (.ref (ad (2 + b0))), some (.int (v1 + 1))]) C dX1_weightsAreBorne_64 rfl rfl rfl ?_
          refine s_goto (pc := 67) (tgt := 6) C dX1_weightsAreBorne_67 (by decide) ?_
          refine s_few (lo' := [some (.ref (ad (2 + b0))), some (.int (v1 + 1))]) (lfS (lfS lf0)) ?_
          exact ih (v1 + 1) σ hf
        · replace hf := ifn h_3 hf
          refine s_aloadn (pc := 40) C dX1_weightsAreBorne_40 rfl ?_
          refine s_aloadn (pc := 41) C dX1_weightsAreBorne_41 rfl ?_
          refine s_getR (pc := 42) (r := (11 + b0)) C fl_X1_23 (SH_plan hb0) rfl dX1_weightsAreBorne_42 ?_
          refine s_iloadn (pc := 45) C dX1_weightsAreBorne_45 rfl ?_
          obtain ⟨g_3, hf⟩ := gd hf
          refine s_aald (pc := 46) C (SH_spots hb0) (ty2 ca) g_3 dX1_weightsAreBorne_46 ?_
          obtain ⟨r_1, τ_1, e_1, hf⟩ := bnd hf
          refine s_callV (pc := 47) (rest := []) C rfl (c_X1_weightOn l D ca ad N b0 hb0 (13 + 6 * b0 + ix v1) (SH_spot hb0 (inb_lt g_3)) σ r_1 τ_1 e_1) kv_X1_111 ⟨rfl, rfl⟩ (by decide) (SH_plan hb0) ⟨_, rfl, rfl⟩ rfl rfl (Nat.le_of_ble_eq_true rfl) dX1_weightsAreBorne_47 ⟨Nat.zero_le _, Nat.zero_le _⟩ ?_
          refine s_st (st' := [.int r_1]) rfl ?_
          refine s_aloadn (pc := 50) C dX1_weightsAreBorne_50 rfl ?_
          refine s_getR (pc := 51) (r := (11 + b0)) C fl_X1_23 (SH_plan hb0) rfl dX1_weightsAreBorne_51 ?_
          refine s_iloadn (pc := 54) C dX1_weightsAreBorne_54 rfl ?_
          obtain ⟨g_4, hf⟩ := gd hf
          refine s_aald (pc := 55) C (SH_spots hb0) (ty2 ca) g_4 dX1_weightsAreBorne_55 ?_
          refine s_getI (pc := 56) C fl_X1_108 (SH_spot hb0 (inb_lt g_4)) rfl dX1_weightsAreBorne_56 ?_
          refine s_icmp_le (pc := 59) (tgt := 64) C dX1_weightsAreBorne_59 (by decide) (fun h_4 => ?_) (fun h_4 => ?_)
          · replace hf := ifp h_4 hf
            refine s_iinc (pc := 64) (v := (v1 + 1)) (lo' := [some (.ref (ad (2 + b0))), some (.int (v1 + 1))]) C dX1_weightsAreBorne_64 rfl rfl rfl ?_
            refine s_goto (pc := 67) (tgt := 6) C dX1_weightsAreBorne_67 (by decide) ?_
            refine s_few (lo' := [some (.ref (ad (2 + b0))), some (.int (v1 + 1))]) (lfS (lfS lf0)) ?_
            exact ih (v1 + 1) τ_1 hf
          · replace hf := ifn h_4 hf
            refine s_iconst (pc := 62) (v := 0) C dX1_weightsAreBorne_62 (by decide) ?_
            exact s_zret (pc := 63) C hr hlk dX1_weightsAreBorne_63 (by decide) (congrArg (fun z => some (Value.int z)) (rt hf).1) (rt hf).2
def f_X1_weightsAreBorne (N : Nat) (b0 : Nat) (σ : St) : Option (Int32 × St) :=
  bv (f_X1_noteStanders N b0 σ) fun τ_1 =>
  lp_X1_weightsAreBorne_6 N b0 N 0 τ_1
set_option maxRecDepth 100000 in
set_option maxHeartbeats 4000000 in
theorem c_X1_weightsAreBorne (l : Launch) (D : va_G) (ca : Nat → ClassId) (ad : Nat → Nat) (N : Nat) (b0 : Nat) (hb0 : b0 < 2) (σ : St) (r : Int32) (τ : St) (hf : f_X1_weightsAreBorne N b0 σ = some (r, τ)) : cM l yX1_weightsAreBorne (.code yX1_weightsAreBorne cX1_weightsAreBorne 2 (some .boolean)) (rmk 3) D ca ad SH [.ref (ad (2 + b0))] σ (some (.int r)) τ := by
  refine cM.intro2 (own := RX1) (lo := [some (.ref (ad (2 + b0))), none]) (by decide) rfl (ccR cc0) (Nat.le_of_ble_eq_true rfl) rfl ?_
  intro p e s m args below meth c A C hr hlk
  unfold f_X1_weightsAreBorne at hf
  refine s_aloadn (pc := 0) C dX1_weightsAreBorne_0 rfl ?_
  obtain ⟨τ_1, e_1, hf⟩ := bvd hf
  refine s_callV (pc := 1) (rest := []) C rfl (c_X1_noteStanders l D ca ad N b0 hb0 σ τ_1 e_1) kv_X1_105 ⟨rfl, rfl⟩ (by decide) (SH_plan hb0) ⟨_, rfl, rfl⟩ rfl rfl (Nat.le_of_ble_eq_true rfl) dX1_weightsAreBorne_1 ⟨Nat.zero_le _, Nat.zero_le _⟩ ?_
  refine s_st (st' := []) rfl ?_
  refine s_iconst (pc := 4) (v := 0) C dX1_weightsAreBorne_4 (by decide) ?_
  refine s_istoren (pc := 5) (lo' := [some (.ref (ad (2 + b0))), some (.int 0)]) C dX1_weightsAreBorne_5 (Nat.le_of_ble_eq_true rfl) rfl ?_
  refine s_few (lo' := [some (.ref (ad (2 + b0))), some (.int 0)]) (lfS (lfS lf0)) ?_
  exact w_X1_weightsAreBorne_6 C hr hlk N b0 hb0 r τ  N 0 τ_1 hf
def f_X1_isPlanWith (N : Nat) (b0 : Nat) (q1 : Nat) (a2 : Int32) (σ : St) : Option (Int32 × St) :=
  bn (f_X1_takes N b0 ((σ q1 1) + (σ q1 4)) ((σ q1 2) + (σ q1 5)) ((σ q1 3) + (σ q1 6)) σ) fun r_1 τ_1 =>
  if r_1 = 0 then
    some (0, τ_1)
  else
    bn (f_X1_hasRoomFor N b0 q1 τ_1) fun r_2 τ_2 =>
    if r_2 = 0 then
      some (0, τ_2)
    else
      bn (f_X1_supportOf N b0 q1 τ_2) fun r_3 τ_3 =>
      bn (f_X2_area N q1 τ_3) fun r_4 τ_4 =>
      if (100 * r_3) < (a2 * r_4) then
        some (0, τ_4)
      else
        bn (f_X1_weightsAreBorne N b0 τ_4) fun r_5 τ_5 =>
        if r_5 = 0 then
          some (0, τ_5)
        else
          some (1, τ_5)
set_option maxRecDepth 100000 in
set_option maxHeartbeats 4000000 in
theorem c_X1_isPlanWith (l : Launch) (D : va_G) (ca : Nat → ClassId) (ad : Nat → Nat) (N : Nat) (b0 : Nat) (hb0 : b0 < 2) (q1 : Nat) (hq1 : SH[q1]? = some oSpot) (a2 : Int32) (σ : St) (r : Int32) (τ : St) (hf : f_X1_isPlanWith N b0 q1 a2 σ = some (r, τ)) : cM l yX1_isPlanWith (.code yX1_isPlanWith cX1_isPlanWith 3 (some .boolean)) (rmk 4) D ca ad SH [.ref (ad (2 + b0)), .ref (ad q1), .int a2] σ (some (.int r)) τ := by
  refine cM.intro2 (own := RX1) (lo := [some (.ref (ad (2 + b0))), some (.ref (ad q1)), some (.int a2)]) (by decide) rfl (ccR (ccR (ccI cc0))) (Nat.le_of_ble_eq_true rfl) rfl ?_
  intro p e s m args below meth c A C hr hlk
  unfold f_X1_isPlanWith at hf
  refine s_aloadn (pc := 0) C dX1_isPlanWith_0 rfl ?_
  refine s_aloadn (pc := 1) C dX1_isPlanWith_1 rfl ?_
  refine s_getI (pc := 2) C fl_X1_60 hq1 rfl dX1_isPlanWith_2 ?_
  refine s_aloadn (pc := 5) C dX1_isPlanWith_5 rfl ?_
  refine s_getI (pc := 6) C fl_X1_63 hq1 rfl dX1_isPlanWith_6 ?_
  refine s_iadd (pc := 9) C dX1_isPlanWith_9 ?_
  refine s_aloadn (pc := 10) C dX1_isPlanWith_10 rfl ?_
  refine s_getI (pc := 11) C fl_X1_66 hq1 rfl dX1_isPlanWith_11 ?_
  refine s_aloadn (pc := 14) C dX1_isPlanWith_14 rfl ?_
  refine s_getI (pc := 15) C fl_X1_69 hq1 rfl dX1_isPlanWith_15 ?_
  refine s_iadd (pc := 18) C dX1_isPlanWith_18 ?_
  refine s_aloadn (pc := 19) C dX1_isPlanWith_19 rfl ?_
  refine s_getI (pc := 20) C fl_X1_72 hq1 rfl dX1_isPlanWith_20 ?_
  refine s_aloadn (pc := 23) C dX1_isPlanWith_23 rfl ?_
  refine s_getI (pc := 24) C fl_X1_75 hq1 rfl dX1_isPlanWith_24 ?_
  refine s_iadd (pc := 27) C dX1_isPlanWith_27 ?_
  obtain ⟨r_1, τ_1, e_1, hf⟩ := bnd hf
  refine s_callV (pc := 28) (rest := []) C rfl (c_X1_takes l D ca ad N b0 hb0 ((σ q1 1) + (σ q1 4)) ((σ q1 2) + (σ q1 5)) ((σ q1 3) + (σ q1 6)) σ r_1 τ_1 e_1) kv_X1_78 ⟨rfl, rfl⟩ (by decide) (SH_plan hb0) ⟨_, rfl, rfl⟩ rfl rfl (Nat.le_of_ble_eq_true rfl) dX1_isPlanWith_28 ⟨Nat.zero_le _, Nat.zero_le _⟩ ?_
  refine s_st (st' := [.int r_1]) rfl ?_
  refine s_if_eq (pc := 31) (tgt := 70) C dX1_isPlanWith_31 (by decide) (fun h_1 => ?_) (fun h_1 => ?_)
  · replace hf := ifp h_1 hf
    refine s_iconst (pc := 70) (v := 0) C dX1_isPlanWith_70 (by decide) ?_
    exact s_zret (pc := 71) C hr hlk dX1_isPlanWith_71 (by decide) (congrArg (fun z => some (Value.int z)) (rt hf).1) (rt hf).2
  · replace hf := ifn h_1 hf
    refine s_aloadn (pc := 34) C dX1_isPlanWith_34 rfl ?_
    refine s_aloadn (pc := 35) C dX1_isPlanWith_35 rfl ?_
    obtain ⟨r_2, τ_2, e_2, hf⟩ := bnd hf
    refine s_callV (pc := 36) (rest := []) C rfl (c_X1_hasRoomFor l D ca ad N b0 hb0 q1 hq1 τ_1 r_2 τ_2 e_2) kv_X1_81 ⟨rfl, rfl⟩ (by decide) (SH_plan hb0) ⟨_, rfl, rfl⟩ rfl rfl (Nat.le_of_ble_eq_true rfl) dX1_isPlanWith_36 ⟨Nat.zero_le _, Nat.zero_le _⟩ ?_
    refine s_st (st' := [.int r_2]) rfl ?_
    refine s_if_eq (pc := 39) (tgt := 70) C dX1_isPlanWith_39 (by decide) (fun h_2 => ?_) (fun h_2 => ?_)
    · replace hf := ifp h_2 hf
      refine s_iconst (pc := 70) (v := 0) C dX1_isPlanWith_70 (by decide) ?_
      exact s_zret (pc := 71) C hr hlk dX1_isPlanWith_71 (by decide) (congrArg (fun z => some (Value.int z)) (rt hf).1) (rt hf).2
    · replace hf := ifn h_2 hf
      refine s_bipush (pc := 42) (v := 100) C dX1_isPlanWith_42 (by decide) ?_
      refine s_aloadn (pc := 44) C dX1_isPlanWith_44 rfl ?_
      refine s_aloadn (pc := 45) C dX1_isPlanWith_45 rfl ?_
      obtain ⟨r_3, τ_3, e_3, hf⟩ := bnd hf
      refine s_callV (pc := 46) (rest := [.int 100]) C rfl (c_X1_supportOf l D ca ad N b0 hb0 q1 hq1 τ_2 r_3 τ_3 e_3) kv_X1_85 ⟨rfl, rfl⟩ (by decide) (SH_plan hb0) ⟨_, rfl, rfl⟩ rfl rfl (Nat.le_of_ble_eq_true rfl) dX1_isPlanWith_46 ⟨Nat.zero_le _, Nat.zero_le _⟩ ?_
      refine s_st (st' := [.int r_3, .int 100]) rfl ?_
      refine s_imul (pc := 49) C dX1_isPlanWith_49 ?_
      refine s_iloadn (pc := 50) C dX1_isPlanWith_50 rfl ?_
      refine s_aloadn (pc := 51) C dX1_isPlanWith_51 rfl ?_
      obtain ⟨r_4, τ_4, e_4, hf⟩ := bnd hf
      refine s_callV (pc := 52) (rest := [.int a2, .int (100 * r_3)]) C rfl (c_X2_area l D ca ad N q1 hq1 τ_3 r_4 τ_4 e_4) kv_X1_89 ⟨rfl, rfl⟩ (by decide) hq1 ⟨_, rfl, rfl⟩ rfl rfl (Nat.le_of_ble_eq_true rfl) dX1_isPlanWith_52 ⟨Nat.zero_le _, Nat.zero_le _⟩ ?_
      refine s_st (st' := [.int r_4, .int a2, .int (100 * r_3)]) rfl ?_
      refine s_imul (pc := 55) C dX1_isPlanWith_55 ?_
      refine s_icmp_lt (pc := 56) (tgt := 70) C dX1_isPlanWith_56 (by decide) (fun h_3 => ?_) (fun h_3 => ?_)
      · replace hf := ifp h_3 hf
        refine s_iconst (pc := 70) (v := 0) C dX1_isPlanWith_70 (by decide) ?_
        exact s_zret (pc := 71) C hr hlk dX1_isPlanWith_71 (by decide) (congrArg (fun z => some (Value.int z)) (rt hf).1) (rt hf).2
      · replace hf := ifn h_3 hf
        refine s_aloadn (pc := 59) C dX1_isPlanWith_59 rfl ?_
        obtain ⟨r_5, τ_5, e_5, hf⟩ := bnd hf
        refine s_callV (pc := 60) (rest := []) C rfl (c_X1_weightsAreBorne l D ca ad N b0 hb0 τ_4 r_5 τ_5 e_5) kv_X1_92 ⟨rfl, rfl⟩ (by decide) (SH_plan hb0) ⟨_, rfl, rfl⟩ rfl rfl (Nat.le_of_ble_eq_true rfl) dX1_isPlanWith_60 ⟨Nat.zero_le _, Nat.zero_le _⟩ ?_
        refine s_st (st' := [.int r_5]) rfl ?_
        refine s_if_eq (pc := 63) (tgt := 70) C dX1_isPlanWith_63 (by decide) (fun h_4 => ?_) (fun h_4 => ?_)
        · replace hf := ifp h_4 hf
          refine s_iconst (pc := 70) (v := 0) C dX1_isPlanWith_70 (by decide) ?_
          exact s_zret (pc := 71) C hr hlk dX1_isPlanWith_71 (by decide) (congrArg (fun z => some (Value.int z)) (rt hf).1) (rt hf).2
        · replace hf := ifn h_4 hf
          refine s_iconst (pc := 66) (v := 1) C dX1_isPlanWith_66 (by decide) ?_
          refine s_goto (pc := 67) (tgt := 71) C dX1_isPlanWith_67 (by decide) ?_
          exact s_zret (pc := 71) C hr hlk dX1_isPlanWith_71 (by decide) (congrArg (fun z => some (Value.int z)) (rt hf).1) (rt hf).2
