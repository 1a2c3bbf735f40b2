def f_X3_exact (N : Nat)  (σ : St) : Option (Int32 × St) :=
  if (σ 0 12 &&& 1) = 0 ∨ (σ 0 12 &&& 1) = 1 then some ((σ 0 12 &&& 1), σ) else none
set_option maxRecDepth 100000 in
set_option maxHeartbeats 4000000 in
theorem c_X3_exact (l : Launch) (D : va_G) (ca : Nat → ClassId) (ad : Nat → Nat) (N : Nat)  (σ : St) (r : Int32) (τ : St) (hf : f_X3_exact N  σ = some (r, τ)) : cM l yX3_exact (.code yX3_exact cX3_exact 1 (some .boolean)) (rmk 0) D ca ad SH [.ref (ad 0)] σ (some (.int r)) τ := by
  refine cM.intro2 (own := RX3) (lo := [some (.ref (ad 0))]) (by decide) rfl (ccR cc0) (Nat.le_of_ble_eq_true rfl) rfl ?_
  intro p e s m args below meth c A C hr hlk
  unfold f_X3_exact at hf
  refine s_aloadn (pc := 0) C dX3_exact_0 rfl ?_
  refine s_getZ (pc := 1) C fl_X3_111 SH_0 rfl dX3_exact_1 ?_
  obtain ⟨g_1, hf⟩ := gd hf
  exact s_zret (pc := 4) C hr hlk dX3_exact_4 g_1 (congrArg (fun z => some (Value.int z)) (rt hf).1) (rt hf).2
def f_X3_steps (N : Nat)  (σ : St) : Option (Int32 × St) :=
  some ((σ 0 9), σ)
set_option maxRecDepth 100000 in
set_option maxHeartbeats 4000000 in
theorem c_X3_steps (l : Launch) (D : va_G) (ca : Nat → ClassId) (ad : Nat → Nat) (N : Nat)  (σ : St) (r : Int32) (τ : St) (hf : f_X3_steps N  σ = some (r, τ)) : cM l yX3_steps (.code yX3_steps cX3_steps 1 (some .int)) (rmk 0) D ca ad SH [.ref (ad 0)] σ (some (.int r)) τ := by
  refine cM.intro2 (own := RX3) (lo := [some (.ref (ad 0))]) (by decide) rfl (ccR cc0) (Nat.le_of_ble_eq_true rfl) rfl ?_
  intro p e s m args below meth c A C hr hlk
  unfold f_X3_steps at hf
  refine s_aloadn (pc := 0) C dX3_steps_0 rfl ?_
  refine s_getI (pc := 1) C fl_X3_117 SH_0 rfl dX3_steps_1 ?_
  exact s_iret (pc := 4) C hr hlk dX3_steps_4 (congrArg (fun z => some (Value.int z)) (rt hf).1) (rt hf).2
def f_X3_isSide (N : Nat) (a0 : Int32) (σ : St) : Option (Int32 × St) :=
  if a0 < 1 then
    some (0, σ)
  else
    if 8 < a0 then
      some (0, σ)
    else
      some (1, σ)
set_option maxRecDepth 100000 in
set_option maxHeartbeats 4000000 in
theorem c_X3_isSide (l : Launch) (D : va_G) (ca : Nat → ClassId) (ad : Nat → Nat) (N : Nat) (a0 : Int32) (σ : St) (r : Int32) (τ : St) (hf : f_X3_isSide N a0 σ = some (r, τ)) : cM l yX3_isSide (.code yX3_isSide cX3_isSide 1 (some .boolean)) (rmk 0) D ca ad SH [.int a0] σ (some (.int r)) τ := by
  refine cM.intro2 (own := RX3) (lo := [some (.int a0)]) (by decide) rfl (ccI cc0) (Nat.le_of_ble_eq_true rfl) rfl ?_
  intro p e s m args below meth c A C hr hlk
  unfold f_X3_isSide at hf
  refine s_iloadn (pc := 0) C dX3_isSide_0 rfl ?_
  refine s_iconst (pc := 1) (v := 1) C dX3_isSide_1 (by decide) ?_
  refine s_icmp_lt (pc := 2) (tgt := 15) C dX3_isSide_2 (by decide) (fun h_1 => ?_) (fun h_1 => ?_)
  · replace hf := ifp h_1 hf
    refine s_iconst (pc := 15) (v := 0) C dX3_isSide_15 (by decide) ?_
    exact s_zret (pc := 16) C hr hlk dX3_isSide_16 (by decide) (congrArg (fun z => some (Value.int z)) (rt hf).1) (rt hf).2
  · replace hf := ifn h_1 hf
    refine s_iloadn (pc := 5) C dX3_isSide_5 rfl ?_
    refine s_bipush (pc := 6) (v := 8) C dX3_isSide_6 (by decide) ?_
    refine s_icmp_gt (pc := 8) (tgt := 15) C dX3_isSide_8 (by decide) (fun h_2 => ?_) (fun h_2 => ?_)
    · replace hf := ifp h_2 hf
      refine s_iconst (pc := 15) (v := 0) C dX3_isSide_15 (by decide) ?_
      exact s_zret (pc := 16) C hr hlk dX3_isSide_16 (by decide) (congrArg (fun z => some (Value.int z)) (rt hf).1) (rt hf).2
    · replace hf := ifn h_2 hf
      refine s_iconst (pc := 11) (v := 1) C dX3_isSide_11 (by decide) ?_
      refine s_goto (pc := 12) (tgt := 16) C dX3_isSide_12 (by decide) ?_
      exact s_zret (pc := 16) C hr hlk dX3_isSide_16 (by decide) (congrArg (fun z => some (Value.int z)) (rt hf).1) (rt hf).2
def f_X3_asSide (N : Nat) (a0 : Int32) (σ : St) : Option (Int32 × St) :=
  some ((mmax 1 (mmin 8 a0)), σ)
set_option maxRecDepth 100000 in
set_option maxHeartbeats 4000000 in
theorem c_X3_asSide (l : Launch) (D : va_G) (ca : Nat → ClassId) (ad : Nat → Nat) (N : Nat) (a0 : Int32) (σ : St) (r : Int32) (τ : St) (hf : f_X3_asSide N a0 σ = some (r, τ)) : cM l yX3_asSide (.code yX3_asSide cX3_asSide 1 (some .int)) (rmk 1) D ca ad SH [.int a0] σ (some (.int r)) τ := by
  refine cM.intro2 (own := RX3) (lo := [some (.int a0)]) (by decide) rfl (ccI cc0) (Nat.le_of_ble_eq_true rfl) rfl ?_
  intro p e s m args below meth c A C hr hlk
  unfold f_X3_asSide at hf
  refine s_iconst (pc := 0) (v := 1) C dX3_asSide_0 (by decide) ?_
  refine s_bipush (pc := 1) (v := 8) C dX3_asSide_1 (by decide) ?_
  refine s_iloadn (pc := 3) C dX3_asSide_3 rfl ?_
  refine s_mmin (pc := 4) C rfl hk_X3_128 ⟨by decide, Nat.le_of_ble_eq_true rfl⟩ ⟨Nat.zero_le _, Nat.zero_le _⟩ hm_min dX3_asSide_4 ?_
  refine s_mmax (pc := 7) C rfl hk_X3_215 ⟨by decide, Nat.le_of_ble_eq_true rfl⟩ ⟨Nat.zero_le _, Nat.zero_le _⟩ hm_max dX3_asSide_7 ?_
  exact s_iret (pc := 10) C hr hlk dX3_asSide_10 (congrArg (fun z => some (Value.int z)) (rt hf).1) (rt hf).2
def lp_X3_unpackedCount_4 (N : Nat)  : Nat → Int32 → Int32 → St → Option (Int32 × St)
  | 0, _, _, _ => none
  | n + 1, v1, v2, σ =>
    if (σ 0 4) ≤ v2 then
      some (v1, σ)
    else
      if inb v2 6 = true then
      bn (f_X0_isPacked N (5 + ix v2) σ) fun r_1 τ_1 =>
      if r_1 = 0 then
        lp_X3_unpackedCount_4 N   n (v1 + 1) (v2 + 1) τ_1
      else
        lp_X3_unpackedCount_4 N   n v1 (v2 + 1) τ_1
      else none
set_option maxRecDepth 100000 in
set_option maxHeartbeats 4000000 in
theorem w_X3_unpackedCount_4 {l : Launch} {D : va_G} {ca : Nat → ClassId} {ad : Nat → Nat} {p : Program} {e : Env} {s : State} {m : MethodId} {args : Array Value} {below : List Frame} {meth : Method} {c : Code} {A : Nat → Prop} (C : CX p s m args c D ca A RX3 cX3_unpackedCount 3) (hr : meth.sig.returnType = (some .int)) (hlk : meth.locks = false) (N : Nat)  (r : Int32) (τ : St)  : ∀ (n : Nat) (v1 v2 : Int32) (σ : St), lp_X3_unpackedCount_4 N   n v1 v2 σ = some (r, τ) → WW p l e (rmk 1) s m args below meth c 0 0 (EQ D ca ad SH A below args s (some (.int r)) τ) A D ca ad SH 4 [some (.ref (ad 0)), some (.int v1), some (.int v2)] [] σ := by
  intro n
  induction n with
  | zero => intro v1 v2 σ hf; cases hf
  | succ n ih =>
    intro v1 v2 σ hf
    rw [lp_X3_unpackedCount_4] at hf
    refine s_iloadn (pc := 4) C dX3_unpackedCount_4 rfl ?_
    refine s_aloadn (pc := 5) C dX3_unpackedCount_5 rfl ?_
    refine s_getI (pc := 6) C fl_X3_49 SH_0 rfl dX3_unpackedCount_6 ?_
    refine s_icmp_ge (pc := 9) (tgt := 33) C dX3_unpackedCount_9 (by decide) (fun h_1 => ?_) (fun h_1 => ?_)
    · replace hf := ifp h_1 hf
      refine s_iloadn (pc := 33) C dX3_unpackedCount_33 rfl ?_
      exact s_iret (pc := 34) C hr hlk dX3_unpackedCount_34 (congrArg (fun z => some (Value.int z)) (rt hf).1) (rt hf).2
    · replace hf := ifn h_1 hf
      refine s_aloadn (pc := 12) C dX3_unpackedCount_12 rfl ?_
      refine s_getR (pc := 13) (r := 1) C fl_X3_15 SH_0 rfl dX3_unpackedCount_13 ?_
      refine s_iloadn (pc := 16) C dX3_unpackedCount_16 rfl ?_
      obtain ⟨g_1, hf⟩ := gd hf
      refine s_aald (pc := 17) C SH_1 (ty1 ca) g_1 dX3_unpackedCount_17 ?_
      obtain ⟨r_1, τ_1, e_1, hf⟩ := bnd hf
      refine s_callV (pc := 18) (rest := []) C rfl (c_X0_isPacked l D ca ad N (5 + ix v2) (SH_piece (inb_lt g_1)) σ r_1 τ_1 e_1) kv_X3_86 ⟨rfl, rfl⟩ (by decide) (SH_piece (inb_lt g_1)) ⟨_, rfl, rfl⟩ rfl rfl (Nat.le_of_ble_eq_true rfl) dX3_unpackedCount_18 ⟨Nat.zero_le _, Nat.zero_le _⟩ ?_
      refine s_st (st' := [.int r_1]) rfl ?_
      refine s_if_ne (pc := 21) (tgt := 27) C dX3_unpackedCount_21 (by decide) (fun h_2 => ?_) (fun h_2 => ?_)
      · replace hf := ifn h_2 hf
        refine s_iinc (pc := 27) (v := (v2 + 1)) (lo' := [some (.ref (ad 0)), some (.int v1), some (.int (v2 + 1))]) C dX3_unpackedCount_27 rfl rfl rfl ?_
        refine s_goto (pc := 30) (tgt := 4) C dX3_unpackedCount_30 (by decide) ?_
        refine s_few (lo' := [some (.ref (ad 0)), some (.int v1), some (.int (v2 + 1))]) (lfS (lfS (lfS lf0))) ?_
        exact ih v1 (v2 + 1) τ_1 hf
      · replace hf := ifp h_2 hf
        refine s_iinc (pc := 24) (v := (v1 + 1)) (lo' := [some (.ref (ad 0)), some (.int (v1 + 1)), some (.int v2)]) C dX3_unpackedCount_24 rfl rfl rfl ?_
        refine s_iinc (pc := 27) (v := (v2 + 1)) (lo' := [some (.ref (ad 0)), some (.int (v1 + 1)), some (.int (v2 + 1))]) C dX3_unpackedCount_27 rfl rfl rfl ?_
        refine s_goto (pc := 30) (tgt := 4) C dX3_unpackedCount_30 (by decide) ?_
        refine s_few (lo' := [some (.ref (ad 0)), some (.int (v1 + 1)), some (.int (v2 + 1))]) (lfS (lfS (lfS lf0))) ?_
        exact ih (v1 + 1) (v2 + 1) τ_1 hf
def f_X3_unpackedCount (N : Nat)  (σ : St) : Option (Int32 × St) :=
  lp_X3_unpackedCount_4 N  N 0 0 σ
set_option maxRecDepth 100000 in
set_option maxHeartbeats 4000000 in
theorem c_X3_unpackedCount (l : Launch) (D : va_G) (ca : Nat → ClassId) (ad : Nat → Nat) (N : Nat)  (σ : St) (r : Int32) (τ : St) (hf : f_X3_unpackedCount N  σ = some (r, τ)) : cM l yX3_unpackedCount (.code yX3_unpackedCount cX3_unpackedCount 3 (some .int)) (rmk 1) D ca ad SH [.ref (ad 0)] σ (some (.int r)) τ := by
  refine cM.intro2 (own := RX3) (lo := [some (.ref (ad 0)), none, none]) (by decide) rfl (ccR cc0) (Nat.le_of_ble_eq_true rfl) rfl ?_
  intro p e s m args below meth c A C hr hlk
  unfold f_X3_unpackedCount at hf
  refine s_iconst (pc := 0) (v := 0) C dX3_unpackedCount_0 (by decide) ?_
  refine s_istoren (pc := 1) (lo' := [some (.ref (ad 0)), some (.int 0), none]) C dX3_unpackedCount_1 (Nat.le_of_ble_eq_true rfl) rfl ?_
  refine s_iconst (pc := 2) (v := 0) C dX3_unpackedCount_2 (by decide) ?_
  refine s_istoren (pc := 3) (lo' := [some (.ref (ad 0)), some (.int 0), some (.int 0)]) C dX3_unpackedCount_3 (Nat.le_of_ble_eq_true rfl) rfl ?_
  refine s_few (lo' := [some (.ref (ad 0)), some (.int 0), some (.int 0)]) (lfS (lfS (lfS lf0))) ?_
  exact w_X3_unpackedCount_4 C hr hlk N  r τ  N 0 0 σ hf
def lp_X3_positionOf_5 (N : Nat) (q1 : Nat) (a2 : Int32) : Nat → Int32 → Int32 → Int32 → St → Option (Int32 × St)
  | 0, _, _, _, _ => none
  | n + 1, v2, v3, v4, σ =>
    if (σ 0 4) ≤ v4 then
      some (v3, σ)
    else
      if inb v4 6 = true then
      if (σ (5 + ix v4) 6) < (σ q1 6) then
        if inb v4 6 = true then
        bn (f_X0_isPacked N (5 + ix v4) σ) fun r_1 τ_1 =>
        if r_1 = 0 then
          lp_X3_positionOf_5 N q1 a2  n v2 (v3 + 1) (v4 + 1) τ_1
        else
          lp_X3_positionOf_5 N q1 a2  n v2 v3 (v4 + 1) τ_1
        else none
      else
        if inb v4 6 = true then
        if (σ (5 + ix v4) 6) = (σ q1 6) then
          if v2 ≤ v4 then
            lp_X3_positionOf_5 N q1 a2  n v2 v3 (v4 + 1) σ
          else
            if inb v4 6 = true then
            bn (f_X0_isPacked N (5 + ix v4) σ) fun r_2 τ_2 =>
            if r_2 = 0 then
              lp_X3_positionOf_5 N q1 a2  n v2 (v3 + 1) (v4 + 1) τ_2
            else
              lp_X3_positionOf_5 N q1 a2  n v2 v3 (v4 + 1) τ_2
            else none
        else
          lp_X3_positionOf_5 N q1 a2  n v2 v3 (v4 + 1) σ
        else none
      else none
set_option maxRecDepth 100000 in
set_option maxHeartbeats 4000000 in
theorem w_X3_positionOf_5 {l : Launch} {D : va_G} {ca : Nat → ClassId} {ad : Nat → Nat} {p : Program} {e : Env} {s : State} {m : MethodId} {args : Array Value} {below : List Frame} {meth : Method} {c : Code} {A : Nat → Prop} (C : CX p s m args c D ca A RX3 cX3_positionOf 6) (hr : meth.sig.returnType = (some .int)) (hlk : meth.locks = false) (N : Nat) (q1 : Nat) (hq1 : SH[q1]? = some oPiece) (a2 : Int32) (r : Int32) (τ : St)  : ∀ (n : Nat) (v2 v3 v4 : Int32) (σ : St), lp_X3_positionOf_5 N q1 a2  n v2 v3 v4 σ = some (r, τ) → WW p l e (rmk 1) s m args below meth c 0 0 (EQ D ca ad SH A below args s (some (.int r)) τ) A D ca ad SH 5 [some (.ref (ad 0)), some (.ref (ad q1)), some (.int v2), some (.int v3), some (.int v4), none] [] σ := by
  intro n
  induction n with
  | zero => intro v2 v3 v4 σ hf; cases hf
  | succ n ih =>
    intro v2 v3 v4 σ hf
    rw [lp_X3_positionOf_5] at hf
    refine s_iload (pc := 5) C dX3_positionOf_5 rfl ?_
    refine s_aloadn (pc := 7) C dX3_positionOf_7 rfl ?_
    refine s_getI (pc := 8) C fl_X3_49 SH_0 rfl dX3_positionOf_8 ?_
    refine s_icmp_ge (pc := 11) (tgt := 88) C dX3_positionOf_11 (by decide) (fun h_1 => ?_) (fun h_1 => ?_)
    · replace hf := ifp h_1 hf
      refine s_iloadn (pc := 88) C dX3_positionOf_88 rfl ?_
      exact s_iret (pc := 89) C hr hlk dX3_positionOf_89 (congrArg (fun z => some (Value.int z)) (rt hf).1) (rt hf).2
    · replace hf := ifn h_1 hf
      refine s_aloadn (pc := 14) C dX3_positionOf_14 rfl ?_
      refine s_getR (pc := 15) (r := 1) C fl_X3_15 SH_0 rfl dX3_positionOf_15 ?_
      refine s_iload (pc := 18) C dX3_positionOf_18 rfl ?_
      obtain ⟨g_1, hf⟩ := gd hf
      refine s_aald (pc := 20) C SH_1 (ty1 ca) g_1 dX3_positionOf_20 ?_
      refine s_getI (pc := 21) C fl_X3_83 (SH_piece (inb_lt g_1)) rfl dX3_positionOf_21 ?_
      refine s_aloadn (pc := 24) C dX3_positionOf_24 rfl ?_
      refine s_getI (pc := 25) C fl_X3_83 hq1 rfl dX3_positionOf_25 ?_
      refine s_icmp_lt (pc := 28) (tgt := 54) C dX3_positionOf_28 (by decide) (fun h_2 => ?_) (fun h_2 => ?_)
      · replace hf := ifp h_2 hf
        refine s_iconst (pc := 54) (v := 1) C dX3_positionOf_54 (by decide) ?_
        refine s_goto (pc := 55) (tgt := 59) C dX3_positionOf_55 (by decide) ?_
        refine s_istore (pc := 59) (lo' := [some (.ref (ad 0)), some (.ref (ad q1)), some (.int v2), some (.int v3), some (.int v4), some (.int 1)]) C dX3_positionOf_59 (Nat.le_of_ble_eq_true rfl) rfl ?_
        refine s_iload (pc := 61) C dX3_positionOf_61 rfl ?_
        refine s_if_eq (pc := 63) (tgt := 82) C dX3_positionOf_63 (by decide) (fun h_3 => absurd h_3 (by decide)) (fun _ => ?_)
        refine s_aloadn (pc := 66) C dX3_positionOf_66 rfl ?_
        refine s_getR (pc := 67) (r := 1) C fl_X3_15 SH_0 rfl dX3_positionOf_67 ?_
        refine s_iload (pc := 70) C dX3_positionOf_70 rfl ?_
        obtain ⟨g_2, hf⟩ := gd hf
        refine s_aald (pc := 72) C SH_1 (ty1 ca) g_2 dX3_positionOf_72 ?_
        obtain ⟨r_1, τ_1, e_1, hf⟩ := bnd hf
        refine s_callV (pc := 73) (rest := []) C rfl (c_X0_isPacked l D ca ad N (5 + ix v4) (SH_piece (inb_lt g_2)) σ r_1 τ_1 e_1) kv_X3_86 ⟨rfl, rfl⟩ (by decide) (SH_piece (inb_lt g_2)) ⟨_, rfl, rfl⟩ rfl rfl (Nat.le_of_ble_eq_true rfl) dX3_positionOf_73 ⟨Nat.zero_le _, Nat.zero_le _⟩ ?_
        refine s_st (st' := [.int r_1]) rfl ?_
        refine s_if_ne (pc := 76) (tgt := 82) C dX3_positionOf_76 (by decide) (fun h_4 => ?_) (fun h_4 => ?_)
        · replace hf := ifn h_4 hf
          refine s_iinc (pc := 82) (v := (v4 + 1)) (lo' := [some (.ref (ad 0)), some (.ref (ad q1)), some (.int v2), some (.int v3), some (.int (v4 + 1)), some (.int 1)]) C dX3_positionOf_82 rfl rfl rfl ?_
          refine s_goto (pc := 85) (tgt := 5) C dX3_positionOf_85 (by decide) ?_
          refine s_few (lo' := [some (.ref (ad 0)), some (.ref (ad q1)), some (.int v2), some (.int v3), some (.int (v4 + 1)), none]) (lfS (lfS (lfS (lfS (lfS (lfN lf0)))))) ?_
          exact ih v2 v3 (v4 + 1) τ_1 hf
        · replace hf := ifp h_4 hf
          refine s_iinc (pc := 79) (v := (v3 + 1)) (lo' := [some (.ref (ad 0)), some (.ref (ad q1)), some (.int v2), some (.int (v3 + 1)), some (.int v4), some (.int 1)]) C dX3_positionOf_79 rfl rfl rfl ?_
          refine s_iinc (pc := 82) (v := (v4 + 1)) (lo' := [some (.ref (ad 0)), some (.ref (ad q1)), some (.int v2), some (.int (v3 + 1)), some (.int (v4 + 1)), some (.int 1)]) C dX3_positionOf_82 rfl rfl rfl ?_
          refine s_goto (pc := 85) (tgt := 5) C dX3_positionOf_85 (by decide) ?_
          refine s_few (lo' := [some (.ref (ad 0)), some (.ref (ad q1)), some (.int v2), some (.int (v3 + 1)), some (.int (v4 + 1)), none]) (lfS (lfS (lfS (lfS (lfS (lfN lf0)))))) ?_
          exact ih v2 (v3 + 1) (v4 + 1) τ_1 hf
      · replace hf := ifn h_2 hf
        refine s_aloadn (pc := 31) C dX3_positionOf_31 rfl ?_
        refine s_getR (pc := 32) (r := 1) C fl_X3_15 SH_0 rfl dX3_positionOf_32 ?_
        refine s_iload (pc := 35) C dX3_positionOf_35 rfl ?_
        obtain ⟨g_3, hf⟩ := gd hf
        refine s_aald (pc := 37) C SH_1 (ty1 ca) g_3 dX3_positionOf_37 ?_
        refine s_getI (pc := 38) C fl_X3_83 (SH_piece (inb_lt g_3)) rfl dX3_positionOf_38 ?_
        refine s_aloadn (pc := 41) C dX3_positionOf_41 rfl ?_
        refine s_getI (pc := 42) C fl_X3_83 hq1 rfl dX3_positionOf_42 ?_
        refine s_icmp_ne (pc := 45) (tgt := 58) C dX3_positionOf_45 (by decide) (fun h_5 => ?_) (fun h_5 => ?_)
        · replace hf := ifn h_5 hf
          refine s_iconst (pc := 58) (v := 0) C dX3_positionOf_58 (by decide) ?_
          refine s_istore (pc := 59) (lo' := [some (.ref (ad 0)), some (.ref (ad q1)), some (.int v2), some (.int v3), some (.int v4), some (.int 0)]) C dX3_positionOf_59 (Nat.le_of_ble_eq_true rfl) rfl ?_
          refine s_iload (pc := 61) C dX3_positionOf_61 rfl ?_
          refine s_if_eq (pc := 63) (tgt := 82) C dX3_positionOf_63 (by decide) (fun _ => ?_) (fun h_6 => absurd h_6 (by decide))
          refine s_iinc (pc := 82) (v := (v4 + 1)) (lo' := [some (.ref (ad 0)), some (.ref (ad q1)), some (.int v2), some (.int v3), some (.int (v4 + 1)), some (.int 0)]) C dX3_positionOf_82 rfl rfl rfl ?_
          refine s_goto (pc := 85) (tgt := 5) C dX3_positionOf_85 (by decide) ?_
          refine s_few (lo' := [some (.ref (ad 0)), some (.ref (ad q1)), some (.int v2), some (.int v3), some (.int (v4 + 1)), none]) (lfS (lfS (lfS (lfS (lfS (lfN lf0)))))) ?_
          exact ih v2 v3 (v4 + 1) σ hf
        · replace hf := ifp h_5 hf
          refine s_iload (pc := 48) C dX3_positionOf_48 rfl ?_
          refine s_iloadn (pc := 50) C dX3_positionOf_50 rfl ?_
          refine s_icmp_ge (pc := 51) (tgt := 58) C dX3_positionOf_51 (by decide) (fun h_7 => ?_) (fun h_7 => ?_)
          · replace hf := ifp h_7 hf
            refine s_iconst (pc := 58) (v := 0) C dX3_positionOf_58 (by decide) ?_
            refine s_istore (pc := 59) (lo' := [some (.ref (ad 0)), some (.ref (ad q1)), some (.int v2), some (.int v3), some (.int v4), some (.int 0)]) C dX3_positionOf_59 (Nat.le_of_ble_eq_true rfl) rfl ?_
            refine s_iload (pc := 61) C dX3_positionOf_61 rfl ?_
            refine s_if_eq (pc := 63) (tgt := 82) C dX3_positionOf_63 (by decide) (fun _ => ?_) (fun h_8 => absurd h_8 (by decide))
            refine s_iinc (pc := 82) (v := (v4 + 1)) (lo' := [some (.ref (ad 0)), some (.ref (ad q1)), some (.int v2), some (.int v3), some (.int (v4 + 1)), some (.int 0)]) C dX3_positionOf_82 rfl rfl rfl ?_
            refine s_goto (pc := 85) (tgt := 5) C dX3_positionOf_85 (by decide) ?_
            refine s_few (lo' := [some (.ref (ad 0)), some (.ref (ad q1)), some (.int v2), some (.int v3), some (.int (v4 + 1)), none]) (lfS (lfS (lfS (lfS (lfS (lfN lf0)))))) ?_
            exact ih v2 v3 (v4 + 1) σ hf
          · replace hf := ifn h_7 hf
            refine s_iconst (pc := 54) (v := 1) C dX3_positionOf_54 (by decide) ?_
            refine s_goto (pc := 55) (tgt := 59) C dX3_positionOf_55 (by decide) ?_
            refine s_istore (pc := 59) (lo' := [some (.ref (ad 0)), some (.ref (ad q1)), some (.int v2), some (.int v3), some (.int v4), some (.int 1)]) C dX3_positionOf_59 (Nat.le_of_ble_eq_true rfl) rfl ?_
            refine s_iload (pc := 61) C dX3_positionOf_61 rfl ?_
            refine s_if_eq (pc := 63) (tgt := 82) C dX3_positionOf_63 (by decide) (fun h_9 => absurd h_9 (by decide)) (fun _ => ?_)
            refine s_aloadn (pc := 66) C dX3_positionOf_66 rfl ?_
            refine s_getR (pc := 67) (r := 1) C fl_X3_15 SH_0 rfl dX3_positionOf_67 ?_
            refine s_iload (pc := 70) C dX3_positionOf_70 rfl ?_
            obtain ⟨g_4, hf⟩ := gd hf
            refine s_aald (pc := 72) C SH_1 (ty1 ca) g_4 dX3_positionOf_72 ?_
            obtain ⟨r_2, τ_2, e_2, hf⟩ := bnd hf
            refine s_callV (pc := 73) (rest := []) C rfl (c_X0_isPacked l D ca ad N (5 + ix v4) (SH_piece (inb_lt g_4)) σ r_2 τ_2 e_2) kv_X3_86 ⟨rfl, rfl⟩ (by decide) (SH_piece (inb_lt g_4)) ⟨_, rfl, rfl⟩ rfl rfl (Nat.le_of_ble_eq_true rfl) dX3_positionOf_73 ⟨Nat.zero_le _, Nat.zero_le _⟩ ?_
            refine s_st (st' := [.int r_2]) rfl ?_
            refine s_if_ne (pc := 76) (tgt := 82) C dX3_positionOf_76 (by decide) (fun h_10 => ?_) (fun h_10 => ?_)
            · replace hf := ifn h_10 hf
              refine s_iinc (pc := 82) (v := (v4 + 1)) (lo' := [some (.ref (ad 0)), some (.ref (ad q1)), some (.int v2), some (.int v3), some (.int (v4 + 1)), some (.int 1)]) C dX3_positionOf_82 rfl rfl rfl ?_
              refine s_goto (pc := 85) (tgt := 5) C dX3_positionOf_85 (by decide) ?_
              refine s_few (lo' := [some (.ref (ad 0)), some (.ref (ad q1)), some (.int v2), some (.int v3), some (.int (v4 + 1)), none]) (lfS (lfS (lfS (lfS (lfS (lfN lf0)))))) ?_
              exact ih v2 v3 (v4 + 1) τ_2 hf
            · replace hf := ifp h_10 hf
              refine s_iinc (pc := 79) (v := (v3 + 1)) (lo' := [some (.ref (ad 0)), some (.ref (ad q1)), some (.int v2), some (.int (v3 + 1)), some (.int v4), some (.int 1)]) C dX3_positionOf_79 rfl rfl rfl ?_
              refine s_iinc (pc := 82) (v := (v4 + 1)) (lo' := [some (.ref (ad 0)), some (.ref (ad q1)), some (.int v2), some (.int (v3 + 1)), some (.int (v4 + 1)), some (.int 1)]) C dX3_positionOf_82 rfl rfl rfl ?_
              refine s_goto (pc := 85) (tgt := 5) C dX3_positionOf_85 (by decide) ?_
              refine s_few (lo' := [some (.ref (ad 0)), some (.ref (ad q1)), some (.int v2), some (.int (v3 + 1)), some (.int (v4 + 1)), none]) (lfS (lfS (lfS (lfS (lfS (lfN lf0)))))) ?_
              exact ih v2 (v3 + 1) (v4 + 1) τ_2 hf
def f_X3_positionOf (N : Nat) (q1 : Nat) (a2 : Int32) (σ : St) : Option (Int32 × St) :=
  lp_X3_positionOf_5 N q1 a2 N a2 0 0 σ
set_option maxRecDepth 100000 in
set_option maxHeartbeats 4000000 in
theorem c_X3_positionOf (l : Launch) (D : va_G) (ca : Nat → ClassId) (ad : Nat → Nat) (N : Nat) (q1 : Nat) (hq1 : SH[q1]? = some oPiece) (a2 : Int32) (σ : St) (r : Int32) (τ : St) (hf : f_X3_positionOf N q1 a2 σ = some (r, τ)) : cM l yX3_positionOf (.code yX3_positionOf cX3_positionOf 6 (some .int)) (rmk 1) D ca ad SH [.ref (ad 0), .ref (ad q1), .int a2] σ (some (.int r)) τ := by
  refine cM.intro2 (own := RX3) (lo := [some (.ref (ad 0)), some (.ref (ad q1)), some (.int a2), none, none, none]) (by decide) rfl (ccR (ccR (ccI cc0))) (Nat.le_of_ble_eq_true rfl) rfl ?_
  intro p e s m args below meth c A C hr hlk
  unfold f_X3_positionOf at hf
  refine s_iconst (pc := 0) (v := 0) C dX3_positionOf_0 (by decide) ?_
  refine s_istoren (pc := 1) (lo' := [some (.ref (ad 0)), some (.ref (ad q1)), some (.int a2), some (.int 0), none, none]) C dX3_positionOf_1 (Nat.le_of_ble_eq_true rfl) rfl ?_
  refine s_iconst (pc := 2) (v := 0) C dX3_positionOf_2 (by decide) ?_
  refine s_istore (pc := 3) (lo' := [some (.ref (ad 0)), some (.ref (ad q1)), some (.int a2), some (.int 0), some (.int 0), none]) C dX3_positionOf_3 (Nat.le_of_ble_eq_true rfl) rfl ?_
  refine s_few (lo' := [some (.ref (ad 0)), some (.ref (ad q1)), some (.int a2), some (.int 0), some (.int 0), none]) (lfS (lfS (lfS (lfS (lfS (lfN lf0)))))) ?_
  exact w_X3_positionOf_5 C hr hlk N q1 hq1 a2 r τ  N a2 0 0 σ hf
def lp_X3_fitsAlone_2 (N : Nat) (q1 : Nat) : Nat → Int32 → St → Option (Int32 × St)
  | 0, _, _ => none
  | n + 1, v2, σ =>
    if 6 ≤ v2 then
      some (0, σ)
    else
      bn (f_X0_lets N q1 v2 σ) fun r_1 τ_1 =>
      if r_1 = 0 then
        lp_X3_fitsAlone_2 N q1  n (v2 + 1) τ_1
      else
        bn (f_X0_widthIn N q1 v2 τ_1) fun r_2 τ_2 =>
        bn (f_X0_depthIn N q1 v2 τ_2) fun r_3 τ_3 =>
        bn (f_X0_heightIn N q1 v2 τ_3) fun r_4 τ_4 =>
        bn (f_X1_takes N 0 r_2 r_3 r_4 τ_4) fun r_5 τ_5 =>
        if r_5 = 0 then
          lp_X3_fitsAlone_2 N q1  n (v2 + 1) τ_5
        else
          some (1, τ_5)
set_option maxRecDepth 100000 in
set_option maxHeartbeats 4000000 in
theorem w_X3_fitsAlone_2 {l : Launch} {D : va_G} {ca : Nat → ClassId} {ad : Nat → Nat} {p : Program} {e : Env} {s : State} {m : MethodId} {args : Array Value} {below : List Frame} {meth : Method} {c : Code} {A : Nat → Prop} (C : CX p s m args c D ca A RX3 cX3_fitsAlone 3) (hr : meth.sig.returnType = (some .boolean)) (hlk : meth.locks = false) (N : Nat) (q1 : Nat) (hq1 : SH[q1]? = some oPiece) (r : Int32) (τ : St)  : ∀ (n : Nat) (v2 : Int32) (σ : St), lp_X3_fitsAlone_2 N q1  n v2 σ = some (r, τ) → WW p l e (rmk 2) s m args below meth c 0 0 (EQ D ca ad SH A below args s (some (.int r)) τ) A D ca ad SH 2 [some (.ref (ad 0)), some (.ref (ad q1)), some (.int v2)] [] σ := by
  intro n
  induction n with
  | zero => intro v2 σ hf; cases hf
  | succ n ih =>
    intro v2 σ hf
    rw [lp_X3_fitsAlone_2] at hf
    refine s_iloadn (pc := 2) C dX3_fitsAlone_2 rfl ?_
    refine s_bipush (pc := 3) (v := 6) C dX3_fitsAlone_3 (by decide) ?_
    refine s_icmp_ge (pc := 5) (tgt := 49) C dX3_fitsAlone_5 (by decide) (fun h_1 => ?_) (fun h_1 => ?_)
    · replace hf := ifp h_1 hf
      refine s_iconst (pc := 49) (v := 0) C dX3_fitsAlone_49 (by decide) ?_
      exact s_zret (pc := 50) C hr hlk dX3_fitsAlone_50 (by decide) (congrArg (fun z => some (Value.int z)) (rt hf).1) (rt hf).2
    · replace hf := ifn h_1 hf
      refine s_aloadn (pc := 8) C dX3_fitsAlone_8 rfl ?_
      refine s_iloadn (pc := 9) C dX3_fitsAlone_9 rfl ?_
      obtain ⟨r_1, τ_1, e_1, hf⟩ := bnd hf
      refine s_callV (pc := 10) (rest := []) C rfl (c_X0_lets l D ca ad N q1 hq1 v2 σ r_1 τ_1 e_1) kv_X3_223 ⟨rfl, rfl⟩ (by decide) hq1 ⟨_, rfl, rfl⟩ rfl rfl (Nat.le_of_ble_eq_true rfl) dX3_fitsAlone_10 ⟨Nat.zero_le _, Nat.zero_le _⟩ ?_
      refine s_st (st' := [.int r_1]) rfl ?_
      refine s_if_eq (pc := 13) (tgt := 43) C dX3_fitsAlone_13 (by decide) (fun h_2 => ?_) (fun h_2 => ?_)
      · replace hf := ifp h_2 hf
        refine s_iinc (pc := 43) (v := (v2 + 1)) (lo' := [some (.ref (ad 0)), some (.ref (ad q1)), some (.int (v2 + 1))]) C dX3_fitsAlone_43 rfl rfl rfl ?_
        refine s_goto (pc := 46) (tgt := 2) C dX3_fitsAlone_46 (by decide) ?_
        refine s_few (lo' := [some (.ref (ad 0)), some (.ref (ad q1)), some (.int (v2 + 1))]) (lfS (lfS (lfS lf0))) ?_
        exact ih (v2 + 1) τ_1 hf
      · replace hf := ifn h_2 hf
        refine s_aloadn (pc := 16) C dX3_fitsAlone_16 rfl ?_
        refine s_getR (pc := 17) (r := 2) C fl_X3_25 SH_0 rfl dX3_fitsAlone_17 ?_
        refine s_aloadn (pc := 20) C dX3_fitsAlone_20 rfl ?_
        refine s_iloadn (pc := 21) C dX3_fitsAlone_21 rfl ?_
        obtain ⟨r_2, τ_2, e_2, hf⟩ := bnd hf
        refine s_callV (pc := 22) (rest := [.ref (ad 2)]) C rfl (c_X0_widthIn l D ca ad N q1 hq1 v2 τ_1 r_2 τ_2 e_2) kv_X3_226 ⟨rfl, rfl⟩ (by decide) hq1 ⟨_, rfl, rfl⟩ rfl rfl (Nat.le_of_ble_eq_true rfl) dX3_fitsAlone_22 ⟨Nat.zero_le _, Nat.zero_le _⟩ ?_
        refine s_st (st' := [.int r_2, .ref (ad 2)]) rfl ?_
        refine s_aloadn (pc := 25) C dX3_fitsAlone_25 rfl ?_
        refine s_iloadn (pc := 26) C dX3_fitsAlone_26 rfl ?_
        obtain ⟨r_3, τ_3, e_3, hf⟩ := bnd hf
        refine s_callV (pc := 27) (rest := [.int r_2, .ref (ad 2)]) C rfl (c_X0_depthIn l D ca ad N q1 hq1 v2 τ_2 r_3 τ_3 e_3) kv_X3_229 ⟨rfl, rfl⟩ (by decide) hq1 ⟨_, rfl, rfl⟩ rfl rfl (Nat.le_of_ble_eq_true rfl) dX3_fitsAlone_27 ⟨Nat.zero_le _, Nat.zero_le _⟩ ?_
        refine s_st (st' := [.int r_3, .int r_2, .ref (ad 2)]) rfl ?_
        refine s_aloadn (pc := 30) C dX3_fitsAlone_30 rfl ?_
        refine s_iloadn (pc := 31) C dX3_fitsAlone_31 rfl ?_
        obtain ⟨r_4, τ_4, e_4, hf⟩ := bnd hf
        refine s_callV (pc := 32) (rest := [.int r_3, .int r_2, .ref (ad 2)]) C rfl (c_X0_heightIn l D ca ad N q1 hq1 v2 τ_3 r_4 τ_4 e_4) kv_X3_232 ⟨rfl, rfl⟩ (by decide) hq1 ⟨_, rfl, rfl⟩ rfl rfl (Nat.le_of_ble_eq_true rfl) dX3_fitsAlone_32 ⟨Nat.zero_le _, Nat.zero_le _⟩ ?_
        refine s_st (st' := [.int r_4, .int r_3, .int r_2, .ref (ad 2)]) rfl ?_
        obtain ⟨r_5, τ_5, e_5, hf⟩ := bnd hf
        refine s_callV (pc := 35) (rest := []) C rfl (c_X1_takes l D ca ad N 0 (by decide : 0 < 2) r_2 r_3 r_4 τ_4 r_5 τ_5 e_5) kv_X3_235 ⟨rfl, rfl⟩ (by decide) (SH_plan (by decide : 0 < 2)) ⟨_, rfl, rfl⟩ rfl rfl (Nat.le_of_ble_eq_true rfl) dX3_fitsAlone_35 ⟨Nat.zero_le _, Nat.zero_le _⟩ ?_
        refine s_st (st' := [.int r_5]) rfl ?_
        refine s_if_eq (pc := 38) (tgt := 43) C dX3_fitsAlone_38 (by decide) (fun h_3 => ?_) (fun h_3 => ?_)
        · replace hf := ifp h_3 hf
          refine s_iinc (pc := 43) (v := (v2 + 1)) (lo' := [some (.ref (ad 0)), some (.ref (ad q1)), some (.int (v2 + 1))]) C dX3_fitsAlone_43 rfl rfl rfl ?_
          refine s_goto (pc := 46) (tgt := 2) C dX3_fitsAlone_46 (by decide) ?_
          refine s_few (lo' := [some (.ref (ad 0)), some (.ref (ad q1)), some (.int (v2 + 1))]) (lfS (lfS (lfS lf0))) ?_
          exact ih (v2 + 1) τ_5 hf
        · replace hf := ifn h_3 hf
          refine s_iconst (pc := 41) (v := 1) C dX3_fitsAlone_41 (by decide) ?_
          exact s_zret (pc := 42) C hr hlk dX3_fitsAlone_42 (by decide) (congrArg (fun z => some (Value.int z)) (rt hf).1) (rt hf).2
def f_X3_fitsAlone (N : Nat) (q1 : Nat) (σ : St) : Option (Int32 × St) :=
  lp_X3_fitsAlone_2 N q1 N 0 σ
set_option maxRecDepth 100000 in
set_option maxHeartbeats 4000000 in
theorem c_X3_fitsAlone (l : Launch) (D : va_G) (ca : Nat → ClassId) (ad : Nat → Nat) (N : Nat) (q1 : Nat) (hq1 : SH[q1]? = some oPiece) (σ : St) (r : Int32) (τ : St) (hf : f_X3_fitsAlone N q1 σ = some (r, τ)) : cM l yX3_fitsAlone (.code yX3_fitsAlone cX3_fitsAlone 3 (some .boolean)) (rmk 2) D ca ad SH [.ref (ad 0), .ref (ad q1)] σ (some (.int r)) τ := by
  refine cM.intro2 (own := RX3) (lo := [some (.ref (ad 0)), some (.ref (ad q1)), none]) (by decide) rfl (ccR (ccR cc0)) (Nat.le_of_ble_eq_true rfl) rfl ?_
  intro p e s m args below meth c A C hr hlk
  unfold f_X3_fitsAlone at hf
  refine s_iconst (pc := 0) (v := 0) C dX3_fitsAlone_0 (by decide) ?_
  refine s_istoren (pc := 1) (lo' := [some (.ref (ad 0)), some (.ref (ad q1)), some (.int 0)]) C dX3_fitsAlone_1 (Nat.le_of_ble_eq_true rfl) rfl ?_
  refine s_few (lo' := [some (.ref (ad 0)), some (.ref (ad q1)), some (.int 0)]) (lfS (lfS (lfS lf0))) ?_
  exact w_X3_fitsAlone_2 C hr hlk N q1 hq1 r τ  N 0 σ hf
def lp_X3_bound_4 (N : Nat)  : Nat → Int32 → Int32 → St → Option (Int32 × St)
  | 0, _, _, _ => none
  | n + 1, v1, v2, σ =>
    if (σ 0 4) ≤ v2 then
      bn (f_X1_boxVolume N 0 σ) fun r_1 τ_1 =>
      some ((mmin r_1 v1), τ_1)
    else
      if inb v2 6 = true then
      bn (f_X0_isPacked N (5 + ix v2) σ) fun r_2 τ_2 =>
      if r_2 = 0 then
        if inb v2 6 = true then
        bn (f_X3_fitsAlone N (5 + ix v2) τ_2) fun r_3 τ_3 =>
        if r_3 = 0 then
          lp_X3_bound_4 N   n v1 (v2 + 1) τ_3
        else
          if inb v2 6 = true then
          bn (f_X0_volume N (5 + ix v2) τ_3) fun r_4 τ_4 =>
          lp_X3_bound_4 N   n (v1 + r_4) (v2 + 1) τ_4
          else none
        else none
      else
        lp_X3_bound_4 N   n v1 (v2 + 1) τ_2
      else none
set_option maxRecDepth 100000 in
set_option maxHeartbeats 4000000 in
theorem w_X3_bound_4 {l : Launch} {D : va_G} {ca : Nat → ClassId} {ad : Nat → Nat} {p : Program} {e : Env} {s : State} {m : MethodId} {args : Array Value} {below : List Frame} {meth : Method} {c : Code} {A : Nat → Prop} (C : CX p s m args c D ca A RX3 cX3_bound 3) (hr : meth.sig.returnType = (some .int)) (hlk : meth.locks = false) (N : Nat)  (r : Int32) (τ : St)  : ∀ (n : Nat) (v1 v2 : Int32) (σ : St), lp_X3_bound_4 N   n v1 v2 σ = some (r, τ) → WW p l e (rmk 3) s m args below meth c 0 0 (EQ D ca ad SH A below args s (some (.int r)) τ) A D ca ad SH 4 [some (.ref (ad 0)), some (.int v1), some (.int v2)] [] σ := by
  intro n
  induction n with
  | zero => intro v1 v2 σ hf; cases hf
  | succ n ih =>
    intro v1 v2 σ hf
    rw [lp_X3_bound_4] at hf
    refine s_iloadn (pc := 4) C dX3_bound_4 rfl ?_
    refine s_aloadn (pc := 5) C dX3_bound_5 rfl ?_
    refine s_getI (pc := 6) C fl_X3_49 SH_0 rfl dX3_bound_6 ?_
    refine s_icmp_ge (pc := 9) (tgt := 55) C dX3_bound_9 (by decide) (fun h_1 => ?_) (fun h_1 => ?_)
    · replace hf := ifp h_1 hf
      refine s_aloadn (pc := 55) C dX3_bound_55 rfl ?_
      refine s_getR (pc := 56) (r := 2) C fl_X3_25 SH_0 rfl dX3_bound_56 ?_
      obtain ⟨r_1, τ_1, e_1, hf⟩ := bnd hf
      refine s_callV (pc := 59) (rest := []) C rfl (c_X1_boxVolume l D ca ad N 0 (by decide : 0 < 2) σ r_1 τ_1 e_1) kv_X3_125 ⟨rfl, rfl⟩ (by decide) (SH_plan (by decide : 0 < 2)) ⟨_, rfl, rfl⟩ rfl rfl (Nat.le_of_ble_eq_true rfl) dX3_bound_59 ⟨Nat.zero_le _, Nat.zero_le _⟩ ?_
      refine s_st (st' := [.int r_1]) rfl ?_
      refine s_iloadn (pc := 62) C dX3_bound_62 rfl ?_
      refine s_mmin (pc := 63) C rfl hk_X3_128 ⟨by decide, Nat.le_of_ble_eq_true rfl⟩ ⟨Nat.zero_le _, Nat.zero_le _⟩ hm_min dX3_bound_63 ?_
      exact s_iret (pc := 66) C hr hlk dX3_bound_66 (congrArg (fun z => some (Value.int z)) (rt hf).1) (rt hf).2
    · replace hf := ifn h_1 hf
      refine s_aloadn (pc := 12) C dX3_bound_12 rfl ?_
      refine s_getR (pc := 13) (r := 1) C fl_X3_15 SH_0 rfl dX3_bound_13 ?_
      refine s_iloadn (pc := 16) C dX3_bound_16 rfl ?_
      obtain ⟨g_1, hf⟩ := gd hf
      refine s_aald (pc := 17) C SH_1 (ty1 ca) g_1 dX3_bound_17 ?_
      obtain ⟨r_2, τ_2, e_2, hf⟩ := bnd hf
      refine s_callV (pc := 18) (rest := []) C rfl (c_X0_isPacked l D ca ad N (5 + ix v2) (SH_piece (inb_lt g_1)) σ r_2 τ_2 e_2) kv_X3_86 ⟨rfl, rfl⟩ (by decide) (SH_piece (inb_lt g_1)) ⟨_, rfl, rfl⟩ rfl rfl (Nat.le_of_ble_eq_true rfl) dX3_bound_18 ⟨Nat.zero_le _, Nat.zero_le _⟩ ?_
      refine s_st (st' := [.int r_2]) rfl ?_
      refine s_if_ne (pc := 21) (tgt := 49) C dX3_bound_21 (by decide) (fun h_2 => ?_) (fun h_2 => ?_)
      · replace hf := ifn h_2 hf
        refine s_iinc (pc := 49) (v := (v2 + 1)) (lo' := [some (.ref (ad 0)), some (.int v1), some (.int (v2 + 1))]) C dX3_bound_49 rfl rfl rfl ?_
        refine s_goto (pc := 52) (tgt := 4) C dX3_bound_52 (by decide) ?_
        refine s_few (lo' := [some (.ref (ad 0)), some (.int v1), some (.int (v2 + 1))]) (lfS (lfS (lfS lf0))) ?_
        exact ih v1 (v2 + 1) τ_2 hf
      · replace hf := ifp h_2 hf
        refine s_aloadn (pc := 24) C dX3_bound_24 rfl ?_
        refine s_aloadn (pc := 25) C dX3_bound_25 rfl ?_
        refine s_getR (pc := 26) (r := 1) C fl_X3_15 SH_0 rfl dX3_bound_26 ?_
        refine s_iloadn (pc := 29) C dX3_bound_29 rfl ?_
        obtain ⟨g_2, hf⟩ := gd hf
        refine s_aald (pc := 30) C SH_1 (ty1 ca) g_2 dX3_bound_30 ?_
        obtain ⟨r_3, τ_3, e_3, hf⟩ := bnd hf
        refine s_callV (pc := 31) (rest := []) C rfl (c_X3_fitsAlone l D ca ad N (5 + ix v2) (SH_piece (inb_lt g_2)) τ_2 r_3 τ_3 e_3) kv_X3_120 ⟨rfl, rfl⟩ (by decide) SH_0 ⟨_, rfl, rfl⟩ rfl rfl (Nat.le_of_ble_eq_true rfl) dX3_bound_31 ⟨Nat.zero_le _, Nat.zero_le _⟩ ?_
        refine s_st (st' := [.int r_3]) rfl ?_
        refine s_if_eq (pc := 34) (tgt := 49) C dX3_bound_34 (by decide) (fun h_3 => ?_) (fun h_3 => ?_)
        · replace hf := ifp h_3 hf
          refine s_iinc (pc := 49) (v := (v2 + 1)) (lo' := [some (.ref (ad 0)), some (.int v1), some (.int (v2 + 1))]) C dX3_bound_49 rfl rfl rfl ?_
          refine s_goto (pc := 52) (tgt := 4) C dX3_bound_52 (by decide) ?_
          refine s_few (lo' := [some (.ref (ad 0)), some (.int v1), some (.int (v2 + 1))]) (lfS (lfS (lfS lf0))) ?_
          exact ih v1 (v2 + 1) τ_3 hf
        · replace hf := ifn h_3 hf
          refine s_iloadn (pc := 37) C dX3_bound_37 rfl ?_
          refine s_aloadn (pc := 38) C dX3_bound_38 rfl ?_
          refine s_getR (pc := 39) (r := 1) C fl_X3_15 SH_0 rfl dX3_bound_39 ?_
          refine s_iloadn (pc := 42) C dX3_bound_42 rfl ?_
          obtain ⟨g_3, hf⟩ := gd hf
          refine s_aald (pc := 43) C SH_1 (ty1 ca) g_3 dX3_bound_43 ?_
          obtain ⟨r_4, τ_4, e_4, hf⟩ := bnd hf
          refine s_callV (pc := 44) (rest := [.int v1]) C rfl (c_X0_volume l D ca ad N (5 + ix v2) (SH_piece (inb_lt g_3)) τ_3 r_4 τ_4 e_4) kv_X3_124 ⟨rfl, rfl⟩ (by decide) (SH_piece (inb_lt g_3)) ⟨_, rfl, rfl⟩ rfl rfl (Nat.le_of_ble_eq_true rfl) dX3_bound_44 ⟨Nat.zero_le _, Nat.zero_le _⟩ ?_
          refine s_st (st' := [.int r_4, .int v1]) rfl ?_
          refine s_iadd (pc := 47) C dX3_bound_47 ?_
          refine s_istoren (pc := 48) (lo' := [some (.ref (ad 0)), some (.int (v1 + r_4)), some (.int v2)]) C dX3_bound_48 (Nat.le_of_ble_eq_true rfl) rfl ?_
          refine s_iinc (pc := 49) (v := (v2 + 1)) (lo' := [some (.ref (ad 0)), some (.int (v1 + r_4)), some (.int (v2 + 1))]) C dX3_bound_49 rfl rfl rfl ?_
          refine s_goto (pc := 52) (tgt := 4) C dX3_bound_52 (by decide) ?_
          refine s_few (lo' := [some (.ref (ad 0)), some (.int (v1 + r_4)), some (.int (v2 + 1))]) (lfS (lfS (lfS lf0))) ?_
          exact ih (v1 + r_4) (v2 + 1) τ_4 hf
def f_X3_bound (N : Nat)  (σ : St) : Option (Int32 × St) :=
  lp_X3_bound_4 N  N 0 0 σ
set_option maxRecDepth 100000 in
set_option maxHeartbeats 4000000 in
theorem c_X3_bound (l : Launch) (D : va_G) (ca : Nat → ClassId) (ad : Nat → Nat) (N : Nat)  (σ : St) (r : Int32) (τ : St) (hf : f_X3_bound N  σ = some (r, τ)) : cM l yX3_bound (.code yX3_bound cX3_bound 3 (some .int)) (rmk 3) D ca ad SH [.ref (ad 0)] σ (some (.int r)) τ := by
  refine cM.intro2 (own := RX3) (lo := [some (.ref (ad 0)), none, none]) (by decide) rfl (ccR cc0) (Nat.le_of_ble_eq_true rfl) rfl ?_
  intro p e s m args below meth c A C hr hlk
  unfold f_X3_bound at hf
  refine s_iconst (pc := 0) (v := 0) C dX3_bound_0 (by decide) ?_
  refine s_istoren (pc := 1) (lo' := [some (.ref (ad 0)), some (.int 0), none]) C dX3_bound_1 (Nat.le_of_ble_eq_true rfl) rfl ?_
  refine s_iconst (pc := 2) (v := 0) C dX3_bound_2 (by decide) ?_
  refine s_istoren (pc := 3) (lo' := [some (.ref (ad 0)), some (.int 0), some (.int 0)]) C dX3_bound_3 (Nat.le_of_ble_eq_true rfl) rfl ?_
  refine s_few (lo' := [some (.ref (ad 0)), some (.int 0), some (.int 0)]) (lfS (lfS (lfS lf0))) ?_
  exact w_X3_bound_4 C hr hlk N  r τ  N 0 0 σ hf
def f_X3_count (N : Nat) (a1 : Int32) (σ : St) : Option (Int32 × St) :=
  if a1 = 0 then
    some ((σ 0 4), σ)
  else
    if a1 = 1 then
      bn (f_X1_size N 0 σ) fun r_1 τ_1 =>
      some (r_1, τ_1)
    else
      if a1 = 2 then
        bn (f_X3_unpackedCount N σ) fun r_2 τ_2 =>
        some (r_2, τ_2)
      else
        if a1 = 3 then
          some ((σ 0 7), σ)
        else
          if a1 = 4 then
            bn (f_X1_volume N 0 σ) fun r_3 τ_3 =>
            some (r_3, τ_3)
          else
            if a1 = 5 then
              bn (f_X1_weight N 0 σ) fun r_4 τ_4 =>
              some (r_4, τ_4)
            else
              if a1 = 6 then
                bn (f_X1_top N 0 σ) fun r_5 τ_5 =>
                some (r_5, τ_5)
              else
                some ((-1), σ)
set_option maxRecDepth 100000 in
set_option maxHeartbeats 4000000 in
theorem c_X3_count (l : Launch) (D : va_G) (ca : Nat → ClassId) (ad : Nat → Nat) (N : Nat) (a1 : Int32) (σ : St) (r : Int32) (τ : St) (hf : f_X3_count N a1 σ = some (r, τ)) : cM l yX3_count (.code yX3_count cX3_count 2 (some .int)) (rmk 3) D ca ad SH [.ref (ad 0), .int a1] σ (some (.int r)) τ := by
  refine cM.intro2 (own := RX3) (lo := [some (.ref (ad 0)), some (.int a1)]) (by decide) rfl (ccR (ccI cc0)) (Nat.le_of_ble_eq_true rfl) rfl ?_
  intro p e s m args below meth c A C hr hlk
  unfold f_X3_count at hf
  refine s_iloadn (pc := 0) C dX3_count_0 rfl ?_
  by_cases h_1 : a1 = 0
  · replace hf := ifp h_1 hf
    refine s_tsw (pc := 1) (off := 43) (tgt := 44) C h_1 dX3_count_1 (by decide) ?_
    refine s_aloadn (pc := 44) C dX3_count_44 rfl ?_
    refine s_getI (pc := 45) C fl_X3_49 SH_0 rfl dX3_count_45 ?_
    exact s_iret (pc := 48) C hr hlk dX3_count_48 (congrArg (fun z => some (Value.int z)) (rt hf).1) (rt hf).2
  · replace hf := ifn h_1 hf
    by_cases h_2 : a1 = 1
    · replace hf := ifp h_2 hf
      refine s_tsw (pc := 1) (off := 48) (tgt := 49) C h_2 dX3_count_1 (by decide) ?_
      refine s_aloadn (pc := 49) C dX3_count_49 rfl ?_
      refine s_getR (pc := 50) (r := 2) C fl_X3_25 SH_0 rfl dX3_count_50 ?_
      obtain ⟨r_1, τ_1, e_1, hf⟩ := bnd hf
      refine s_callV (pc := 53) (rest := []) C rfl (c_X1_size l D ca ad N 0 (by decide : 0 < 2) σ r_1 τ_1 e_1) kv_X3_188 ⟨rfl, rfl⟩ (by decide) (SH_plan (by decide : 0 < 2)) ⟨_, rfl, rfl⟩ rfl rfl (Nat.le_of_ble_eq_true rfl) dX3_count_53 ⟨Nat.zero_le _, Nat.zero_le _⟩ ?_
      refine s_st (st' := [.int r_1]) rfl ?_
      exact s_iret (pc := 56) C hr hlk dX3_count_56 (congrArg (fun z => some (Value.int z)) (rt hf).1) (rt hf).2
    · replace hf := ifn h_2 hf
      by_cases h_3 : a1 = 2
      · replace hf := ifp h_3 hf
        refine s_tsw (pc := 1) (off := 56) (tgt := 57) C h_3 dX3_count_1 (by decide) ?_
        refine s_aloadn (pc := 57) C dX3_count_57 rfl ?_
        obtain ⟨r_2, τ_2, e_2, hf⟩ := bnd hf
        refine s_callV (pc := 58) (rest := []) C rfl (c_X3_unpackedCount l D ca ad N  σ r_2 τ_2 e_2) kv_X3_206 ⟨rfl, rfl⟩ (by decide) SH_0 ⟨_, rfl, rfl⟩ rfl rfl (Nat.le_of_ble_eq_true rfl) dX3_count_58 ⟨Nat.zero_le _, Nat.zero_le _⟩ ?_
        refine s_st (st' := [.int r_2]) rfl ?_
        exact s_iret (pc := 61) C hr hlk dX3_count_61 (congrArg (fun z => some (Value.int z)) (rt hf).1) (rt hf).2
      · replace hf := ifn h_3 hf
        by_cases h_4 : a1 = 3
        · replace hf := ifp h_4 hf
          refine s_tsw (pc := 1) (off := 61) (tgt := 62) C h_4 dX3_count_1 (by decide) ?_
          refine s_aloadn (pc := 62) C dX3_count_62 rfl ?_
          refine s_getI (pc := 63) C fl_X3_193 SH_0 rfl dX3_count_63 ?_
          exact s_iret (pc := 66) C hr hlk dX3_count_66 (congrArg (fun z => some (Value.int z)) (rt hf).1) (rt hf).2
        · replace hf := ifn h_4 hf
          by_cases h_5 : a1 = 4
          · replace hf := ifp h_5 hf
            refine s_tsw (pc := 1) (off := 66) (tgt := 67) C h_5 dX3_count_1 (by decide) ?_
            refine s_aloadn (pc := 67) C dX3_count_67 rfl ?_
            refine s_getR (pc := 68) (r := 2) C fl_X3_25 SH_0 rfl dX3_count_68 ?_
            obtain ⟨r_3, τ_3, e_3, hf⟩ := bnd hf
            refine s_callV (pc := 71) (rest := []) C rfl (c_X1_volume l D ca ad N 0 (by decide : 0 < 2) σ r_3 τ_3 e_3) kv_X3_114 ⟨rfl, rfl⟩ (by decide) (SH_plan (by decide : 0 < 2)) ⟨_, rfl, rfl⟩ rfl rfl (Nat.le_of_ble_eq_true rfl) dX3_count_71 ⟨Nat.zero_le _, Nat.zero_le _⟩ ?_
            refine s_st (st' := [.int r_3]) rfl ?_
            exact s_iret (pc := 74) C hr hlk dX3_count_74 (congrArg (fun z => some (Value.int z)) (rt hf).1) (rt hf).2
          · replace hf := ifn h_5 hf
            by_cases h_6 : a1 = 5
            · replace hf := ifp h_6 hf
              refine s_tsw (pc := 1) (off := 74) (tgt := 75) C h_6 dX3_count_1 (by decide) ?_
              refine s_aloadn (pc := 75) C dX3_count_75 rfl ?_
              refine s_getR (pc := 76) (r := 2) C fl_X3_25 SH_0 rfl dX3_count_76 ?_
              obtain ⟨r_4, τ_4, e_4, hf⟩ := bnd hf
              refine s_callV (pc := 79) (rest := []) C rfl (c_X1_weight l D ca ad N 0 (by decide : 0 < 2) σ r_4 τ_4 e_4) kv_X3_209 ⟨rfl, rfl⟩ (by decide) (SH_plan (by decide : 0 < 2)) ⟨_, rfl, rfl⟩ rfl rfl (Nat.le_of_ble_eq_true rfl) dX3_count_79 ⟨Nat.zero_le _, Nat.zero_le _⟩ ?_
              refine s_st (st' := [.int r_4]) rfl ?_
              exact s_iret (pc := 82) C hr hlk dX3_count_82 (congrArg (fun z => some (Value.int z)) (rt hf).1) (rt hf).2
            · replace hf := ifn h_6 hf
              by_cases h_7 : a1 = 6
              · replace hf := ifp h_7 hf
                refine s_tsw (pc := 1) (off := 82) (tgt := 83) C h_7 dX3_count_1 (by decide) ?_
                refine s_aloadn (pc := 83) C dX3_count_83 rfl ?_
                refine s_getR (pc := 84) (r := 2) C fl_X3_25 SH_0 rfl dX3_count_84 ?_
                obtain ⟨r_5, τ_5, e_5, hf⟩ := bnd hf
                refine s_callV (pc := 87) (rest := []) C rfl (c_X1_top l D ca ad N 0 (by decide : 0 < 2) σ r_5 τ_5 e_5) kv_X3_212 ⟨rfl, rfl⟩ (by decide) (SH_plan (by decide : 0 < 2)) ⟨_, rfl, rfl⟩ rfl rfl (Nat.le_of_ble_eq_true rfl) dX3_count_87 ⟨Nat.zero_le _, Nat.zero_le _⟩ ?_
                refine s_st (st' := [.int r_5]) rfl ?_
                exact s_iret (pc := 90) C hr hlk dX3_count_90 (congrArg (fun z => some (Value.int z)) (rt hf).1) (rt hf).2
              · replace hf := ifn h_7 hf
                have ho : (Int32.toInt a1) < 0 ∨ 6 < Int32.toInt a1 := by
                  have z0 := lv_neT h_1 (a := 0) (by decide)
                  have z1 := lv_neT h_2 (a := 1) (by decide)
                  have z2 := lv_neT h_3 (a := 2) (by decide)
                  have z3 := lv_neT h_4 (a := 3) (by decide)
                  have z4 := lv_neT h_5 (a := 4) (by decide)
                  have z5 := lv_neT h_6 (a := 5) (by decide)
                  have z6 := lv_neT h_7 (a := 6) (by decide)
                  omega
                refine s_tswD (pc := 1) (tgt := 91) C ho dX3_count_1 (by decide) ?_
                refine s_iconst (pc := 91) (v := (-1)) C dX3_count_91 (by decide) ?_
                exact s_iret (pc := 92) C hr hlk dX3_count_92 (congrArg (fun z => some (Value.int z)) (rt hf).1) (rt hf).2
def lp_X3_putInOrder_15 (N : Nat)  (k7 : Int32 → St → Option (St)) : Nat → Int32 → Int32 → St → Option (St)
  | 0, _, _, _ => none
  | n + 1, v1, v2, σ =>
    if (σ 0 4) ≤ v2 then
      k7 (v1 + 1) σ
    else
      if 6 ≤ (σ 0 5) then
        k7 (v1 + 1) σ
      else
        if inb v2 6 = true then
        if (σ (5 + ix v2) 6) = v1 then
          if inb v2 6 = true then
          bn (f_X0_isPacked N (5 + ix v2) σ) fun r_1 τ_1 =>
          if r_1 = 0 then
            if inb (τ_1 0 5) 6 = true then
            lp_X3_putInOrder_15 N  k7 n v1 (v2 + 1) (su (su τ_1 4 (ix (τ_1 0 5)) v2) 0 5 (((su τ_1 4 (ix (τ_1 0 5)) v2) 0 5) + 1))
            else none
          else
            lp_X3_putInOrder_15 N  k7 n v1 (v2 + 1) τ_1
          else none
        else
          lp_X3_putInOrder_15 N  k7 n v1 (v2 + 1) σ
        else none
set_option maxRecDepth 100000 in
set_option maxHeartbeats 4000000 in
theorem w_X3_putInOrder_15 {l : Launch} {D : va_G} {ca : Nat → ClassId} {ad : Nat → Nat} {p : Program} {e : Env} {s : State} {m : MethodId} {args : Array Value} {below : List Frame} {meth : Method} {c : Code} {A : Nat → Prop} (C : CX p s m args c D ca A RX3 cX3_putInOrder 3) (hr : meth.sig.returnType = none) (hlk : meth.locks = false) (N : Nat)  (τ : St) (k7 : Int32 → St → Option (St))  (hk7 : ∀ (w1 : Int32) (σ : St), k7 w1 σ = some τ → WW p l e (rmk 1) s m args below meth c 0 0 (EQ D ca ad SH A below args s none τ) A D ca ad SH 7 [some (.ref (ad 0)), some (.int w1), none] [] σ) : ∀ (n : Nat) (v1 v2 : Int32) (σ : St), lp_X3_putInOrder_15 N  k7 n v1 v2 σ = some τ → WW p l e (rmk 1) s m args below meth c 0 0 (EQ D ca ad SH A below args s none τ) A D ca ad SH 15 [some (.ref (ad 0)), some (.int v1), some (.int v2)] [] σ := by
  intro n
  induction n with
  | zero => intro v1 v2 σ hf; cases hf
  | succ n ih =>
    intro v1 v2 σ hf
    rw [lp_X3_putInOrder_15] at hf
    refine s_iloadn (pc := 15) C dX3_putInOrder_15 rfl ?_
    refine s_aloadn (pc := 16) C dX3_putInOrder_16 rfl ?_
    refine s_getI (pc := 17) C fl_X3_49 SH_0 rfl dX3_putInOrder_17 ?_
    refine s_icmp_ge (pc := 20) (tgt := 86) C dX3_putInOrder_20 (by decide) (fun h_1 => ?_) (fun h_1 => ?_)
    · replace hf := ifp h_1 hf
      refine s_iinc (pc := 86) (v := (v1 + 1)) (lo' := [some (.ref (ad 0)), some (.int (v1 + 1)), some (.int v2)]) C dX3_putInOrder_86 rfl rfl rfl ?_
      refine s_goto (pc := 89) (tgt := 7) C dX3_putInOrder_89 (by decide) ?_
      refine s_few (lo' := [some (.ref (ad 0)), some (.int (v1 + 1)), none]) (lfS (lfS (lfN lf0))) ?_
      exact hk7 (v1 + 1) σ hf
    · replace hf := ifn h_1 hf
      refine s_aloadn (pc := 23) C dX3_putInOrder_23 rfl ?_
      refine s_getI (pc := 24) C fl_X3_247 SH_0 rfl dX3_putInOrder_24 ?_
      refine s_aloadn (pc := 27) C dX3_putInOrder_27 rfl ?_
      refine s_getR (pc := 28) (r := 4) C fl_X3_32 SH_0 rfl dX3_putInOrder_28 ?_
      refine s_alenI (pc := 31) (v := 6) C SH_4 (ty0 ca) (by decide) dX3_putInOrder_31 ?_
      refine s_icmp_ge (pc := 32) (tgt := 86) C dX3_putInOrder_32 (by decide) (fun h_2 => ?_) (fun h_2 => ?_)
      · replace hf := ifp h_2 hf
        refine s_iinc (pc := 86) (v := (v1 + 1)) (lo' := [some (.ref (ad 0)), some (.int (v1 + 1)), some (.int v2)]) C dX3_putInOrder_86 rfl rfl rfl ?_
        refine s_goto (pc := 89) (tgt := 7) C dX3_putInOrder_89 (by decide) ?_
        refine s_few (lo' := [some (.ref (ad 0)), some (.int (v1 + 1)), none]) (lfS (lfS (lfN lf0))) ?_
        exact hk7 (v1 + 1) σ hf
      · replace hf := ifn h_2 hf
        refine s_aloadn (pc := 35) C dX3_putInOrder_35 rfl ?_
        refine s_getR (pc := 36) (r := 1) C fl_X3_15 SH_0 rfl dX3_putInOrder_36 ?_
        refine s_iloadn (pc := 39) C dX3_putInOrder_39 rfl ?_
        obtain ⟨g_1, hf⟩ := gd hf
        refine s_aald (pc := 40) C SH_1 (ty1 ca) g_1 dX3_putInOrder_40 ?_
        refine s_getI (pc := 41) C fl_X3_83 (SH_piece (inb_lt g_1)) rfl dX3_putInOrder_41 ?_
        refine s_iloadn (pc := 44) C dX3_putInOrder_44 rfl ?_
        refine s_icmp_ne (pc := 45) (tgt := 80) C dX3_putInOrder_45 (by decide) (fun h_3 => ?_) (fun h_3 => ?_)
        · replace hf := ifn h_3 hf
          refine s_iinc (pc := 80) (v := (v2 + 1)) (lo' := [some (.ref (ad 0)), some (.int v1), some (.int (v2 + 1))]) C dX3_putInOrder_80 rfl rfl rfl ?_
          refine s_goto (pc := 83) (tgt := 15) C dX3_putInOrder_83 (by decide) ?_
          refine s_few (lo' := [some (.ref (ad 0)), some (.int v1), some (.int (v2 + 1))]) (lfS (lfS (lfS lf0))) ?_
          exact ih v1 (v2 + 1) σ hf
        · replace hf := ifp h_3 hf
          refine s_aloadn (pc := 48) C dX3_putInOrder_48 rfl ?_
          refine s_getR (pc := 49) (r := 1) C fl_X3_15 SH_0 rfl dX3_putInOrder_49 ?_
          refine s_iloadn (pc := 52) C dX3_putInOrder_52 rfl ?_
          obtain ⟨g_2, hf⟩ := gd hf
          refine s_aald (pc := 53) C SH_1 (ty1 ca) g_2 dX3_putInOrder_53 ?_
          obtain ⟨r_1, τ_1, e_1, hf⟩ := bnd hf
          refine s_callV (pc := 54) (rest := []) C rfl (c_X0_isPacked l D ca ad N (5 + ix v2) (SH_piece (inb_lt g_2)) σ r_1 τ_1 e_1) kv_X3_86 ⟨rfl, rfl⟩ (by decide) (SH_piece (inb_lt g_2)) ⟨_, rfl, rfl⟩ rfl rfl (Nat.le_of_ble_eq_true rfl) dX3_putInOrder_54 ⟨Nat.zero_le _, Nat.zero_le _⟩ ?_
          refine s_st (st' := [.int r_1]) rfl ?_
          refine s_if_ne (pc := 57) (tgt := 80) C dX3_putInOrder_57 (by decide) (fun h_4 => ?_) (fun h_4 => ?_)
          · replace hf := ifn h_4 hf
            refine s_iinc (pc := 80) (v := (v2 + 1)) (lo' := [some (.ref (ad 0)), some (.int v1), some (.int (v2 + 1))]) C dX3_putInOrder_80 rfl rfl rfl ?_
            refine s_goto (pc := 83) (tgt := 15) C dX3_putInOrder_83 (by decide) ?_
            refine s_few (lo' := [some (.ref (ad 0)), some (.int v1), some (.int (v2 + 1))]) (lfS (lfS (lfS lf0))) ?_
            exact ih v1 (v2 + 1) τ_1 hf
          · replace hf := ifp h_4 hf
            refine s_aloadn (pc := 60) C dX3_putInOrder_60 rfl ?_
            refine s_getR (pc := 61) (r := 4) C fl_X3_32 SH_0 rfl dX3_putInOrder_61 ?_
            refine s_aloadn (pc := 64) C dX3_putInOrder_64 rfl ?_
            refine s_getI (pc := 65) C fl_X3_247 SH_0 rfl dX3_putInOrder_65 ?_
            refine s_iloadn (pc := 68) C dX3_putInOrder_68 rfl ?_
            obtain ⟨g_3, hf⟩ := gd hf
            refine s_iast (pc := 69) C SH_4 (ty0 ca) g_3 dX3_putInOrder_69 ?_
            refine s_aloadn (pc := 70) C dX3_putInOrder_70 rfl ?_
            refine s_dup (pc := 71) C dX3_putInOrder_71 rfl ?_
            refine s_getI (pc := 72) C fl_X3_247 SH_0 rfl dX3_putInOrder_72 ?_
            refine s_iconst (pc := 75) (v := 1) C dX3_putInOrder_75 (by decide) ?_
            refine s_iadd (pc := 76) C dX3_putInOrder_76 ?_
            refine s_putI (pc := 77) C fp_X3_247 SH_0 rfl dX3_putInOrder_77 ?_
            refine s_iinc (pc := 80) (v := (v2 + 1)) (lo' := [some (.ref (ad 0)), some (.int v1), some (.int (v2 + 1))]) C dX3_putInOrder_80 rfl rfl rfl ?_
            refine s_goto (pc := 83) (tgt := 15) C dX3_putInOrder_83 (by decide) ?_
            refine s_few (lo' := [some (.ref (ad 0)), some (.int v1), some (.int (v2 + 1))]) (lfS (lfS (lfS lf0))) ?_
            exact ih v1 (v2 + 1) (su (su τ_1 4 (ix (τ_1 0 5)) v2) 0 5 (((su τ_1 4 (ix (τ_1 0 5)) v2) 0 5) + 1)) hf
def lp_X3_putInOrder_7 (N : Nat)  : Nat → Int32 → St → Option (St)
  | 0, _, _ => none
  | n + 1, v1, σ =>
    if 9 < v1 then
      some σ
    else
      lp_X3_putInOrder_15 N  (fun w1 σ => lp_X3_putInOrder_7 N   n w1 σ) N v1 0 σ
set_option maxRecDepth 100000 in
set_option maxHeartbeats 4000000 in
theorem w_X3_putInOrder_7 {l : Launch} {D : va_G} {ca : Nat → ClassId} {ad : Nat → Nat} {p : Program} {e : Env} {s : State} {m : MethodId} {args : Array Value} {below : List Frame} {meth : Method} {c : Code} {A : Nat → Prop} (C : CX p s m args c D ca A RX3 cX3_putInOrder 3) (hr : meth.sig.returnType = none) (hlk : meth.locks = false) (N : Nat)  (τ : St)  : ∀ (n : Nat) (v1 : Int32) (σ : St), lp_X3_putInOrder_7 N   n v1 σ = some τ → WW p l e (rmk 1) s m args below meth c 0 0 (EQ D ca ad SH A below args s none τ) A D ca ad SH 7 [some (.ref (ad 0)), some (.int v1), none] [] σ := by
  intro n
  induction n with
  | zero => intro v1 σ hf; cases hf
  | succ n ih =>
    intro v1 σ hf
    rw [lp_X3_putInOrder_7] at hf
    refine s_iloadn (pc := 7) C dX3_putInOrder_7 rfl ?_
    refine s_bipush (pc := 8) (v := 9) C dX3_putInOrder_8 (by decide) ?_
    refine s_icmp_gt (pc := 10) (tgt := 92) C dX3_putInOrder_10 (by decide) (fun h_1 => ?_) (fun h_1 => ?_)
    · replace hf := ifp h_1 hf
      exact s_vret (pc := 92) C hr hlk dX3_putInOrder_92 rfl (rtv hf)
    · replace hf := ifn h_1 hf
      refine s_iconst (pc := 13) (v := 0) C dX3_putInOrder_13 (by decide) ?_
      refine s_istoren (pc := 14) (lo' := [some (.ref (ad 0)), some (.int v1), some (.int 0)]) C dX3_putInOrder_14 (Nat.le_of_ble_eq_true rfl) rfl ?_
      refine s_few (lo' := [some (.ref (ad 0)), some (.int v1), some (.int 0)]) (lfS (lfS (lfS lf0))) ?_
      exact w_X3_putInOrder_15 C hr hlk N  τ (fun w1 σ => lp_X3_putInOrder_7 N   n w1 σ) (fun w1 σ h => ih w1 σ h) N v1 0 σ hf
def f_X3_putInOrder (N : Nat)  (σ : St) : Option (St) :=
  lp_X3_putInOrder_7 N  N 0 (su σ 0 5 0)
set_option maxRecDepth 100000 in
set_option maxHeartbeats 4000000 in
theorem c_X3_putInOrder (l : Launch) (D : va_G) (ca : Nat → ClassId) (ad : Nat → Nat) (N : Nat)  (σ : St) (τ : St) (hf : f_X3_putInOrder N  σ = some τ) : cM l yX3_putInOrder (.code yX3_putInOrder cX3_putInOrder 3 none) (rmk 1) D ca ad SH [.ref (ad 0)] σ none τ := by
  refine cM.intro2 (own := RX3) (lo := [some (.ref (ad 0)), none, none]) (by decide) rfl (ccR cc0) (Nat.le_of_ble_eq_true rfl) rfl ?_
  intro p e s m args below meth c A C hr hlk
  unfold f_X3_putInOrder at hf
  refine s_aloadn (pc := 0) C dX3_putInOrder_0 rfl ?_
  refine s_iconst (pc := 1) (v := 0) C dX3_putInOrder_1 (by decide) ?_
  refine s_putI (pc := 2) C fp_X3_247 SH_0 rfl dX3_putInOrder_2 ?_
  refine s_iconst (pc := 5) (v := 0) C dX3_putInOrder_5 (by decide) ?_
  refine s_istoren (pc := 6) (lo' := [some (.ref (ad 0)), some (.int 0), none]) C dX3_putInOrder_6 (Nat.le_of_ble_eq_true rfl) rfl ?_
  refine s_few (lo' := [some (.ref (ad 0)), some (.int 0), none]) (lfS (lfS (lfN lf0))) ?_
  exact w_X3_putInOrder_7 C hr hlk N  τ  N 0 (su σ 0 5 0) hf
def f_X3_startSearch (N : Nat) (a1 : Int32) (σ : St) : Option (St) :=
  bv (f_X1_clear N 0 σ) fun τ_1 =>
  bv (f_X3_putInOrder N (su (su (su (su τ_1 0 8 a1) 0 9 0) 0 10 (-1)) 0 11 0)) fun τ_2 =>
  some τ_2
set_option maxRecDepth 100000 in
set_option maxHeartbeats 4000000 in
theorem c_X3_startSearch (l : Launch) (D : va_G) (ca : Nat → ClassId) (ad : Nat → Nat) (N : Nat) (a1 : Int32) (σ : St) (τ : St) (hf : f_X3_startSearch N a1 σ = some τ) : cM l yX3_startSearch (.code yX3_startSearch cX3_startSearch 2 none) (rmk 2) D ca ad SH [.ref (ad 0), .int a1] σ none τ := by
  refine cM.intro2 (own := RX3) (lo := [some (.ref (ad 0)), some (.int a1)]) (by decide) rfl (ccR (ccI cc0)) (Nat.le_of_ble_eq_true rfl) rfl ?_
  intro p e s m args below meth c A C hr hlk
  unfold f_X3_startSearch at hf
  refine s_aloadn (pc := 0) C dX3_startSearch_0 rfl ?_
  refine s_getR (pc := 1) (r := 2) C fl_X3_25 SH_0 rfl dX3_startSearch_1 ?_
  obtain ⟨τ_1, e_1, hf⟩ := bvd hf
  refine s_callV (pc := 4) (rest := []) C rfl (c_X1_clear l D ca ad N 0 (by decide : 0 < 2) σ τ_1 e_1) kv_X3_203 ⟨rfl, rfl⟩ (by decide) (SH_plan (by decide : 0 < 2)) ⟨_, rfl, rfl⟩ rfl rfl (Nat.le_of_ble_eq_true rfl) dX3_startSearch_4 ⟨Nat.zero_le _, Nat.zero_le _⟩ ?_
  refine s_st (st' := []) rfl ?_
  refine s_aloadn (pc := 7) C dX3_startSearch_7 rfl ?_
  refine s_iloadn (pc := 8) C dX3_startSearch_8 rfl ?_
  refine s_putI (pc := 9) C fp_X3_238 SH_0 rfl dX3_startSearch_9 ?_
  refine s_aloadn (pc := 12) C dX3_startSearch_12 rfl ?_
  refine s_iconst (pc := 13) (v := 0) C dX3_startSearch_13 (by decide) ?_
  refine s_putI (pc := 14) C fp_X3_117 SH_0 rfl dX3_startSearch_14 ?_
  refine s_aloadn (pc := 17) C dX3_startSearch_17 rfl ?_
  refine s_iconst (pc := 18) (v := (-1)) C dX3_startSearch_18 (by decide) ?_
  refine s_putI (pc := 19) C fp_X3_241 SH_0 rfl dX3_startSearch_19 ?_
  refine s_aloadn (pc := 22) C dX3_startSearch_22 rfl ?_
  refine s_iconst (pc := 23) (v := 0) C dX3_startSearch_23 (by decide) ?_
  refine s_putZ (pc := 24) C fp_X3_107 SH_0 rfl (by decide) dX3_startSearch_24 ?_
  refine s_aloadn (pc := 27) C dX3_startSearch_27 rfl ?_
  obtain ⟨τ_2, e_2, hf⟩ := bvd hf
  refine s_callV (pc := 28) (rest := []) C rfl (c_X3_putInOrder l D ca ad N  (su (su (su (su τ_1 0 8 a1) 0 9 0) 0 10 (-1)) 0 11 0) τ_2 e_2) kv_X3_244 ⟨rfl, rfl⟩ (by decide) SH_0 ⟨_, rfl, rfl⟩ rfl rfl (Nat.le_of_ble_eq_true rfl) dX3_startSearch_28 ⟨Nat.zero_le _, Nat.zero_le _⟩ ?_
  refine s_st (st' := []) rfl ?_
  exact s_vret (pc := 31) C hr hlk dX3_startSearch_31 rfl (rtv hf)
def f_X3_lookAtTrial (N : Nat)  (σ : St) : Option (St) :=
  bn (f_X1_volume N 1 σ) fun r_1 τ_1 =>
  if r_1 ≤ (τ_1 0 10) then
    some τ_1
  else
    bv (f_X1_copyFrom N 0 1 (su τ_1 0 10 r_1)) fun τ_2 =>
    some τ_2
set_option maxRecDepth 100000 in
set_option maxHeartbeats 4000000 in
theorem c_X3_lookAtTrial (l : Launch) (D : va_G) (ca : Nat → ClassId) (ad : Nat → Nat) (N : Nat)  (σ : St) (τ : St) (hf : f_X3_lookAtTrial N  σ = some τ) : cM l yX3_lookAtTrial (.code yX3_lookAtTrial cX3_lookAtTrial 2 none) (rmk 3) D ca ad SH [.ref (ad 0)] σ none τ := by
  refine cM.intro2 (own := RX3) (lo := [some (.ref (ad 0)), none]) (by decide) rfl (ccR cc0) (Nat.le_of_ble_eq_true rfl) rfl ?_
  intro p e s m args below meth c A C hr hlk
  unfold f_X3_lookAtTrial at hf
  refine s_aloadn (pc := 0) C dX3_lookAtTrial_0 rfl ?_
  refine s_getR (pc := 1) (r := 3) C fl_X3_29 SH_0 rfl dX3_lookAtTrial_1 ?_
  obtain ⟨r_1, τ_1, e_1, hf⟩ := bnd hf
  refine s_callV (pc := 4) (rest := []) C rfl (c_X1_volume l D ca ad N 1 (by decide : 1 < 2) σ r_1 τ_1 e_1) kv_X3_114 ⟨rfl, rfl⟩ (by decide) (SH_plan (by decide : 1 < 2)) ⟨_, rfl, rfl⟩ rfl rfl (Nat.le_of_ble_eq_true rfl) dX3_lookAtTrial_4 ⟨Nat.zero_le _, Nat.zero_le _⟩ ?_
  refine s_st (st' := [.int r_1]) rfl ?_
  refine s_istoren (pc := 7) (lo' := [some (.ref (ad 0)), some (.int r_1)]) C dX3_lookAtTrial_7 (Nat.le_of_ble_eq_true rfl) rfl ?_
  refine s_iloadn (pc := 8) C dX3_lookAtTrial_8 rfl ?_
  refine s_aloadn (pc := 9) C dX3_lookAtTrial_9 rfl ?_
  refine s_getI (pc := 10) C fl_X3_241 SH_0 rfl dX3_lookAtTrial_10 ?_
  refine s_icmp_le (pc := 13) (tgt := 32) C dX3_lookAtTrial_13 (by decide) (fun h_1 => ?_) (fun h_1 => ?_)
  · replace hf := ifp h_1 hf
    exact s_vret (pc := 32) C hr hlk dX3_lookAtTrial_32 rfl (rtv hf)
  · replace hf := ifn h_1 hf
    refine s_aloadn (pc := 16) C dX3_lookAtTrial_16 rfl ?_
    refine s_iloadn (pc := 17) C dX3_lookAtTrial_17 rfl ?_
    refine s_putI (pc := 18) C fp_X3_241 SH_0 rfl dX3_lookAtTrial_18 ?_
    refine s_aloadn (pc := 21) C dX3_lookAtTrial_21 rfl ?_
    refine s_getR (pc := 22) (r := 2) C fl_X3_25 SH_0 rfl dX3_lookAtTrial_22 ?_
    refine s_aloadn (pc := 25) C dX3_lookAtTrial_25 rfl ?_
    refine s_getR (pc := 26) (r := 3) C fl_X3_29 SH_0 rfl dX3_lookAtTrial_26 ?_
    obtain ⟨τ_2, e_2, hf⟩ := bvd hf
    refine s_callV (pc := 29) (rest := []) C rfl (c_X1_copyFrom l D ca ad N 0 (by decide : 0 < 2) 1 (by decide : 1 < 2) (su τ_1 0 10 r_1) τ_2 e_2) kv_X3_275 ⟨rfl, rfl⟩ (by decide) (SH_plan (by decide : 0 < 2)) ⟨_, rfl, rfl⟩ rfl rfl (Nat.le_of_ble_eq_true rfl) dX3_lookAtTrial_29 ⟨Nat.zero_le _, Nat.zero_le _⟩ ?_
    refine s_st (st' := []) rfl ?_
    exact s_vret (pc := 32) C hr hlk dX3_lookAtTrial_32 rfl (rtv hf)
