/-- the law's loop: some 1 where every answer was right -/
def lp_law (N : Nat) (xs : Nat → Int32) (L : Nat) : Nat → Int32 → St → Option Int32
  | 0, _, _ => none
  | n + 1, v4, σ =>
    if ((nI L) - 5) < v4 then
      some 1
    else
      if inb v4 L = true then
      if ((xs (ix v4)) &&& 31) = 0 then case_0 N xs L (fun i τ => lp_law N xs L n i τ) v4 σ else
      if ((xs (ix v4)) &&& 31) = 1 then case_1 N xs L (fun i τ => lp_law N xs L n i τ) v4 σ else
      if ((xs (ix v4)) &&& 31) = 2 then case_2 N xs L (fun i τ => lp_law N xs L n i τ) v4 σ else
      if ((xs (ix v4)) &&& 31) = 3 then case_3 N xs L (fun i τ => lp_law N xs L n i τ) v4 σ else
      if ((xs (ix v4)) &&& 31) = 4 then case_4 N xs L (fun i τ => lp_law N xs L n i τ) v4 σ else
      if ((xs (ix v4)) &&& 31) = 5 then case_5 N xs L (fun i τ => lp_law N xs L n i τ) v4 σ else
      if ((xs (ix v4)) &&& 31) = 6 then case_6 N xs L (fun i τ => lp_law N xs L n i τ) v4 σ else
      if ((xs (ix v4)) &&& 31) = 7 then case_7 N xs L (fun i τ => lp_law N xs L n i τ) v4 σ else
      if ((xs (ix v4)) &&& 31) = 8 then case_8 N xs L (fun i τ => lp_law N xs L n i τ) v4 σ else
      if ((xs (ix v4)) &&& 31) = 9 then case_9 N xs L (fun i τ => lp_law N xs L n i τ) v4 σ else
      if ((xs (ix v4)) &&& 31) = 10 then case_10 N xs L (fun i τ => lp_law N xs L n i τ) v4 σ else
      if ((xs (ix v4)) &&& 31) = 11 then case_11 N xs L (fun i τ => lp_law N xs L n i τ) v4 σ else
      if ((xs (ix v4)) &&& 31) = 12 then case_12 N xs L (fun i τ => lp_law N xs L n i τ) v4 σ else
      if ((xs (ix v4)) &&& 31) = 13 then case_13 N xs L (fun i τ => lp_law N xs L n i τ) v4 σ else
      if ((xs (ix v4)) &&& 31) = 14 then case_14 N xs L (fun i τ => lp_law N xs L n i τ) v4 σ else
      if ((xs (ix v4)) &&& 31) = 15 then case_15 N xs L (fun i τ => lp_law N xs L n i τ) v4 σ else
      if ((xs (ix v4)) &&& 31) = 16 then case_16 N xs L (fun i τ => lp_law N xs L n i τ) v4 σ else
      lp_law N xs L n (v4 + 5) σ
      else none
set_option maxRecDepth 100000 in
set_option maxHeartbeats 4000000 in
theorem w_law {l : Launch} {D : va_G} {ca : Nat → ClassId} {ad : Nat → Nat} {p : Program} {e : Env} {s : State} {m : MethodId} {below : List Frame} {meth : Method} {c : Code} {A : Nat → Prop} {b L : Nat} {xs : Nat → Int32} (C : CX p s m #[Value.ref b] c D ca A RL cL_law 7) (hr : meth.sig.returnType = ret) (hlk : meth.locks = false) (hl : l.stackTraces = false) (hXE : XE A s s.heap) (hNC : NCs s) (hX : va_X b L xs s s.heap) (hbl : b < s.heap.size) (hbA : ¬ A b) (hAe : A = fun q => s.heap.size ≤ q) (N : Nat) : ∀ (n cs ss : Nat) (v4 : Int32) (σ : St), cs + 3 * n ≤ 650184 → ss + 18 * n ≤ 7145518 → lp_law N xs L n v4 σ = some 1 → WW p l e room_1 s m #[Value.ref b] below meth c cs ss (lw_Z below #[Value.ref b] s) A D ca ad SH 53 [some (.ref b), some (.ref (ad 0)), some (.ref (ad 25)), some (.ref (ad 51)), some (.int v4), none, none] [] σ := by
  intro n
  induction n with
  | zero => intro cs ss v4 σ _ _ hf; cases hf
  | succ n ih =>
    intro cs ss v4 σ hcl hsl hf
    rw [lp_law] at hf
    refine s_iload (pc := 53) C dL_law_53 rfl ?_
    refine s_aloadn (pc := 55) C dL_law_55 rfl ?_
    refine s_slen (pc := 56) C hX hbl hbA dL_law_56 ?_
    refine s_iconst (pc := 57) (v := 5) C dL_law_57 (by decide) ?_
    refine s_isub (pc := 58) C dL_law_58 ?_
    refine s_icmp_gt (pc := 59) (tgt := 1025) C dL_law_59 (by decide) (fun h_1 => ?_) (fun h_1 => ?_)
    · replace hf := ifp h_1 hf
      refine s_iconst (pc := 1025) (v := 1) C dL_law_1025 (by decide) ?_
      exact s_lawret (pc := 1026) C hr hlk hAe dL_law_1026 ⟨by omega, by omega⟩
    · replace hf := ifn h_1 hf
      refine s_aloadn (pc := 62) C dL_law_62 rfl ?_
      refine s_iload (pc := 63) C dL_law_63 rfl ?_
      obtain ⟨g_1, hf⟩ := gd hf
      refine s_sld (pc := 65) C hX hbl hbA g_1 dL_law_65 ?_
      refine s_bipush (pc := 66) (v := 31) C dL_law_66 (by decide) ?_
      refine s_iand (pc := 68) C dL_law_68 ?_
      generalize hsw : ((xs (ix v4)) &&& 31) = sw at hf ⊢
      by_cases h_2 : sw = 0
      · replace hf := ifp h_2 hf
        refine s_tsw (pc := 69) (off := 83) (tgt := 152) C h_2 dL_law_69 (by decide) ?_
        exact wc_0 C hr hlk hl hXE hNC hX hbl hbA hAe N n (fun i τ => lp_law N xs L n i τ) (fun cs ss i τ h1 h2 h => ih cs ss i τ h1 h2 h) cs ss v4 σ hcl hsl hf
      · replace hf := ifn h_2 hf
        by_cases h_3 : sw = 1
        · replace hf := ifp h_3 hf
          refine s_tsw (pc := 69) (off := 175) (tgt := 244) C h_3 dL_law_69 (by decide) ?_
          exact wc_1 C hr hlk hl hXE hNC hX hbl hbA hAe N n (fun i τ => lp_law N xs L n i τ) (fun cs ss i τ h1 h2 h => ih cs ss i τ h1 h2 h) cs ss v4 σ hcl hsl hf
        · replace hf := ifn h_3 hf
          by_cases h_4 : sw = 2
          · replace hf := ifp h_4 hf
            refine s_tsw (pc := 69) (off := 243) (tgt := 312) C h_4 dL_law_69 (by decide) ?_
            exact wc_2 C hr hlk hl hXE hNC hX hbl hbA hAe N n (fun i τ => lp_law N xs L n i τ) (fun cs ss i τ h1 h2 h => ih cs ss i τ h1 h2 h) cs ss v4 σ hcl hsl hf
          · replace hf := ifn h_4 hf
            by_cases h_5 : sw = 3
            · replace hf := ifp h_5 hf
              refine s_tsw (pc := 69) (off := 291) (tgt := 360) C h_5 dL_law_69 (by decide) ?_
              exact wc_3 C hr hlk hl hXE hNC hX hbl hbA hAe N n (fun i τ => lp_law N xs L n i τ) (fun cs ss i τ h1 h2 h => ih cs ss i τ h1 h2 h) cs ss v4 σ hcl hsl hf
            · replace hf := ifn h_5 hf
              by_cases h_6 : sw = 4
              · replace hf := ifp h_6 hf
                refine s_tsw (pc := 69) (off := 359) (tgt := 428) C h_6 dL_law_69 (by decide) ?_
                exact wc_4 C hr hlk hl hXE hNC hX hbl hbA hAe N n (fun i τ => lp_law N xs L n i τ) (fun cs ss i τ h1 h2 h => ih cs ss i τ h1 h2 h) cs ss v4 σ hcl hsl hf
              · replace hf := ifn h_6 hf
                by_cases h_7 : sw = 5
                · replace hf := ifp h_7 hf
                  refine s_tsw (pc := 69) (off := 395) (tgt := 464) C h_7 dL_law_69 (by decide) ?_
                  exact wc_5 C hr hlk hl hXE hNC hX hbl hbA hAe N n (fun i τ => lp_law N xs L n i τ) (fun cs ss i τ h1 h2 h => ih cs ss i τ h1 h2 h) cs ss v4 σ hcl hsl hf
                · replace hf := ifn h_7 hf
                  by_cases h_8 : sw = 6
                  · replace hf := ifp h_8 hf
                    refine s_tsw (pc := 69) (off := 451) (tgt := 520) C h_8 dL_law_69 (by decide) ?_
                    exact wc_6 C hr hlk hl hXE hNC hX hbl hbA hAe N n (fun i τ => lp_law N xs L n i τ) (fun cs ss i τ h1 h2 h => ih cs ss i τ h1 h2 h) cs ss v4 σ hcl hsl hf
                  · replace hf := ifn h_8 hf
                    by_cases h_9 : sw = 7
                    · replace hf := ifp h_9 hf
                      refine s_tsw (pc := 69) (off := 464) (tgt := 533) C h_9 dL_law_69 (by decide) ?_
                      exact wc_7 C hr hlk hl hXE hNC hX hbl hbA hAe N n (fun i τ => lp_law N xs L n i τ) (fun cs ss i τ h1 h2 h => ih cs ss i τ h1 h2 h) cs ss v4 σ hcl hsl hf
                    · replace hf := ifn h_9 hf
                      by_cases h_10 : sw = 8
                      · replace hf := ifp h_10 hf
                        refine s_tsw (pc := 69) (off := 477) (tgt := 546) C h_10 dL_law_69 (by decide) ?_
                        exact wc_8 C hr hlk hl hXE hNC hX hbl hbA hAe N n (fun i τ => lp_law N xs L n i τ) (fun cs ss i τ h1 h2 h => ih cs ss i τ h1 h2 h) cs ss v4 σ hcl hsl hf
                      · replace hf := ifn h_10 hf
                        by_cases h_11 : sw = 9
                        · replace hf := ifp h_11 hf
                          refine s_tsw (pc := 69) (off := 490) (tgt := 559) C h_11 dL_law_69 (by decide) ?_
                          exact wc_9 C hr hlk hl hXE hNC hX hbl hbA hAe N n (fun i τ => lp_law N xs L n i τ) (fun cs ss i τ h1 h2 h => ih cs ss i τ h1 h2 h) cs ss v4 σ hcl hsl hf
                        · replace hf := ifn h_11 hf
                          by_cases h_12 : sw = 10
                          · replace hf := ifp h_12 hf
                            refine s_tsw (pc := 69) (off := 558) (tgt := 627) C h_12 dL_law_69 (by decide) ?_
                            exact wc_10 C hr hlk hl hXE hNC hX hbl hbA hAe N n (fun i τ => lp_law N xs L n i τ) (fun cs ss i τ h1 h2 h => ih cs ss i τ h1 h2 h) cs ss v4 σ hcl hsl hf
                          · replace hf := ifn h_12 hf
                            by_cases h_13 : sw = 11
                            · replace hf := ifp h_13 hf
                              refine s_tsw (pc := 69) (off := 633) (tgt := 702) C h_13 dL_law_69 (by decide) ?_
                              exact wc_11 C hr hlk hl hXE hNC hX hbl hbA hAe N n (fun i τ => lp_law N xs L n i τ) (fun cs ss i τ h1 h2 h => ih cs ss i τ h1 h2 h) cs ss v4 σ hcl hsl hf
                            · replace hf := ifn h_13 hf
                              by_cases h_14 : sw = 12
                              · replace hf := ifp h_14 hf
                                refine s_tsw (pc := 69) (off := 689) (tgt := 758) C h_14 dL_law_69 (by decide) ?_
                                exact wc_12 C hr hlk hl hXE hNC hX hbl hbA hAe N n (fun i τ => lp_law N xs L n i τ) (fun cs ss i τ h1 h2 h => ih cs ss i τ h1 h2 h) cs ss v4 σ hcl hsl hf
                              · replace hf := ifn h_14 hf
                                by_cases h_15 : sw = 13
                                · replace hf := ifp h_15 hf
                                  refine s_tsw (pc := 69) (off := 745) (tgt := 814) C h_15 dL_law_69 (by decide) ?_
                                  exact wc_13 C hr hlk hl hXE hNC hX hbl hbA hAe N n (fun i τ => lp_law N xs L n i τ) (fun cs ss i τ h1 h2 h => ih cs ss i τ h1 h2 h) cs ss v4 σ hcl hsl hf
                                · replace hf := ifn h_15 hf
                                  by_cases h_16 : sw = 14
                                  · replace hf := ifp h_16 hf
                                    refine s_tsw (pc := 69) (off := 825) (tgt := 894) C h_16 dL_law_69 (by decide) ?_
                                    exact wc_14 C hr hlk hl hXE hNC hX hbl hbA hAe N n (fun i τ => lp_law N xs L n i τ) (fun cs ss i τ h1 h2 h => ih cs ss i τ h1 h2 h) cs ss v4 σ hcl hsl hf
                                  · replace hf := ifn h_16 hf
                                    by_cases h_17 : sw = 15
                                    · replace hf := ifp h_17 hf
                                      refine s_tsw (pc := 69) (off := 869) (tgt := 938) C h_17 dL_law_69 (by decide) ?_
                                      exact wc_15 C hr hlk hl hXE hNC hX hbl hbA hAe N n (fun i τ => lp_law N xs L n i τ) (fun cs ss i τ h1 h2 h => ih cs ss i τ h1 h2 h) cs ss v4 σ hcl hsl hf
                                    · replace hf := ifn h_17 hf
                                      by_cases h_18 : sw = 16
                                      · replace hf := ifp h_18 hf
                                        refine s_tsw (pc := 69) (off := 925) (tgt := 994) C h_18 dL_law_69 (by decide) ?_
                                        exact wc_16 C hr hlk hl hXE hNC hX hbl hbA hAe N n (fun i τ => lp_law N xs L n i τ) (fun cs ss i τ h1 h2 h => ih cs ss i τ h1 h2 h) cs ss v4 σ hcl hsl hf
                                      · replace hf := ifn h_18 hf
                                        have ho : (Int32.toInt sw) < 0 ∨ 16 < Int32.toInt sw := by
                                          have z0 := lv_neT h_2 (a := 0) (by decide)
                                          have z1 := lv_neT h_3 (a := 1) (by decide)
                                          have z2 := lv_neT h_4 (a := 2) (by decide)
                                          have z3 := lv_neT h_5 (a := 3) (by decide)
                                          have z4 := lv_neT h_6 (a := 4) (by decide)
                                          have z5 := lv_neT h_7 (a := 5) (by decide)
                                          have z6 := lv_neT h_8 (a := 6) (by decide)
                                          have z7 := lv_neT h_9 (a := 7) (by decide)
                                          have z8 := lv_neT h_10 (a := 8) (by decide)
                                          have z9 := lv_neT h_11 (a := 9) (by decide)
                                          have z10 := lv_neT h_12 (a := 10) (by decide)
                                          have z11 := lv_neT h_13 (a := 11) (by decide)
                                          have z12 := lv_neT h_14 (a := 12) (by decide)
                                          have z13 := lv_neT h_15 (a := 13) (by decide)
                                          have z14 := lv_neT h_16 (a := 14) (by decide)
                                          have z15 := lv_neT h_17 (a := 15) (by decide)
                                          have z16 := lv_neT h_18 (a := 16) (by decide)
                                          omega
                                        refine s_tswD (pc := 69) (tgt := 1019) C ho dL_law_69 (by decide) ?_
                                        refine s_iinc (pc := 1019) (v := (v4 + 5)) (lo' := [some (.ref b), some (.ref (ad 0)), some (.ref (ad 25)), some (.ref (ad 51)), some (.int (v4 + 5)), none, none]) C dL_law_1019 rfl rfl rfl ?_
                                        refine s_goto (pc := 1022) (tgt := 53) C dL_law_1022 (by decide) ?_
                                        refine s_few (lo' := [some (.ref b), some (.ref (ad 0)), some (.ref (ad 25)), some (.ref (ad 51)), some (.int (v4 + 5)), none, none]) (lfS (lfS (lfS (lfS (lfS (lfN (lfN lf0))))))) ?_
                                        exact ih _ _ (v4 + 5) σ (by omega) (by omega) hf
