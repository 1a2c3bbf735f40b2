/-- the law's own end -/
theorem s_lawret {l : Launch} {D : va_G} {ca : Nat → ClassId} {ad : Nat → Nat} {p : Program} {e : Env} {s : State} {m : MethodId} {below : List Frame} {meth : Method} {c : Code} {A : Nat → Prop} {b pc cells slots : Nat} {sh : List sO} {lo : List (Option Value)} {σ : St} (C : CX p s m #[Value.ref b] c D ca A RL cL_law 7) (hr : meth.sig.returnType = ret) (hlk : meth.locks = false) (hAe : A = fun q => s.heap.size ≤ q) (d : decode cL_law pc = .ok (.ireturn, 1)) (hcs : cells ≤ 650184 ∧ slots ≤ 7145518) : WW p l e room_1 s m #[Value.ref b] below meth c cells slots (lw_Z below #[Value.ref b] s) A D ca ad sh pc lo [.int 1] σ := by
  intro H locs ls hP hD hS hls
  refine W.widen hcs.1 hcs.2 (va_forget (fun q hq => ?_) (lw_ret C.1 C.2.1 hr hlk d))
  have h := hS.2.2 q hq
  rw [hAe] at h
  exact h
def case_0 (N : Nat) (xs : Nat → Int32) (L : Nat) (kont : Int32 → St → Option Int32) (v4 : Int32) (σ : St) : Option Int32 :=
  if inb (v4 + 1) L = true then
  if inb (v4 + 2) L = true then
  if inb (v4 + 3) L = true then
  if inb (v4 + 4) L = true then
  bn (f_L_piece N (xs (ix (v4 + 1))) (xs (ix (v4 + 2))) (xs (ix (v4 + 3))) (xs (ix (v4 + 4))) σ) fun r_1 τ_1 =>
  if inb (v4 + 1) L = true then
  if inb (v4 + 2) L = true then
  if inb (v4 + 3) L = true then
  if inb (v4 + 4) L = true then
  bn (f_X4_piece N (xs (ix (v4 + 1))) (xs (ix (v4 + 2))) (xs (ix (v4 + 3))) (xs (ix (v4 + 4))) τ_1) fun r_2 τ_2 =>
  bn (f_X4_thrown N τ_2) fun r_3 τ_3 =>
  if r_3 = r_1 then
    if r_1 = 0 then
      if (lg_cmp (((τ_3 51 (ix 0))) : Int32).toInt64 ((r_2) : Int32).toInt64) = 0 then
        kont (v4 + 5) τ_3
      else
        some 0
    else
      kont (v4 + 5) τ_3
  else
    some 0
  else none
  else none
  else none
  else none
  else none
  else none
  else none
  else none
set_option maxRecDepth 100000 in
set_option maxHeartbeats 4000000 in
theorem wc_0 {l : Launch} {D : va_G} {ca : Nat → ClassId} {ad : Nat → Nat} {p : Program} {e : Env} {s : State} {m : MethodId} {below : List Frame} {meth : Method} {c : Code} {A : Nat → Prop} {b L : Nat} {xs : Nat → Int32} (C : CX p s m #[Value.ref b] c D ca A RL cL_law 7) (hr : meth.sig.returnType = ret) (hlk : meth.locks = false) (hl : l.stackTraces = false) (hXE : XE A s s.heap) (hNC : NCs s) (hX : va_X b L xs s s.heap) (hbl : b < s.heap.size) (hbA : ¬ A b) (hAe : A = fun q => s.heap.size ≤ q) (N n : Nat) (kont : Int32 → St → Option Int32) (ih : ∀ (cs ss : Nat) (i : Int32) (τ : St), cs + 3 * n ≤ 650184 → ss + 18 * n ≤ 7145518 → kont i τ = some 1 → WW p l e room_1 s m #[Value.ref b] below meth c cs ss (lw_Z below #[Value.ref b] s) A D ca ad SH 53 [some (.ref b), some (.ref (ad 0)), some (.ref (ad 25)), some (.ref (ad 51)), some (.int i), none, none] [] τ) (cs ss : Nat) (v4 : Int32) (σ : St) (hcl : cs + 3 * (n + 1) ≤ 650184) (hsl : ss + 18 * (n + 1) ≤ 7145518) (hf : case_0 N xs L kont v4 σ = some 1) : WW p l e room_1 s m #[Value.ref b] below meth c cs ss (lw_Z below #[Value.ref b] s) A D ca ad SH 152 [some (.ref b), some (.ref (ad 0)), some (.ref (ad 25)), some (.ref (ad 51)), some (.int v4), none, none] [] σ := by
  unfold case_0 at hf
  refine s_aloadn (pc := 152) C dL_law_152 rfl ?_
  refine s_aloadn (pc := 153) C dL_law_153 rfl ?_
  refine s_iload (pc := 154) C dL_law_154 rfl ?_
  refine s_iconst (pc := 156) (v := 1) C dL_law_156 (by decide) ?_
  refine s_iadd (pc := 157) C dL_law_157 ?_
  obtain ⟨g_1, hf⟩ := gd hf
  refine s_sld (pc := 158) C hX hbl hbA g_1 dL_law_158 ?_
  refine s_aloadn (pc := 159) C dL_law_159 rfl ?_
  refine s_iload (pc := 160) C dL_law_160 rfl ?_
  refine s_iconst (pc := 162) (v := 2) C dL_law_162 (by decide) ?_
  refine s_iadd (pc := 163) C dL_law_163 ?_
  obtain ⟨g_2, hf⟩ := gd hf
  refine s_sld (pc := 164) C hX hbl hbA g_2 dL_law_164 ?_
  refine s_aloadn (pc := 165) C dL_law_165 rfl ?_
  refine s_iload (pc := 166) C dL_law_166 rfl ?_
  refine s_iconst (pc := 168) (v := 3) C dL_law_168 (by decide) ?_
  refine s_iadd (pc := 169) C dL_law_169 ?_
  obtain ⟨g_3, hf⟩ := gd hf
  refine s_sld (pc := 170) C hX hbl hbA g_3 dL_law_170 ?_
  refine s_aloadn (pc := 171) C dL_law_171 rfl ?_
  refine s_iload (pc := 172) C dL_law_172 rfl ?_
  refine s_iconst (pc := 174) (v := 4) C dL_law_174 (by decide) ?_
  refine s_iadd (pc := 175) C dL_law_175 ?_
  obtain ⟨g_4, hf⟩ := gd hf
  refine s_sld (pc := 176) C hX hbl hbA g_4 dL_law_176 ?_
  refine s_aloadn (pc := 177) C dL_law_177 rfl ?_
  obtain ⟨r_1, τ_1, e_1, hf⟩ := bnd hf
  refine s_callH (pc := 178) (rest := []) C hXE hNC rfl (c_L_piece l D ca ad hl N (xs (ix (v4 + 1))) (xs (ix (v4 + 2))) (xs (ix (v4 + 3))) (xs (ix (v4 + 4))) σ r_1 τ_1 e_1) kh_L_79 ⟨rfl, rfl⟩ (by decide) rfl rfl (Nat.le_of_ble_eq_true rfl) dL_law_178 ⟨(by show _ ≤ 650184; omega), (by show _ ≤ 7145518; omega)⟩ ?_
  refine s_st (st' := [.int r_1]) rfl ?_
  refine s_istore (pc := 181) (lo' := [some (.ref b), some (.ref (ad 0)), some (.ref (ad 25)), some (.ref (ad 51)), some (.int v4), some (.int r_1), none]) C dL_law_181 (Nat.le_of_ble_eq_true rfl) rfl ?_
  refine s_aloadn (pc := 183) C dL_law_183 rfl ?_
  refine s_aloadn (pc := 184) C dL_law_184 rfl ?_
  refine s_iload (pc := 185) C dL_law_185 rfl ?_
  refine s_iconst (pc := 187) (v := 1) C dL_law_187 (by decide) ?_
  refine s_iadd (pc := 188) C dL_law_188 ?_
  obtain ⟨g_5, hf⟩ := gd hf
  refine s_sld (pc := 189) C hX hbl hbA g_5 dL_law_189 ?_
  refine s_aloadn (pc := 190) C dL_law_190 rfl ?_
  refine s_iload (pc := 191) C dL_law_191 rfl ?_
  refine s_iconst (pc := 193) (v := 2) C dL_law_193 (by decide) ?_
  refine s_iadd (pc := 194) C dL_law_194 ?_
  obtain ⟨g_6, hf⟩ := gd hf
  refine s_sld (pc := 195) C hX hbl hbA g_6 dL_law_195 ?_
  refine s_aloadn (pc := 196) C dL_law_196 rfl ?_
  refine s_iload (pc := 197) C dL_law_197 rfl ?_
  refine s_iconst (pc := 199) (v := 3) C dL_law_199 (by decide) ?_
  refine s_iadd (pc := 200) C dL_law_200 ?_
  obtain ⟨g_7, hf⟩ := gd hf
  refine s_sld (pc := 201) C hX hbl hbA g_7 dL_law_201 ?_
  refine s_aloadn (pc := 202) C dL_law_202 rfl ?_
  refine s_iload (pc := 203) C dL_law_203 rfl ?_
  refine s_iconst (pc := 205) (v := 4) C dL_law_205 (by decide) ?_
  refine s_iadd (pc := 206) C dL_law_206 ?_
  obtain ⟨g_8, hf⟩ := gd hf
  refine s_sld (pc := 207) C hX hbl hbA g_8 dL_law_207 ?_
  obtain ⟨r_2, τ_2, e_2, hf⟩ := bnd hf
  refine s_callV (pc := 208) (rest := []) C rfl (c_X4_piece l D ca ad N (xs (ix (v4 + 1))) (xs (ix (v4 + 2))) (xs (ix (v4 + 3))) (xs (ix (v4 + 4))) τ_1 r_2 τ_2 e_2) kv_L_82 ⟨rfl, rfl⟩ (by decide) SH_25 ⟨_, rfl, rfl⟩ rfl rfl (Nat.le_of_ble_eq_true rfl) dL_law_208 ⟨(by show _ ≤ 650184; omega), (by show _ ≤ 7145518; omega)⟩ ?_
  refine s_st (st' := [.int r_2]) rfl ?_
  refine s_istore (pc := 211) (lo' := [some (.ref b), some (.ref (ad 0)), some (.ref (ad 25)), some (.ref (ad 51)), some (.int v4), some (.int r_1), some (.int r_2)]) C dL_law_211 (Nat.le_of_ble_eq_true rfl) rfl ?_
  refine s_aloadn (pc := 213) C dL_law_213 rfl ?_
  obtain ⟨r_3, τ_3, e_3, hf⟩ := bnd hf
  refine s_callV (pc := 214) (rest := []) C rfl (c_X4_thrown l D ca ad N  τ_2 r_3 τ_3 e_3) kv_L_83 ⟨rfl, rfl⟩ (by decide) SH_25 ⟨_, rfl, rfl⟩ rfl rfl (Nat.le_of_ble_eq_true rfl) dL_law_214 ⟨(by show _ ≤ 650184; omega), (by show _ ≤ 7145518; omega)⟩ ?_
  refine s_st (st' := [.int r_3]) rfl ?_
  refine s_iload (pc := 217) C dL_law_217 rfl ?_
  refine s_icmp_eq (pc := 219) (tgt := 224) C dL_law_219 (by decide) (fun h_1 => ?_) (fun h_1 => ?_)
  · replace hf := ifp h_1 hf
    refine s_iload (pc := 224) C dL_law_224 rfl ?_
    refine s_if_ne (pc := 226) (tgt := 241) C dL_law_226 (by decide) (fun h_2 => ?_) (fun h_2 => ?_)
    · replace hf := ifn h_2 hf
      refine s_goto (pc := 241) (tgt := 1019) C dL_law_241 (by decide) ?_
      refine s_iinc (pc := 1019) (v := (v4 + 5)) (lo' := [some (.ref b), some (.ref (ad 0)), some (.ref (ad 25)), some (.ref (ad 51)), some (.int (v4 + 5)), some (.int r_1), some (.int r_2)]) C dL_law_1019 rfl rfl rfl ?_
      refine s_goto (pc := 1022) (tgt := 53) C dL_law_1022 (by decide) ?_
      refine s_few (lo' := [some (.ref b), some (.ref (ad 0)), some (.ref (ad 25)), some (.ref (ad 51)), some (.int (v4 + 5)), none, none]) (lfS (lfS (lfS (lfS (lfS (lfN (lfN lf0))))))) ?_
      exact ih _ _ (v4 + 5) τ_3 (by omega) (by omega) hf
    · replace hf := ifp h_2 hf
      refine s_aloadn (pc := 229) C dL_law_229 rfl ?_
      refine s_iconst (pc := 230) (v := 0) C dL_law_230 (by decide) ?_
      refine s_lald (pc := 231) C SH_51 (ty3 ca) (by decide) dL_law_231 ?_
      refine s_iload (pc := 232) C dL_law_232 rfl ?_
      refine s_i2l (pc := 234) C dL_law_234 ?_
      refine s_lcmp (pc := 235) C dL_law_235 ?_
      refine s_if_eq (pc := 236) (tgt := 241) C dL_law_236 (by decide) (fun h_3 => ?_) (fun h_3 => ?_)
      · replace hf := ifp h_3 hf
        refine s_goto (pc := 241) (tgt := 1019) C dL_law_241 (by decide) ?_
        refine s_iinc (pc := 1019) (v := (v4 + 5)) (lo' := [some (.ref b), some (.ref (ad 0)), some (.ref (ad 25)), some (.ref (ad 51)), some (.int (v4 + 5)), some (.int r_1), some (.int r_2)]) C dL_law_1019 rfl rfl rfl ?_
        refine s_goto (pc := 1022) (tgt := 53) C dL_law_1022 (by decide) ?_
        refine s_few (lo' := [some (.ref b), some (.ref (ad 0)), some (.ref (ad 25)), some (.ref (ad 51)), some (.int (v4 + 5)), none, none]) (lfS (lfS (lfS (lfS (lfS (lfN (lfN lf0))))))) ?_
        exact ih _ _ (v4 + 5) τ_3 (by omega) (by omega) hf
      · replace hf := ifn h_3 hf
        refine s_iconst (pc := 239) (v := 0) C dL_law_239 (by decide) ?_
        exact absurd (Option.some.inj hf) (by decide)
  · replace hf := ifn h_1 hf
    refine s_iconst (pc := 222) (v := 0) C dL_law_222 (by decide) ?_
    exact absurd (Option.some.inj hf) (by decide)
def case_1 (N : Nat) (xs : Nat → Int32) (L : Nat) (kont : Int32 → St → Option Int32) (v4 : Int32) (σ : St) : Option Int32 :=
  if inb (v4 + 1) L = true then
  if inb (v4 + 2) L = true then
  bn (f_L_turn N (xs (ix (v4 + 1))) (xs (ix (v4 + 2))) σ) fun r_1 τ_1 =>
  if inb (v4 + 1) L = true then
  if inb (v4 + 2) L = true then
  bn (f_X4_turn N (xs (ix (v4 + 1))) (xs (ix (v4 + 2))) τ_1) fun r_2 τ_2 =>
  bn (f_X4_thrown N τ_2) fun r_3 τ_3 =>
  if r_3 = r_1 then
    if r_1 = 0 then
      if (lg_cmp (((τ_3 51 (ix 0))) : Int32).toInt64 ((r_2) : Int32).toInt64) = 0 then
        kont (v4 + 5) τ_3
      else
        some 0
    else
      kont (v4 + 5) τ_3
  else
    some 0
  else none
  else none
  else none
  else none
set_option maxRecDepth 100000 in
set_option maxHeartbeats 4000000 in
theorem wc_1 {l : Launch} {D : va_G} {ca : Nat → ClassId} {ad : Nat → Nat} {p : Program} {e : Env} {s : State} {m : MethodId} {below : List Frame} {meth : Method} {c : Code} {A : Nat → Prop} {b L : Nat} {xs : Nat → Int32} (C : CX p s m #[Value.ref b] c D ca A RL cL_law 7) (hr : meth.sig.returnType = ret) (hlk : meth.locks = false) (hl : l.stackTraces = false) (hXE : XE A s s.heap) (hNC : NCs s) (hX : va_X b L xs s s.heap) (hbl : b < s.heap.size) (hbA : ¬ A b) (hAe : A = fun q => s.heap.size ≤ q) (N n : Nat) (kont : Int32 → St → Option Int32) (ih : ∀ (cs ss : Nat) (i : Int32) (τ : St), cs + 3 * n ≤ 650184 → ss + 18 * n ≤ 7145518 → kont i τ = some 1 → WW p l e room_1 s m #[Value.ref b] below meth c cs ss (lw_Z below #[Value.ref b] s) A D ca ad SH 53 [some (.ref b), some (.ref (ad 0)), some (.ref (ad 25)), some (.ref (ad 51)), some (.int i), none, none] [] τ) (cs ss : Nat) (v4 : Int32) (σ : St) (hcl : cs + 3 * (n + 1) ≤ 650184) (hsl : ss + 18 * (n + 1) ≤ 7145518) (hf : case_1 N xs L kont v4 σ = some 1) : WW p l e room_1 s m #[Value.ref b] below meth c cs ss (lw_Z below #[Value.ref b] s) A D ca ad SH 244 [some (.ref b), some (.ref (ad 0)), some (.ref (ad 25)), some (.ref (ad 51)), some (.int v4), none, none] [] σ := by
  unfold case_1 at hf
  refine s_aloadn (pc := 244) C dL_law_244 rfl ?_
  refine s_aloadn (pc := 245) C dL_law_245 rfl ?_
  refine s_iload (pc := 246) C dL_law_246 rfl ?_
  refine s_iconst (pc := 248) (v := 1) C dL_law_248 (by decide) ?_
  refine s_iadd (pc := 249) C dL_law_249 ?_
  obtain ⟨g_1, hf⟩ := gd hf
  refine s_sld (pc := 250) C hX hbl hbA g_1 dL_law_250 ?_
  refine s_aloadn (pc := 251) C dL_law_251 rfl ?_
  refine s_iload (pc := 252) C dL_law_252 rfl ?_
  refine s_iconst (pc := 254) (v := 2) C dL_law_254 (by decide) ?_
  refine s_iadd (pc := 255) C dL_law_255 ?_
  obtain ⟨g_2, hf⟩ := gd hf
  refine s_sld (pc := 256) C hX hbl hbA g_2 dL_law_256 ?_
  refine s_aloadn (pc := 257) C dL_law_257 rfl ?_
  obtain ⟨r_1, τ_1, e_1, hf⟩ := bnd hf
  refine s_callH (pc := 258) (rest := []) C hXE hNC rfl (c_L_turn l D ca ad hl N (xs (ix (v4 + 1))) (xs (ix (v4 + 2))) σ r_1 τ_1 e_1) kh_L_86 ⟨rfl, rfl⟩ (by decide) rfl rfl (Nat.le_of_ble_eq_true rfl) dL_law_258 ⟨(by show _ ≤ 650184; omega), (by show _ ≤ 7145518; omega)⟩ ?_
  refine s_st (st' := [.int r_1]) rfl ?_
  refine s_istore (pc := 261) (lo' := [some (.ref b), some (.ref (ad 0)), some (.ref (ad 25)), some (.ref (ad 51)), some (.int v4), some (.int r_1), none]) C dL_law_261 (Nat.le_of_ble_eq_true rfl) rfl ?_
  refine s_aloadn (pc := 263) C dL_law_263 rfl ?_
  refine s_aloadn (pc := 264) C dL_law_264 rfl ?_
  refine s_iload (pc := 265) C dL_law_265 rfl ?_
  refine s_iconst (pc := 267) (v := 1) C dL_law_267 (by decide) ?_
  refine s_iadd (pc := 268) C dL_law_268 ?_
  obtain ⟨g_3, hf⟩ := gd hf
  refine s_sld (pc := 269) C hX hbl hbA g_3 dL_law_269 ?_
  refine s_aloadn (pc := 270) C dL_law_270 rfl ?_
  refine s_iload (pc := 271) C dL_law_271 rfl ?_
  refine s_iconst (pc := 273) (v := 2) C dL_law_273 (by decide) ?_
  refine s_iadd (pc := 274) C dL_law_274 ?_
  obtain ⟨g_4, hf⟩ := gd hf
  refine s_sld (pc := 275) C hX hbl hbA g_4 dL_law_275 ?_
  obtain ⟨r_2, τ_2, e_2, hf⟩ := bnd hf
  refine s_callV (pc := 276) (rest := []) C rfl (c_X4_turn l D ca ad N (xs (ix (v4 + 1))) (xs (ix (v4 + 2))) τ_1 r_2 τ_2 e_2) kv_L_89 ⟨rfl, rfl⟩ (by decide) SH_25 ⟨_, rfl, rfl⟩ rfl rfl (Nat.le_of_ble_eq_true rfl) dL_law_276 ⟨(by show _ ≤ 650184; omega), (by show _ ≤ 7145518; omega)⟩ ?_
  refine s_st (st' := [.int r_2]) rfl ?_
  refine s_istore (pc := 279) (lo' := [some (.ref b), some (.ref (ad 0)), some (.ref (ad 25)), some (.ref (ad 51)), some (.int v4), some (.int r_1), some (.int r_2)]) C dL_law_279 (Nat.le_of_ble_eq_true rfl) rfl ?_
  refine s_aloadn (pc := 281) C dL_law_281 rfl ?_
  obtain ⟨r_3, τ_3, e_3, hf⟩ := bnd hf
  refine s_callV (pc := 282) (rest := []) C rfl (c_X4_thrown l D ca ad N  τ_2 r_3 τ_3 e_3) kv_L_83 ⟨rfl, rfl⟩ (by decide) SH_25 ⟨_, rfl, rfl⟩ rfl rfl (Nat.le_of_ble_eq_true rfl) dL_law_282 ⟨(by show _ ≤ 650184; omega), (by show _ ≤ 7145518; omega)⟩ ?_
  refine s_st (st' := [.int r_3]) rfl ?_
  refine s_iload (pc := 285) C dL_law_285 rfl ?_
  refine s_icmp_eq (pc := 287) (tgt := 292) C dL_law_287 (by decide) (fun h_1 => ?_) (fun h_1 => ?_)
  · replace hf := ifp h_1 hf
    refine s_iload (pc := 292) C dL_law_292 rfl ?_
    refine s_if_ne (pc := 294) (tgt := 309) C dL_law_294 (by decide) (fun h_2 => ?_) (fun h_2 => ?_)
    · replace hf := ifn h_2 hf
      refine s_goto (pc := 309) (tgt := 1019) C dL_law_309 (by decide) ?_
      refine s_iinc (pc := 1019) (v := (v4 + 5)) (lo' := [some (.ref b), some (.ref (ad 0)), some (.ref (ad 25)), some (.ref (ad 51)), some (.int (v4 + 5)), some (.int r_1), some (.int r_2)]) C dL_law_1019 rfl rfl rfl ?_
      refine s_goto (pc := 1022) (tgt := 53) C dL_law_1022 (by decide) ?_
      refine s_few (lo' := [some (.ref b), some (.ref (ad 0)), some (.ref (ad 25)), some (.ref (ad 51)), some (.int (v4 + 5)), none, none]) (lfS (lfS (lfS (lfS (lfS (lfN (lfN lf0))))))) ?_
      exact ih _ _ (v4 + 5) τ_3 (by omega) (by omega) hf
    · replace hf := ifp h_2 hf
      refine s_aloadn (pc := 297) C dL_law_297 rfl ?_
      refine s_iconst (pc := 298) (v := 0) C dL_law_298 (by decide) ?_
      refine s_lald (pc := 299) C SH_51 (ty3 ca) (by decide) dL_law_299 ?_
      refine s_iload (pc := 300) C dL_law_300 rfl ?_
      refine s_i2l (pc := 302) C dL_law_302 ?_
      refine s_lcmp (pc := 303) C dL_law_303 ?_
      refine s_if_eq (pc := 304) (tgt := 309) C dL_law_304 (by decide) (fun h_3 => ?_) (fun h_3 => ?_)
      · replace hf := ifp h_3 hf
        refine s_goto (pc := 309) (tgt := 1019) C dL_law_309 (by decide) ?_
        refine s_iinc (pc := 1019) (v := (v4 + 5)) (lo' := [some (.ref b), some (.ref (ad 0)), some (.ref (ad 25)), some (.ref (ad 51)), some (.int (v4 + 5)), some (.int r_1), some (.int r_2)]) C dL_law_1019 rfl rfl rfl ?_
        refine s_goto (pc := 1022) (tgt := 53) C dL_law_1022 (by decide) ?_
        refine s_few (lo' := [some (.ref b), some (.ref (ad 0)), some (.ref (ad 25)), some (.ref (ad 51)), some (.int (v4 + 5)), none, none]) (lfS (lfS (lfS (lfS (lfS (lfN (lfN lf0))))))) ?_
        exact ih _ _ (v4 + 5) τ_3 (by omega) (by omega) hf
      · replace hf := ifn h_3 hf
        refine s_iconst (pc := 307) (v := 0) C dL_law_307 (by decide) ?_
        exact absurd (Option.some.inj hf) (by decide)
  · replace hf := ifn h_1 hf
    refine s_iconst (pc := 290) (v := 0) C dL_law_290 (by decide) ?_
    exact absurd (Option.some.inj hf) (by decide)
def case_2 (N : Nat) (xs : Nat → Int32) (L : Nat) (kont : Int32 → St → Option Int32) (v4 : Int32) (σ : St) : Option Int32 :=
  if inb (v4 + 1) L = true then
  if inb (v4 + 2) L = true then
  bn (f_L_limit N (xs (ix (v4 + 1))) (xs (ix (v4 + 2))) σ) fun r_1 τ_1 =>
  if inb (v4 + 1) L = true then
  if inb (v4 + 2) L = true then
  bv (f_X4_limit N (xs (ix (v4 + 1))) (xs (ix (v4 + 2))) τ_1) fun τ_2 =>
  bn (f_X4_thrown N τ_2) fun r_3 τ_3 =>
  if r_3 = r_1 then
    kont (v4 + 5) τ_3
  else
    some 0
  else none
  else none
  else none
  else none
set_option maxRecDepth 100000 in
set_option maxHeartbeats 4000000 in
theorem wc_2 {l : Launch} {D : va_G} {ca : Nat → ClassId} {ad : Nat → Nat} {p : Program} {e : Env} {s : State} {m : MethodId} {below : List Frame} {meth : Method} {c : Code} {A : Nat → Prop} {b L : Nat} {xs : Nat → Int32} (C : CX p s m #[Value.ref b] c D ca A RL cL_law 7) (hr : meth.sig.returnType = ret) (hlk : meth.locks = false) (hl : l.stackTraces = false) (hXE : XE A s s.heap) (hNC : NCs s) (hX : va_X b L xs s s.heap) (hbl : b < s.heap.size) (hbA : ¬ A b) (hAe : A = fun q => s.heap.size ≤ q) (N n : Nat) (kont : Int32 → St → Option Int32) (ih : ∀ (cs ss : Nat) (i : Int32) (τ : St), cs + 3 * n ≤ 650184 → ss + 18 * n ≤ 7145518 → kont i τ = some 1 → WW p l e room_1 s m #[Value.ref b] below meth c cs ss (lw_Z below #[Value.ref b] s) A D ca ad SH 53 [some (.ref b), some (.ref (ad 0)), some (.ref (ad 25)), some (.ref (ad 51)), some (.int i), none, none] [] τ) (cs ss : Nat) (v4 : Int32) (σ : St) (hcl : cs + 3 * (n + 1) ≤ 650184) (hsl : ss + 18 * (n + 1) ≤ 7145518) (hf : case_2 N xs L kont v4 σ = some 1) : WW p l e room_1 s m #[Value.ref b] below meth c cs ss (lw_Z below #[Value.ref b] s) A D ca ad SH 312 [some (.ref b), some (.ref (ad 0)), some (.ref (ad 25)), some (.ref (ad 51)), some (.int v4), none, none] [] σ := by
  unfold case_2 at hf
  refine s_aloadn (pc := 312) C dL_law_312 rfl ?_
  refine s_aloadn (pc := 313) C dL_law_313 rfl ?_
  refine s_iload (pc := 314) C dL_law_314 rfl ?_
  refine s_iconst (pc := 316) (v := 1) C dL_law_316 (by decide) ?_
  refine s_iadd (pc := 317) C dL_law_317 ?_
  obtain ⟨g_1, hf⟩ := gd hf
  refine s_sld (pc := 318) C hX hbl hbA g_1 dL_law_318 ?_
  refine s_aloadn (pc := 319) C dL_law_319 rfl ?_
  refine s_iload (pc := 320) C dL_law_320 rfl ?_
  refine s_iconst (pc := 322) (v := 2) C dL_law_322 (by decide) ?_
  refine s_iadd (pc := 323) C dL_law_323 ?_
  obtain ⟨g_2, hf⟩ := gd hf
  refine s_sld (pc := 324) C hX hbl hbA g_2 dL_law_324 ?_
  obtain ⟨r_1, τ_1, e_1, hf⟩ := bnd hf
  refine s_callH (pc := 325) (rest := []) C hXE hNC rfl (c_L_limit l D ca ad hl N (xs (ix (v4 + 1))) (xs (ix (v4 + 2))) σ r_1 τ_1 e_1) kh_L_90 ⟨rfl, rfl⟩ (by decide) rfl rfl (Nat.le_of_ble_eq_true rfl) dL_law_325 ⟨(by show _ ≤ 650184; omega), (by show _ ≤ 7145518; omega)⟩ ?_
  refine s_st (st' := [.int r_1]) rfl ?_
  refine s_istore (pc := 328) (lo' := [some (.ref b), some (.ref (ad 0)), some (.ref (ad 25)), some (.ref (ad 51)), some (.int v4), some (.int r_1), none]) C dL_law_328 (Nat.le_of_ble_eq_true rfl) rfl ?_
  refine s_aloadn (pc := 330) C dL_law_330 rfl ?_
  refine s_aloadn (pc := 331) C dL_law_331 rfl ?_
  refine s_iload (pc := 332) C dL_law_332 rfl ?_
  refine s_iconst (pc := 334) (v := 1) C dL_law_334 (by decide) ?_
  refine s_iadd (pc := 335) C dL_law_335 ?_
  obtain ⟨g_3, hf⟩ := gd hf
  refine s_sld (pc := 336) C hX hbl hbA g_3 dL_law_336 ?_
  refine s_aloadn (pc := 337) C dL_law_337 rfl ?_
  refine s_iload (pc := 338) C dL_law_338 rfl ?_
  refine s_iconst (pc := 340) (v := 2) C dL_law_340 (by decide) ?_
  refine s_iadd (pc := 341) C dL_law_341 ?_
  obtain ⟨g_4, hf⟩ := gd hf
  refine s_sld (pc := 342) C hX hbl hbA g_4 dL_law_342 ?_
  obtain ⟨τ_2, e_2, hf⟩ := bvd hf
  refine s_callV (pc := 343) (rest := []) C rfl (c_X4_limit l D ca ad N (xs (ix (v4 + 1))) (xs (ix (v4 + 2))) τ_1 τ_2 e_2) kv_L_93 ⟨rfl, rfl⟩ (by decide) SH_25 ⟨_, rfl, rfl⟩ rfl rfl (Nat.le_of_ble_eq_true rfl) dL_law_343 ⟨(by show _ ≤ 650184; omega), (by show _ ≤ 7145518; omega)⟩ ?_
  refine s_st (st' := []) rfl ?_
  refine s_aloadn (pc := 346) C dL_law_346 rfl ?_
  obtain ⟨r_3, τ_3, e_3, hf⟩ := bnd hf
  refine s_callV (pc := 347) (rest := []) C rfl (c_X4_thrown l D ca ad N  τ_2 r_3 τ_3 e_3) kv_L_83 ⟨rfl, rfl⟩ (by decide) SH_25 ⟨_, rfl, rfl⟩ rfl rfl (Nat.le_of_ble_eq_true rfl) dL_law_347 ⟨(by show _ ≤ 650184; omega), (by show _ ≤ 7145518; omega)⟩ ?_
  refine s_st (st' := [.int r_3]) rfl ?_
  refine s_iload (pc := 350) C dL_law_350 rfl ?_
  refine s_icmp_eq (pc := 352) (tgt := 357) C dL_law_352 (by decide) (fun h_1 => ?_) (fun h_1 => ?_)
  · replace hf := ifp h_1 hf
    refine s_goto (pc := 357) (tgt := 1019) C dL_law_357 (by decide) ?_
    refine s_iinc (pc := 1019) (v := (v4 + 5)) (lo' := [some (.ref b), some (.ref (ad 0)), some (.ref (ad 25)), some (.ref (ad 51)), some (.int (v4 + 5)), some (.int r_1), none]) C dL_law_1019 rfl rfl rfl ?_
    refine s_goto (pc := 1022) (tgt := 53) C dL_law_1022 (by decide) ?_
    refine s_few (lo' := [some (.ref b), some (.ref (ad 0)), some (.ref (ad 25)), some (.ref (ad 51)), some (.int (v4 + 5)), none, none]) (lfS (lfS (lfS (lfS (lfS (lfN (lfN lf0))))))) ?_
    exact ih _ _ (v4 + 5) τ_3 (by omega) (by omega) hf
  · replace hf := ifn h_1 hf
    refine s_iconst (pc := 355) (v := 0) C dL_law_355 (by decide) ?_
    exact absurd (Option.some.inj hf) (by decide)
def case_3 (N : Nat) (xs : Nat → Int32) (L : Nat) (kont : Int32 → St → Option Int32) (v4 : Int32) (σ : St) : Option Int32 :=
  if inb (v4 + 1) L = true then
  if inb (v4 + 2) L = true then
  bn (f_L_rank N (xs (ix (v4 + 1))) (xs (ix (v4 + 2))) σ) fun r_1 τ_1 =>
  if inb (v4 + 1) L = true then
  if inb (v4 + 2) L = true then
  bn (f_X4_rank N (xs (ix (v4 + 1))) (xs (ix (v4 + 2))) τ_1) fun r_2 τ_2 =>
  bn (f_X4_thrown N τ_2) fun r_3 τ_3 =>
  if r_3 = r_1 then
    if r_1 = 0 then
      if (lg_cmp (((τ_3 51 (ix 0))) : Int32).toInt64 ((r_2) : Int32).toInt64) = 0 then
        kont (v4 + 5) τ_3
      else
        some 0
    else
      kont (v4 + 5) τ_3
  else
    some 0
  else none
  else none
  else none
  else none
set_option maxRecDepth 100000 in
set_option maxHeartbeats 4000000 in
theorem wc_3 {l : Launch} {D : va_G} {ca : Nat → ClassId} {ad : Nat → Nat} {p : Program} {e : Env} {s : State} {m : MethodId} {below : List Frame} {meth : Method} {c : Code} {A : Nat → Prop} {b L : Nat} {xs : Nat → Int32} (C : CX p s m #[Value.ref b] c D ca A RL cL_law 7) (hr : meth.sig.returnType = ret) (hlk : meth.locks = false) (hl : l.stackTraces = false) (hXE : XE A s s.heap) (hNC : NCs s) (hX : va_X b L xs s s.heap) (hbl : b < s.heap.size) (hbA : ¬ A b) (hAe : A = fun q => s.heap.size ≤ q) (N n : Nat) (kont : Int32 → St → Option Int32) (ih : ∀ (cs ss : Nat) (i : Int32) (τ : St), cs + 3 * n ≤ 650184 → ss + 18 * n ≤ 7145518 → kont i τ = some 1 → WW p l e room_1 s m #[Value.ref b] below meth c cs ss (lw_Z below #[Value.ref b] s) A D ca ad SH 53 [some (.ref b), some (.ref (ad 0)), some (.ref (ad 25)), some (.ref (ad 51)), some (.int i), none, none] [] τ) (cs ss : Nat) (v4 : Int32) (σ : St) (hcl : cs + 3 * (n + 1) ≤ 650184) (hsl : ss + 18 * (n + 1) ≤ 7145518) (hf : case_3 N xs L kont v4 σ = some 1) : WW p l e room_1 s m #[Value.ref b] below meth c cs ss (lw_Z below #[Value.ref b] s) A D ca ad SH 360 [some (.ref b), some (.ref (ad 0)), some (.ref (ad 25)), some (.ref (ad 51)), some (.int v4), none, none] [] σ := by
  unfold case_3 at hf
  refine s_aloadn (pc := 360) C dL_law_360 rfl ?_
  refine s_aloadn (pc := 361) C dL_law_361 rfl ?_
  refine s_iload (pc := 362) C dL_law_362 rfl ?_
  refine s_iconst (pc := 364) (v := 1) C dL_law_364 (by decide) ?_
  refine s_iadd (pc := 365) C dL_law_365 ?_
  obtain ⟨g_1, hf⟩ := gd hf
  refine s_sld (pc := 366) C hX hbl hbA g_1 dL_law_366 ?_
  refine s_aloadn (pc := 367) C dL_law_367 rfl ?_
  refine s_iload (pc := 368) C dL_law_368 rfl ?_
  refine s_iconst (pc := 370) (v := 2) C dL_law_370 (by decide) ?_
  refine s_iadd (pc := 371) C dL_law_371 ?_
  obtain ⟨g_2, hf⟩ := gd hf
  refine s_sld (pc := 372) C hX hbl hbA g_2 dL_law_372 ?_
  refine s_aloadn (pc := 373) C dL_law_373 rfl ?_
  obtain ⟨r_1, τ_1, e_1, hf⟩ := bnd hf
  refine s_callH (pc := 374) (rest := []) C hXE hNC rfl (c_L_rank l D ca ad hl N (xs (ix (v4 + 1))) (xs (ix (v4 + 2))) σ r_1 τ_1 e_1) kh_L_94 ⟨rfl, rfl⟩ (by decide) rfl rfl (Nat.le_of_ble_eq_true rfl) dL_law_374 ⟨(by show _ ≤ 650184; omega), (by show _ ≤ 7145518; omega)⟩ ?_
  refine s_st (st' := [.int r_1]) rfl ?_
  refine s_istore (pc := 377) (lo' := [some (.ref b), some (.ref (ad 0)), some (.ref (ad 25)), some (.ref (ad 51)), some (.int v4), some (.int r_1), none]) C dL_law_377 (Nat.le_of_ble_eq_true rfl) rfl ?_
  refine s_aloadn (pc := 379) C dL_law_379 rfl ?_
  refine s_aloadn (pc := 380) C dL_law_380 rfl ?_
  refine s_iload (pc := 381) C dL_law_381 rfl ?_
  refine s_iconst (pc := 383) (v := 1) C dL_law_383 (by decide) ?_
  refine s_iadd (pc := 384) C dL_law_384 ?_
  obtain ⟨g_3, hf⟩ := gd hf
  refine s_sld (pc := 385) C hX hbl hbA g_3 dL_law_385 ?_
  refine s_aloadn (pc := 386) C dL_law_386 rfl ?_
  refine s_iload (pc := 387) C dL_law_387 rfl ?_
  refine s_iconst (pc := 389) (v := 2) C dL_law_389 (by decide) ?_
  refine s_iadd (pc := 390) C dL_law_390 ?_
  obtain ⟨g_4, hf⟩ := gd hf
  refine s_sld (pc := 391) C hX hbl hbA g_4 dL_law_391 ?_
  obtain ⟨r_2, τ_2, e_2, hf⟩ := bnd hf
  refine s_callV (pc := 392) (rest := []) C rfl (c_X4_rank l D ca ad N (xs (ix (v4 + 1))) (xs (ix (v4 + 2))) τ_1 r_2 τ_2 e_2) kv_L_96 ⟨rfl, rfl⟩ (by decide) SH_25 ⟨_, rfl, rfl⟩ rfl rfl (Nat.le_of_ble_eq_true rfl) dL_law_392 ⟨(by show _ ≤ 650184; omega), (by show _ ≤ 7145518; omega)⟩ ?_
  refine s_st (st' := [.int r_2]) rfl ?_
  refine s_istore (pc := 395) (lo' := [some (.ref b), some (.ref (ad 0)), some (.ref (ad 25)), some (.ref (ad 51)), some (.int v4), some (.int r_1), some (.int r_2)]) C dL_law_395 (Nat.le_of_ble_eq_true rfl) rfl ?_
  refine s_aloadn (pc := 397) C dL_law_397 rfl ?_
  obtain ⟨r_3, τ_3, e_3, hf⟩ := bnd hf
  refine s_callV (pc := 398) (rest := []) C rfl (c_X4_thrown l D ca ad N  τ_2 r_3 τ_3 e_3) kv_L_83 ⟨rfl, rfl⟩ (by decide) SH_25 ⟨_, rfl, rfl⟩ rfl rfl (Nat.le_of_ble_eq_true rfl) dL_law_398 ⟨(by show _ ≤ 650184; omega), (by show _ ≤ 7145518; omega)⟩ ?_
  refine s_st (st' := [.int r_3]) rfl ?_
  refine s_iload (pc := 401) C dL_law_401 rfl ?_
  refine s_icmp_eq (pc := 403) (tgt := 408) C dL_law_403 (by decide) (fun h_1 => ?_) (fun h_1 => ?_)
  · replace hf := ifp h_1 hf
    refine s_iload (pc := 408) C dL_law_408 rfl ?_
    refine s_if_ne (pc := 410) (tgt := 425) C dL_law_410 (by decide) (fun h_2 => ?_) (fun h_2 => ?_)
    · replace hf := ifn h_2 hf
      refine s_goto (pc := 425) (tgt := 1019) C dL_law_425 (by decide) ?_
      refine s_iinc (pc := 1019) (v := (v4 + 5)) (lo' := [some (.ref b), some (.ref (ad 0)), some (.ref (ad 25)), some (.ref (ad 51)), some (.int (v4 + 5)), some (.int r_1), some (.int r_2)]) C dL_law_1019 rfl rfl rfl ?_
      refine s_goto (pc := 1022) (tgt := 53) C dL_law_1022 (by decide) ?_
      refine s_few (lo' := [some (.ref b), some (.ref (ad 0)), some (.ref (ad 25)), some (.ref (ad 51)), some (.int (v4 + 5)), none, none]) (lfS (lfS (lfS (lfS (lfS (lfN (lfN lf0))))))) ?_
      exact ih _ _ (v4 + 5) τ_3 (by omega) (by omega) hf
    · replace hf := ifp h_2 hf
      refine s_aloadn (pc := 413) C dL_law_413 rfl ?_
      refine s_iconst (pc := 414) (v := 0) C dL_law_414 (by decide) ?_
      refine s_lald (pc := 415) C SH_51 (ty3 ca) (by decide) dL_law_415 ?_
      refine s_iload (pc := 416) C dL_law_416 rfl ?_
      refine s_i2l (pc := 418) C dL_law_418 ?_
      refine s_lcmp (pc := 419) C dL_law_419 ?_
      refine s_if_eq (pc := 420) (tgt := 425) C dL_law_420 (by decide) (fun h_3 => ?_) (fun h_3 => ?_)
      · replace hf := ifp h_3 hf
        refine s_goto (pc := 425) (tgt := 1019) C dL_law_425 (by decide) ?_
        refine s_iinc (pc := 1019) (v := (v4 + 5)) (lo' := [some (.ref b), some (.ref (ad 0)), some (.ref (ad 25)), some (.ref (ad 51)), some (.int (v4 + 5)), some (.int r_1), some (.int r_2)]) C dL_law_1019 rfl rfl rfl ?_
        refine s_goto (pc := 1022) (tgt := 53) C dL_law_1022 (by decide) ?_
        refine s_few (lo' := [some (.ref b), some (.ref (ad 0)), some (.ref (ad 25)), some (.ref (ad 51)), some (.int (v4 + 5)), none, none]) (lfS (lfS (lfS (lfS (lfS (lfN (lfN lf0))))))) ?_
        exact ih _ _ (v4 + 5) τ_3 (by omega) (by omega) hf
      · replace hf := ifn h_3 hf
        refine s_iconst (pc := 423) (v := 0) C dL_law_423 (by decide) ?_
        exact absurd (Option.some.inj hf) (by decide)
  · replace hf := ifn h_1 hf
    refine s_iconst (pc := 406) (v := 0) C dL_law_406 (by decide) ?_
    exact absurd (Option.some.inj hf) (by decide)
def case_4 (N : Nat) (xs : Nat → Int32) (L : Nat) (kont : Int32 → St → Option Int32) (v4 : Int32) (σ : St) : Option Int32 :=
  if inb (v4 + 1) L = true then
  bn (f_L_share N (xs (ix (v4 + 1))) σ) fun r_1 τ_1 =>
  if inb (v4 + 1) L = true then
  bv (f_X4_share N (xs (ix (v4 + 1))) τ_1) fun τ_2 =>
  bn (f_X4_thrown N τ_2) fun r_3 τ_3 =>
  if r_3 = r_1 then
    kont (v4 + 5) τ_3
  else
    some 0
  else none
  else none
set_option maxRecDepth 100000 in
set_option maxHeartbeats 4000000 in
theorem wc_4 {l : Launch} {D : va_G} {ca : Nat → ClassId} {ad : Nat → Nat} {p : Program} {e : Env} {s : State} {m : MethodId} {below : List Frame} {meth : Method} {c : Code} {A : Nat → Prop} {b L : Nat} {xs : Nat → Int32} (C : CX p s m #[Value.ref b] c D ca A RL cL_law 7) (hr : meth.sig.returnType = ret) (hlk : meth.locks = false) (hl : l.stackTraces = false) (hXE : XE A s s.heap) (hNC : NCs s) (hX : va_X b L xs s s.heap) (hbl : b < s.heap.size) (hbA : ¬ A b) (hAe : A = fun q => s.heap.size ≤ q) (N n : Nat) (kont : Int32 → St → Option Int32) (ih : ∀ (cs ss : Nat) (i : Int32) (τ : St), cs + 3 * n ≤ 650184 → ss + 18 * n ≤ 7145518 → kont i τ = some 1 → WW p l e room_1 s m #[Value.ref b] below meth c cs ss (lw_Z below #[Value.ref b] s) A D ca ad SH 53 [some (.ref b), some (.ref (ad 0)), some (.ref (ad 25)), some (.ref (ad 51)), some (.int i), none, none] [] τ) (cs ss : Nat) (v4 : Int32) (σ : St) (hcl : cs + 3 * (n + 1) ≤ 650184) (hsl : ss + 18 * (n + 1) ≤ 7145518) (hf : case_4 N xs L kont v4 σ = some 1) : WW p l e room_1 s m #[Value.ref b] below meth c cs ss (lw_Z below #[Value.ref b] s) A D ca ad SH 428 [some (.ref b), some (.ref (ad 0)), some (.ref (ad 25)), some (.ref (ad 51)), some (.int v4), none, none] [] σ := by
  unfold case_4 at hf
  refine s_aloadn (pc := 428) C dL_law_428 rfl ?_
  refine s_aloadn (pc := 429) C dL_law_429 rfl ?_
  refine s_iload (pc := 430) C dL_law_430 rfl ?_
  refine s_iconst (pc := 432) (v := 1) C dL_law_432 (by decide) ?_
  refine s_iadd (pc := 433) C dL_law_433 ?_
  obtain ⟨g_1, hf⟩ := gd hf
  refine s_sld (pc := 434) C hX hbl hbA g_1 dL_law_434 ?_
  obtain ⟨r_1, τ_1, e_1, hf⟩ := bnd hf
  refine s_callH (pc := 435) (rest := []) C hXE hNC rfl (c_L_share l D ca ad hl N (xs (ix (v4 + 1))) σ r_1 τ_1 e_1) kh_L_97 ⟨rfl, rfl⟩ (by decide) rfl rfl (Nat.le_of_ble_eq_true rfl) dL_law_435 ⟨(by show _ ≤ 650184; omega), (by show _ ≤ 7145518; omega)⟩ ?_
  refine s_st (st' := [.int r_1]) rfl ?_
  refine s_istore (pc := 438) (lo' := [some (.ref b), some (.ref (ad 0)), some (.ref (ad 25)), some (.ref (ad 51)), some (.int v4), some (.int r_1), none]) C dL_law_438 (Nat.le_of_ble_eq_true rfl) rfl ?_
  refine s_aloadn (pc := 440) C dL_law_440 rfl ?_
  refine s_aloadn (pc := 441) C dL_law_441 rfl ?_
  refine s_iload (pc := 442) C dL_law_442 rfl ?_
  refine s_iconst (pc := 444) (v := 1) C dL_law_444 (by decide) ?_
  refine s_iadd (pc := 445) C dL_law_445 ?_
  obtain ⟨g_2, hf⟩ := gd hf
  refine s_sld (pc := 446) C hX hbl hbA g_2 dL_law_446 ?_
  obtain ⟨τ_2, e_2, hf⟩ := bvd hf
  refine s_callV (pc := 447) (rest := []) C rfl (c_X4_share l D ca ad N (xs (ix (v4 + 1))) τ_1 τ_2 e_2) kv_L_100 ⟨rfl, rfl⟩ (by decide) SH_25 ⟨_, rfl, rfl⟩ rfl rfl (Nat.le_of_ble_eq_true rfl) dL_law_447 ⟨(by show _ ≤ 650184; omega), (by show _ ≤ 7145518; omega)⟩ ?_
  refine s_st (st' := []) rfl ?_
  refine s_aloadn (pc := 450) C dL_law_450 rfl ?_
  obtain ⟨r_3, τ_3, e_3, hf⟩ := bnd hf
  refine s_callV (pc := 451) (rest := []) C rfl (c_X4_thrown l D ca ad N  τ_2 r_3 τ_3 e_3) kv_L_83 ⟨rfl, rfl⟩ (by decide) SH_25 ⟨_, rfl, rfl⟩ rfl rfl (Nat.le_of_ble_eq_true rfl) dL_law_451 ⟨(by show _ ≤ 650184; omega), (by show _ ≤ 7145518; omega)⟩ ?_
  refine s_st (st' := [.int r_3]) rfl ?_
  refine s_iload (pc := 454) C dL_law_454 rfl ?_
  refine s_icmp_eq (pc := 456) (tgt := 461) C dL_law_456 (by decide) (fun h_1 => ?_) (fun h_1 => ?_)
  · replace hf := ifp h_1 hf
    refine s_goto (pc := 461) (tgt := 1019) C dL_law_461 (by decide) ?_
    refine s_iinc (pc := 1019) (v := (v4 + 5)) (lo' := [some (.ref b), some (.ref (ad 0)), some (.ref (ad 25)), some (.ref (ad 51)), some (.int (v4 + 5)), some (.int r_1), none]) C dL_law_1019 rfl rfl rfl ?_
    refine s_goto (pc := 1022) (tgt := 53) C dL_law_1022 (by decide) ?_
    refine s_few (lo' := [some (.ref b), some (.ref (ad 0)), some (.ref (ad 25)), some (.ref (ad 51)), some (.int (v4 + 5)), none, none]) (lfS (lfS (lfS (lfS (lfS (lfN (lfN lf0))))))) ?_
    exact ih _ _ (v4 + 5) τ_3 (by omega) (by omega) hf
  · replace hf := ifn h_1 hf
    refine s_iconst (pc := 459) (v := 0) C dL_law_459 (by decide) ?_
    exact absurd (Option.some.inj hf) (by decide)
def case_5 (N : Nat) (xs : Nat → Int32) (L : Nat) (kont : Int32 → St → Option Int32) (v4 : Int32) (σ : St) : Option Int32 :=
  if inb (v4 + 1) L = true then
  bn (f_L_solve N (xs (ix (v4 + 1))) σ) fun r_1 τ_1 =>
  if inb (v4 + 1) L = true then
  bn (f_X4_solve N (xs (ix (v4 + 1))) τ_1) fun r_2 τ_2 =>
  bn (f_X4_thrown N τ_2) fun r_3 τ_3 =>
  if r_3 = r_1 then
    if r_1 = 0 then
      if (lg_cmp (((τ_3 51 (ix 0))) : Int32).toInt64 ((r_2) : Int32).toInt64) = 0 then
        kont (v4 + 5) τ_3
      else
        some 0
    else
      kont (v4 + 5) τ_3
  else
    some 0
  else none
  else none
set_option maxRecDepth 100000 in
set_option maxHeartbeats 4000000 in
theorem wc_5 {l : Launch} {D : va_G} {ca : Nat → ClassId} {ad : Nat → Nat} {p : Program} {e : Env} {s : State} {m : MethodId} {below : List Frame} {meth : Method} {c : Code} {A : Nat → Prop} {b L : Nat} {xs : Nat → Int32} (C : CX p s m #[Value.ref b] c D ca A RL cL_law 7) (hr : meth.sig.returnType = ret) (hlk : meth.locks = false) (hl : l.stackTraces = false) (hXE : XE A s s.heap) (hNC : NCs s) (hX : va_X b L xs s s.heap) (hbl : b < s.heap.size) (hbA : ¬ A b) (hAe : A = fun q => s.heap.size ≤ q) (N n : Nat) (kont : Int32 → St → Option Int32) (ih : ∀ (cs ss : Nat) (i : Int32) (τ : St), cs + 3 * n ≤ 650184 → ss + 18 * n ≤ 7145518 → kont i τ = some 1 → WW p l e room_1 s m #[Value.ref b] below meth c cs ss (lw_Z below #[Value.ref b] s) A D ca ad SH 53 [some (.ref b), some (.ref (ad 0)), some (.ref (ad 25)), some (.ref (ad 51)), some (.int i), none, none] [] τ) (cs ss : Nat) (v4 : Int32) (σ : St) (hcl : cs + 3 * (n + 1) ≤ 650184) (hsl : ss + 18 * (n + 1) ≤ 7145518) (hf : case_5 N xs L kont v4 σ = some 1) : WW p l e room_1 s m #[Value.ref b] below meth c cs ss (lw_Z below #[Value.ref b] s) A D ca ad SH 464 [some (.ref b), some (.ref (ad 0)), some (.ref (ad 25)), some (.ref (ad 51)), some (.int v4), none, none] [] σ := by
  unfold case_5 at hf
  refine s_aloadn (pc := 464) C dL_law_464 rfl ?_
  refine s_aloadn (pc := 465) C dL_law_465 rfl ?_
  refine s_iload (pc := 466) C dL_law_466 rfl ?_
  refine s_iconst (pc := 468) (v := 1) C dL_law_468 (by decide) ?_
  refine s_iadd (pc := 469) C dL_law_469 ?_
  obtain ⟨g_1, hf⟩ := gd hf
  refine s_sld (pc := 470) C hX hbl hbA g_1 dL_law_470 ?_
  refine s_aloadn (pc := 471) C dL_law_471 rfl ?_
  obtain ⟨r_1, τ_1, e_1, hf⟩ := bnd hf
  refine s_callH (pc := 472) (rest := []) C hXE hNC rfl (c_L_solve l D ca ad hl N (xs (ix (v4 + 1))) σ r_1 τ_1 e_1) kh_L_101 ⟨rfl, rfl⟩ (by decide) rfl rfl (Nat.le_of_ble_eq_true rfl) dL_law_472 ⟨(by show _ ≤ 650184; omega), (by show _ ≤ 7145518; omega)⟩ ?_
  refine s_st (st' := [.int r_1]) rfl ?_
  refine s_istore (pc := 475) (lo' := [some (.ref b), some (.ref (ad 0)), some (.ref (ad 25)), some (.ref (ad 51)), some (.int v4), some (.int r_1), none]) C dL_law_475 (Nat.le_of_ble_eq_true rfl) rfl ?_
  refine s_aloadn (pc := 477) C dL_law_477 rfl ?_
  refine s_aloadn (pc := 478) C dL_law_478 rfl ?_
  refine s_iload (pc := 479) C dL_law_479 rfl ?_
  refine s_iconst (pc := 481) (v := 1) C dL_law_481 (by decide) ?_
  refine s_iadd (pc := 482) C dL_law_482 ?_
  obtain ⟨g_2, hf⟩ := gd hf
  refine s_sld (pc := 483) C hX hbl hbA g_2 dL_law_483 ?_
  obtain ⟨r_2, τ_2, e_2, hf⟩ := bnd hf
  refine s_callV (pc := 484) (rest := []) C rfl (c_X4_solve l D ca ad N (xs (ix (v4 + 1))) τ_1 r_2 τ_2 e_2) kv_L_104 ⟨rfl, rfl⟩ (by decide) SH_25 ⟨_, rfl, rfl⟩ rfl rfl (Nat.le_of_ble_eq_true rfl) dL_law_484 ⟨(by show _ ≤ 650184; omega), (by show _ ≤ 7145518; omega)⟩ ?_
  refine s_st (st' := [.int r_2]) rfl ?_
  refine s_istore (pc := 487) (lo' := [some (.ref b), some (.ref (ad 0)), some (.ref (ad 25)), some (.ref (ad 51)), some (.int v4), some (.int r_1), some (.int r_2)]) C dL_law_487 (Nat.le_of_ble_eq_true rfl) rfl ?_
  refine s_aloadn (pc := 489) C dL_law_489 rfl ?_
  obtain ⟨r_3, τ_3, e_3, hf⟩ := bnd hf
  refine s_callV (pc := 490) (rest := []) C rfl (c_X4_thrown l D ca ad N  τ_2 r_3 τ_3 e_3) kv_L_83 ⟨rfl, rfl⟩ (by decide) SH_25 ⟨_, rfl, rfl⟩ rfl rfl (Nat.le_of_ble_eq_true rfl) dL_law_490 ⟨(by show _ ≤ 650184; omega), (by show _ ≤ 7145518; omega)⟩ ?_
  refine s_st (st' := [.int r_3]) rfl ?_
  refine s_iload (pc := 493) C dL_law_493 rfl ?_
  refine s_icmp_eq (pc := 495) (tgt := 500) C dL_law_495 (by decide) (fun h_1 => ?_) (fun h_1 => ?_)
  · replace hf := ifp h_1 hf
    refine s_iload (pc := 500) C dL_law_500 rfl ?_
    refine s_if_ne (pc := 502) (tgt := 517) C dL_law_502 (by decide) (fun h_2 => ?_) (fun h_2 => ?_)
    · replace hf := ifn h_2 hf
      refine s_goto (pc := 517) (tgt := 1019) C dL_law_517 (by decide) ?_
      refine s_iinc (pc := 1019) (v := (v4 + 5)) (lo' := [some (.ref b), some (.ref (ad 0)), some (.ref (ad 25)), some (.ref (ad 51)), some (.int (v4 + 5)), some (.int r_1), some (.int r_2)]) C dL_law_1019 rfl rfl rfl ?_
      refine s_goto (pc := 1022) (tgt := 53) C dL_law_1022 (by decide) ?_
      refine s_few (lo' := [some (.ref b), some (.ref (ad 0)), some (.ref (ad 25)), some (.ref (ad 51)), some (.int (v4 + 5)), none, none]) (lfS (lfS (lfS (lfS (lfS (lfN (lfN lf0))))))) ?_
      exact ih _ _ (v4 + 5) τ_3 (by omega) (by omega) hf
    · replace hf := ifp h_2 hf
      refine s_aloadn (pc := 505) C dL_law_505 rfl ?_
      refine s_iconst (pc := 506) (v := 0) C dL_law_506 (by decide) ?_
      refine s_lald (pc := 507) C SH_51 (ty3 ca) (by decide) dL_law_507 ?_
      refine s_iload (pc := 508) C dL_law_508 rfl ?_
      refine s_i2l (pc := 510) C dL_law_510 ?_
      refine s_lcmp (pc := 511) C dL_law_511 ?_
      refine s_if_eq (pc := 512) (tgt := 517) C dL_law_512 (by decide) (fun h_3 => ?_) (fun h_3 => ?_)
      · replace hf := ifp h_3 hf
        refine s_goto (pc := 517) (tgt := 1019) C dL_law_517 (by decide) ?_
        refine s_iinc (pc := 1019) (v := (v4 + 5)) (lo' := [some (.ref b), some (.ref (ad 0)), some (.ref (ad 25)), some (.ref (ad 51)), some (.int (v4 + 5)), some (.int r_1), some (.int r_2)]) C dL_law_1019 rfl rfl rfl ?_
        refine s_goto (pc := 1022) (tgt := 53) C dL_law_1022 (by decide) ?_
        refine s_few (lo' := [some (.ref b), some (.ref (ad 0)), some (.ref (ad 25)), some (.ref (ad 51)), some (.int (v4 + 5)), none, none]) (lfS (lfS (lfS (lfS (lfS (lfN (lfN lf0))))))) ?_
        exact ih _ _ (v4 + 5) τ_3 (by omega) (by omega) hf
      · replace hf := ifn h_3 hf
        refine s_iconst (pc := 515) (v := 0) C dL_law_515 (by decide) ?_
        exact absurd (Option.some.inj hf) (by decide)
  · replace hf := ifn h_1 hf
    refine s_iconst (pc := 498) (v := 0) C dL_law_498 (by decide) ?_
    exact absurd (Option.some.inj hf) (by decide)
def case_6 (N : Nat) (xs : Nat → Int32) (L : Nat) (kont : Int32 → St → Option Int32) (v4 : Int32) (σ : St) : Option Int32 :=
  bn (f_X3_exact N σ) fun r_1 τ_1 =>
  bn (f_X4_exact N τ_1) fun r_2 τ_2 =>
  if r_1 = r_2 then
    kont (v4 + 5) τ_2
  else
    some 0
set_option maxRecDepth 100000 in
set_option maxHeartbeats 4000000 in
theorem wc_6 {l : Launch} {D : va_G} {ca : Nat → ClassId} {ad : Nat → Nat} {p : Program} {e : Env} {s : State} {m : MethodId} {below : List Frame} {meth : Method} {c : Code} {A : Nat → Prop} {b L : Nat} {xs : Nat → Int32} (C : CX p s m #[Value.ref b] c D ca A RL cL_law 7) (hr : meth.sig.returnType = ret) (hlk : meth.locks = false) (hl : l.stackTraces = false) (hXE : XE A s s.heap) (hNC : NCs s) (hX : va_X b L xs s s.heap) (hbl : b < s.heap.size) (hbA : ¬ A b) (hAe : A = fun q => s.heap.size ≤ q) (N n : Nat) (kont : Int32 → St → Option Int32) (ih : ∀ (cs ss : Nat) (i : Int32) (τ : St), cs + 3 * n ≤ 650184 → ss + 18 * n ≤ 7145518 → kont i τ = some 1 → WW p l e room_1 s m #[Value.ref b] below meth c cs ss (lw_Z below #[Value.ref b] s) A D ca ad SH 53 [some (.ref b), some (.ref (ad 0)), some (.ref (ad 25)), some (.ref (ad 51)), some (.int i), none, none] [] τ) (cs ss : Nat) (v4 : Int32) (σ : St) (hcl : cs + 3 * (n + 1) ≤ 650184) (hsl : ss + 18 * (n + 1) ≤ 7145518) (hf : case_6 N xs L kont v4 σ = some 1) : WW p l e room_1 s m #[Value.ref b] below meth c cs ss (lw_Z below #[Value.ref b] s) A D ca ad SH 520 [some (.ref b), some (.ref (ad 0)), some (.ref (ad 25)), some (.ref (ad 51)), some (.int v4), none, none] [] σ := by
  unfold case_6 at hf
  refine s_aloadn (pc := 520) C dL_law_520 rfl ?_
  obtain ⟨r_1, τ_1, e_1, hf⟩ := bnd hf
  refine s_callV (pc := 521) (rest := []) C rfl (c_X3_exact l D ca ad N  σ r_1 τ_1 e_1) kv_L_105 ⟨rfl, rfl⟩ (by decide) SH_0 ⟨_, rfl, rfl⟩ rfl rfl (Nat.le_of_ble_eq_true rfl) dL_law_521 ⟨(by show _ ≤ 650184; omega), (by show _ ≤ 7145518; omega)⟩ ?_
  refine s_st (st' := [.int r_1]) rfl ?_
  refine s_aloadn (pc := 524) C dL_law_524 rfl ?_
  obtain ⟨r_2, τ_2, e_2, hf⟩ := bnd hf
  refine s_callV (pc := 525) (rest := [.int r_1]) C rfl (c_X4_exact l D ca ad N  τ_1 r_2 τ_2 e_2) kv_L_109 ⟨rfl, rfl⟩ (by decide) SH_25 ⟨_, rfl, rfl⟩ rfl rfl (Nat.le_of_ble_eq_true rfl) dL_law_525 ⟨(by show _ ≤ 650184; omega), (by show _ ≤ 7145518; omega)⟩ ?_
  refine s_st (st' := [.int r_2, .int r_1]) rfl ?_
  refine s_icmp_eq (pc := 528) (tgt := 1019) C dL_law_528 (by decide) (fun h_1 => ?_) (fun h_1 => ?_)
  · replace hf := ifp h_1 hf
    refine s_iinc (pc := 1019) (v := (v4 + 5)) (lo' := [some (.ref b), some (.ref (ad 0)), some (.ref (ad 25)), some (.ref (ad 51)), some (.int (v4 + 5)), none, none]) C dL_law_1019 rfl rfl rfl ?_
    refine s_goto (pc := 1022) (tgt := 53) C dL_law_1022 (by decide) ?_
    refine s_few (lo' := [some (.ref b), some (.ref (ad 0)), some (.ref (ad 25)), some (.ref (ad 51)), some (.int (v4 + 5)), none, none]) (lfS (lfS (lfS (lfS (lfS (lfN (lfN lf0))))))) ?_
    exact ih _ _ (v4 + 5) τ_2 (by omega) (by omega) hf
  · replace hf := ifn h_1 hf
    refine s_iconst (pc := 531) (v := 0) C dL_law_531 (by decide) ?_
    exact absurd (Option.some.inj hf) (by decide)
def case_7 (N : Nat) (xs : Nat → Int32) (L : Nat) (kont : Int32 → St → Option Int32) (v4 : Int32) (σ : St) : Option Int32 :=
  bn (f_X3_steps N σ) fun r_1 τ_1 =>
  bn (f_X4_steps N τ_1) fun r_2 τ_2 =>
  if r_1 = r_2 then
    kont (v4 + 5) τ_2
  else
    some 0
set_option maxRecDepth 100000 in
set_option maxHeartbeats 4000000 in
theorem wc_7 {l : Launch} {D : va_G} {ca : Nat → ClassId} {ad : Nat → Nat} {p : Program} {e : Env} {s : State} {m : MethodId} {below : List Frame} {meth : Method} {c : Code} {A : Nat → Prop} {b L : Nat} {xs : Nat → Int32} (C : CX p s m #[Value.ref b] c D ca A RL cL_law 7) (hr : meth.sig.returnType = ret) (hlk : meth.locks = false) (hl : l.stackTraces = false) (hXE : XE A s s.heap) (hNC : NCs s) (hX : va_X b L xs s s.heap) (hbl : b < s.heap.size) (hbA : ¬ A b) (hAe : A = fun q => s.heap.size ≤ q) (N n : Nat) (kont : Int32 → St → Option Int32) (ih : ∀ (cs ss : Nat) (i : Int32) (τ : St), cs + 3 * n ≤ 650184 → ss + 18 * n ≤ 7145518 → kont i τ = some 1 → WW p l e room_1 s m #[Value.ref b] below meth c cs ss (lw_Z below #[Value.ref b] s) A D ca ad SH 53 [some (.ref b), some (.ref (ad 0)), some (.ref (ad 25)), some (.ref (ad 51)), some (.int i), none, none] [] τ) (cs ss : Nat) (v4 : Int32) (σ : St) (hcl : cs + 3 * (n + 1) ≤ 650184) (hsl : ss + 18 * (n + 1) ≤ 7145518) (hf : case_7 N xs L kont v4 σ = some 1) : WW p l e room_1 s m #[Value.ref b] below meth c cs ss (lw_Z below #[Value.ref b] s) A D ca ad SH 533 [some (.ref b), some (.ref (ad 0)), some (.ref (ad 25)), some (.ref (ad 51)), some (.int v4), none, none] [] σ := by
  unfold case_7 at hf
  refine s_aloadn (pc := 533) C dL_law_533 rfl ?_
  obtain ⟨r_1, τ_1, e_1, hf⟩ := bnd hf
  refine s_callV (pc := 534) (rest := []) C rfl (c_X3_steps l D ca ad N  σ r_1 τ_1 e_1) kv_L_110 ⟨rfl, rfl⟩ (by decide) SH_0 ⟨_, rfl, rfl⟩ rfl rfl (Nat.le_of_ble_eq_true rfl) dL_law_534 ⟨(by show _ ≤ 650184; omega), (by show _ ≤ 7145518; omega)⟩ ?_
  refine s_st (st' := [.int r_1]) rfl ?_
  refine s_aloadn (pc := 537) C dL_law_537 rfl ?_
  obtain ⟨r_2, τ_2, e_2, hf⟩ := bnd hf
  refine s_callV (pc := 538) (rest := [.int r_1]) C rfl (c_X4_steps l D ca ad N  τ_1 r_2 τ_2 e_2) kv_L_113 ⟨rfl, rfl⟩ (by decide) SH_25 ⟨_, rfl, rfl⟩ rfl rfl (Nat.le_of_ble_eq_true rfl) dL_law_538 ⟨(by show _ ≤ 650184; omega), (by show _ ≤ 7145518; omega)⟩ ?_
  refine s_st (st' := [.int r_2, .int r_1]) rfl ?_
  refine s_icmp_eq (pc := 541) (tgt := 1019) C dL_law_541 (by decide) (fun h_1 => ?_) (fun h_1 => ?_)
  · replace hf := ifp h_1 hf
    refine s_iinc (pc := 1019) (v := (v4 + 5)) (lo' := [some (.ref b), some (.ref (ad 0)), some (.ref (ad 25)), some (.ref (ad 51)), some (.int (v4 + 5)), none, none]) C dL_law_1019 rfl rfl rfl ?_
    refine s_goto (pc := 1022) (tgt := 53) C dL_law_1022 (by decide) ?_
    refine s_few (lo' := [some (.ref b), some (.ref (ad 0)), some (.ref (ad 25)), some (.ref (ad 51)), some (.int (v4 + 5)), none, none]) (lfS (lfS (lfS (lfS (lfS (lfN (lfN lf0))))))) ?_
    exact ih _ _ (v4 + 5) τ_2 (by omega) (by omega) hf
  · replace hf := ifn h_1 hf
    refine s_iconst (pc := 544) (v := 0) C dL_law_544 (by decide) ?_
    exact absurd (Option.some.inj hf) (by decide)
def case_8 (N : Nat) (xs : Nat → Int32) (L : Nat) (kont : Int32 → St → Option Int32) (v4 : Int32) (σ : St) : Option Int32 :=
  bn (f_X3_bound N σ) fun r_1 τ_1 =>
  bn (f_X4_bound N τ_1) fun r_2 τ_2 =>
  if r_1 = r_2 then
    kont (v4 + 5) τ_2
  else
    some 0
set_option maxRecDepth 100000 in
set_option maxHeartbeats 4000000 in
theorem wc_8 {l : Launch} {D : va_G} {ca : Nat → ClassId} {ad : Nat → Nat} {p : Program} {e : Env} {s : State} {m : MethodId} {below : List Frame} {meth : Method} {c : Code} {A : Nat → Prop} {b L : Nat} {xs : Nat → Int32} (C : CX p s m #[Value.ref b] c D ca A RL cL_law 7) (hr : meth.sig.returnType = ret) (hlk : meth.locks = false) (hl : l.stackTraces = false) (hXE : XE A s s.heap) (hNC : NCs s) (hX : va_X b L xs s s.heap) (hbl : b < s.heap.size) (hbA : ¬ A b) (hAe : A = fun q => s.heap.size ≤ q) (N n : Nat) (kont : Int32 → St → Option Int32) (ih : ∀ (cs ss : Nat) (i : Int32) (τ : St), cs + 3 * n ≤ 650184 → ss + 18 * n ≤ 7145518 → kont i τ = some 1 → WW p l e room_1 s m #[Value.ref b] below meth c cs ss (lw_Z below #[Value.ref b] s) A D ca ad SH 53 [some (.ref b), some (.ref (ad 0)), some (.ref (ad 25)), some (.ref (ad 51)), some (.int i), none, none] [] τ) (cs ss : Nat) (v4 : Int32) (σ : St) (hcl : cs + 3 * (n + 1) ≤ 650184) (hsl : ss + 18 * (n + 1) ≤ 7145518) (hf : case_8 N xs L kont v4 σ = some 1) : WW p l e room_1 s m #[Value.ref b] below meth c cs ss (lw_Z below #[Value.ref b] s) A D ca ad SH 546 [some (.ref b), some (.ref (ad 0)), some (.ref (ad 25)), some (.ref (ad 51)), some (.int v4), none, none] [] σ := by
  unfold case_8 at hf
  refine s_aloadn (pc := 546) C dL_law_546 rfl ?_
  obtain ⟨r_1, τ_1, e_1, hf⟩ := bnd hf
  refine s_callV (pc := 547) (rest := []) C rfl (c_X3_bound l D ca ad N  σ r_1 τ_1 e_1) kv_L_114 ⟨rfl, rfl⟩ (by decide) SH_0 ⟨_, rfl, rfl⟩ rfl rfl (Nat.le_of_ble_eq_true rfl) dL_law_547 ⟨(by show _ ≤ 650184; omega), (by show _ ≤ 7145518; omega)⟩ ?_
  refine s_st (st' := [.int r_1]) rfl ?_
  refine s_aloadn (pc := 550) C dL_law_550 rfl ?_
  obtain ⟨r_2, τ_2, e_2, hf⟩ := bnd hf
  refine s_callV (pc := 551) (rest := [.int r_1]) C rfl (c_X4_bound l D ca ad N  τ_1 r_2 τ_2 e_2) kv_L_117 ⟨rfl, rfl⟩ (by decide) SH_25 ⟨_, rfl, rfl⟩ rfl rfl (Nat.le_of_ble_eq_true rfl) dL_law_551 ⟨(by show _ ≤ 650184; omega), (by show _ ≤ 7145518; omega)⟩ ?_
  refine s_st (st' := [.int r_2, .int r_1]) rfl ?_
  refine s_icmp_eq (pc := 554) (tgt := 1019) C dL_law_554 (by decide) (fun h_1 => ?_) (fun h_1 => ?_)
  · replace hf := ifp h_1 hf
    refine s_iinc (pc := 1019) (v := (v4 + 5)) (lo' := [some (.ref b), some (.ref (ad 0)), some (.ref (ad 25)), some (.ref (ad 51)), some (.int (v4 + 5)), none, none]) C dL_law_1019 rfl rfl rfl ?_
    refine s_goto (pc := 1022) (tgt := 53) C dL_law_1022 (by decide) ?_
    refine s_few (lo' := [some (.ref b), some (.ref (ad 0)), some (.ref (ad 25)), some (.ref (ad 51)), some (.int (v4 + 5)), none, none]) (lfS (lfS (lfS (lfS (lfS (lfN (lfN lf0))))))) ?_
    exact ih _ _ (v4 + 5) τ_2 (by omega) (by omega) hf
  · replace hf := ifn h_1 hf
    refine s_iconst (pc := 557) (v := 0) C dL_law_557 (by decide) ?_
    exact absurd (Option.some.inj hf) (by decide)
def case_9 (N : Nat) (xs : Nat → Int32) (L : Nat) (kont : Int32 → St → Option Int32) (v4 : Int32) (σ : St) : Option Int32 :=
  if inb (v4 + 1) L = true then
  if inb (v4 + 2) L = true then
  bn (f_L_at N (xs (ix (v4 + 1))) (xs (ix (v4 + 2))) σ) fun r_1 τ_1 =>
  if inb (v4 + 1) L = true then
  if inb (v4 + 2) L = true then
  bn (f_X4_at N (xs (ix (v4 + 1))) (xs (ix (v4 + 2))) τ_1) fun r_2 τ_2 =>
  bn (f_X4_thrown N τ_2) fun r_3 τ_3 =>
  if r_3 = r_1 then
    if r_1 = 0 then
      if (lg_cmp (((τ_3 51 (ix 0))) : Int32).toInt64 ((r_2) : Int32).toInt64) = 0 then
        kont (v4 + 5) τ_3
      else
        some 0
    else
      kont (v4 + 5) τ_3
  else
    some 0
  else none
  else none
  else none
  else none
set_option maxRecDepth 100000 in
set_option maxHeartbeats 4000000 in
theorem wc_9 {l : Launch} {D : va_G} {ca : Nat → ClassId} {ad : Nat → Nat} {p : Program} {e : Env} {s : State} {m : MethodId} {below : List Frame} {meth : Method} {c : Code} {A : Nat → Prop} {b L : Nat} {xs : Nat → Int32} (C : CX p s m #[Value.ref b] c D ca A RL cL_law 7) (hr : meth.sig.returnType = ret) (hlk : meth.locks = false) (hl : l.stackTraces = false) (hXE : XE A s s.heap) (hNC : NCs s) (hX : va_X b L xs s s.heap) (hbl : b < s.heap.size) (hbA : ¬ A b) (hAe : A = fun q => s.heap.size ≤ q) (N n : Nat) (kont : Int32 → St → Option Int32) (ih : ∀ (cs ss : Nat) (i : Int32) (τ : St), cs + 3 * n ≤ 650184 → ss + 18 * n ≤ 7145518 → kont i τ = some 1 → WW p l e room_1 s m #[Value.ref b] below meth c cs ss (lw_Z below #[Value.ref b] s) A D ca ad SH 53 [some (.ref b), some (.ref (ad 0)), some (.ref (ad 25)), some (.ref (ad 51)), some (.int i), none, none] [] τ) (cs ss : Nat) (v4 : Int32) (σ : St) (hcl : cs + 3 * (n + 1) ≤ 650184) (hsl : ss + 18 * (n + 1) ≤ 7145518) (hf : case_9 N xs L kont v4 σ = some 1) : WW p l e room_1 s m #[Value.ref b] below meth c cs ss (lw_Z below #[Value.ref b] s) A D ca ad SH 559 [some (.ref b), some (.ref (ad 0)), some (.ref (ad 25)), some (.ref (ad 51)), some (.int v4), none, none] [] σ := by
  unfold case_9 at hf
  refine s_aloadn (pc := 559) C dL_law_559 rfl ?_
  refine s_aloadn (pc := 560) C dL_law_560 rfl ?_
  refine s_iload (pc := 561) C dL_law_561 rfl ?_
  refine s_iconst (pc := 563) (v := 1) C dL_law_563 (by decide) ?_
  refine s_iadd (pc := 564) C dL_law_564 ?_
  obtain ⟨g_1, hf⟩ := gd hf
  refine s_sld (pc := 565) C hX hbl hbA g_1 dL_law_565 ?_
  refine s_aloadn (pc := 566) C dL_law_566 rfl ?_
  refine s_iload (pc := 567) C dL_law_567 rfl ?_
  refine s_iconst (pc := 569) (v := 2) C dL_law_569 (by decide) ?_
  refine s_iadd (pc := 570) C dL_law_570 ?_
  obtain ⟨g_2, hf⟩ := gd hf
  refine s_sld (pc := 571) C hX hbl hbA g_2 dL_law_571 ?_
  refine s_aloadn (pc := 572) C dL_law_572 rfl ?_
  obtain ⟨r_1, τ_1, e_1, hf⟩ := bnd hf
  refine s_callH (pc := 573) (rest := []) C hXE hNC rfl (c_L_at l D ca ad hl N (xs (ix (v4 + 1))) (xs (ix (v4 + 2))) σ r_1 τ_1 e_1) kh_L_118 ⟨rfl, rfl⟩ (by decide) rfl rfl (Nat.le_of_ble_eq_true rfl) dL_law_573 ⟨(by show _ ≤ 650184; omega), (by show _ ≤ 7145518; omega)⟩ ?_
  refine s_st (st' := [.int r_1]) rfl ?_
  refine s_istore (pc := 576) (lo' := [some (.ref b), some (.ref (ad 0)), some (.ref (ad 25)), some (.ref (ad 51)), some (.int v4), some (.int r_1), none]) C dL_law_576 (Nat.le_of_ble_eq_true rfl) rfl ?_
  refine s_aloadn (pc := 578) C dL_law_578 rfl ?_
  refine s_aloadn (pc := 579) C dL_law_579 rfl ?_
  refine s_iload (pc := 580) C dL_law_580 rfl ?_
  refine s_iconst (pc := 582) (v := 1) C dL_law_582 (by decide) ?_
  refine s_iadd (pc := 583) C dL_law_583 ?_
  obtain ⟨g_3, hf⟩ := gd hf
  refine s_sld (pc := 584) C hX hbl hbA g_3 dL_law_584 ?_
  refine s_aloadn (pc := 585) C dL_law_585 rfl ?_
  refine s_iload (pc := 586) C dL_law_586 rfl ?_
  refine s_iconst (pc := 588) (v := 2) C dL_law_588 (by decide) ?_
  refine s_iadd (pc := 589) C dL_law_589 ?_
  obtain ⟨g_4, hf⟩ := gd hf
  refine s_sld (pc := 590) C hX hbl hbA g_4 dL_law_590 ?_
  obtain ⟨r_2, τ_2, e_2, hf⟩ := bnd hf
  refine s_callV (pc := 591) (rest := []) C rfl (c_X4_at l D ca ad N (xs (ix (v4 + 1))) (xs (ix (v4 + 2))) τ_1 r_2 τ_2 e_2) kv_L_120 ⟨rfl, rfl⟩ (by decide) SH_25 ⟨_, rfl, rfl⟩ rfl rfl (Nat.le_of_ble_eq_true rfl) dL_law_591 ⟨(by show _ ≤ 650184; omega), (by show _ ≤ 7145518; omega)⟩ ?_
  refine s_st (st' := [.int r_2]) rfl ?_
  refine s_istore (pc := 594) (lo' := [some (.ref b), some (.ref (ad 0)), some (.ref (ad 25)), some (.ref (ad 51)), some (.int v4), some (.int r_1), some (.int r_2)]) C dL_law_594 (Nat.le_of_ble_eq_true rfl) rfl ?_
  refine s_aloadn (pc := 596) C dL_law_596 rfl ?_
  obtain ⟨r_3, τ_3, e_3, hf⟩ := bnd hf
  refine s_callV (pc := 597) (rest := []) C rfl (c_X4_thrown l D ca ad N  τ_2 r_3 τ_3 e_3) kv_L_83 ⟨rfl, rfl⟩ (by decide) SH_25 ⟨_, rfl, rfl⟩ rfl rfl (Nat.le_of_ble_eq_true rfl) dL_law_597 ⟨(by show _ ≤ 650184; omega), (by show _ ≤ 7145518; omega)⟩ ?_
  refine s_st (st' := [.int r_3]) rfl ?_
  refine s_iload (pc := 600) C dL_law_600 rfl ?_
  refine s_icmp_eq (pc := 602) (tgt := 607) C dL_law_602 (by decide) (fun h_1 => ?_) (fun h_1 => ?_)
  · replace hf := ifp h_1 hf
    refine s_iload (pc := 607) C dL_law_607 rfl ?_
    refine s_if_ne (pc := 609) (tgt := 624) C dL_law_609 (by decide) (fun h_2 => ?_) (fun h_2 => ?_)
    · replace hf := ifn h_2 hf
      refine s_goto (pc := 624) (tgt := 1019) C dL_law_624 (by decide) ?_
      refine s_iinc (pc := 1019) (v := (v4 + 5)) (lo' := [some (.ref b), some (.ref (ad 0)), some (.ref (ad 25)), some (.ref (ad 51)), some (.int (v4 + 5)), some (.int r_1), some (.int r_2)]) C dL_law_1019 rfl rfl rfl ?_
      refine s_goto (pc := 1022) (tgt := 53) C dL_law_1022 (by decide) ?_
      refine s_few (lo' := [some (.ref b), some (.ref (ad 0)), some (.ref (ad 25)), some (.ref (ad 51)), some (.int (v4 + 5)), none, none]) (lfS (lfS (lfS (lfS (lfS (lfN (lfN lf0))))))) ?_
      exact ih _ _ (v4 + 5) τ_3 (by omega) (by omega) hf
    · replace hf := ifp h_2 hf
      refine s_aloadn (pc := 612) C dL_law_612 rfl ?_
      refine s_iconst (pc := 613) (v := 0) C dL_law_613 (by decide) ?_
      refine s_lald (pc := 614) C SH_51 (ty3 ca) (by decide) dL_law_614 ?_
      refine s_iload (pc := 615) C dL_law_615 rfl ?_
      refine s_i2l (pc := 617) C dL_law_617 ?_
      refine s_lcmp (pc := 618) C dL_law_618 ?_
      refine s_if_eq (pc := 619) (tgt := 624) C dL_law_619 (by decide) (fun h_3 => ?_) (fun h_3 => ?_)
      · replace hf := ifp h_3 hf
        refine s_goto (pc := 624) (tgt := 1019) C dL_law_624 (by decide) ?_
        refine s_iinc (pc := 1019) (v := (v4 + 5)) (lo' := [some (.ref b), some (.ref (ad 0)), some (.ref (ad 25)), some (.ref (ad 51)), some (.int (v4 + 5)), some (.int r_1), some (.int r_2)]) C dL_law_1019 rfl rfl rfl ?_
        refine s_goto (pc := 1022) (tgt := 53) C dL_law_1022 (by decide) ?_
        refine s_few (lo' := [some (.ref b), some (.ref (ad 0)), some (.ref (ad 25)), some (.ref (ad 51)), some (.int (v4 + 5)), none, none]) (lfS (lfS (lfS (lfS (lfS (lfN (lfN lf0))))))) ?_
        exact ih _ _ (v4 + 5) τ_3 (by omega) (by omega) hf
      · replace hf := ifn h_3 hf
        refine s_iconst (pc := 622) (v := 0) C dL_law_622 (by decide) ?_
        exact absurd (Option.some.inj hf) (by decide)
  · replace hf := ifn h_1 hf
    refine s_iconst (pc := 605) (v := 0) C dL_law_605 (by decide) ?_
    exact absurd (Option.some.inj hf) (by decide)
def case_10 (N : Nat) (xs : Nat → Int32) (L : Nat) (kont : Int32 → St → Option Int32) (v4 : Int32) (σ : St) : Option Int32 :=
  if inb (v4 + 1) L = true then
  if inb (v4 + 2) L = true then
  bn (f_L_over N (xs (ix (v4 + 1))) (xs (ix (v4 + 2))) σ) fun r_1 τ_1 =>
  if inb (v4 + 1) L = true then
  if inb (v4 + 2) L = true then
  bn (f_X4_over N (xs (ix (v4 + 1))) (xs (ix (v4 + 2))) τ_1) fun r_2 τ_2 =>
  bn (f_X4_thrown N τ_2) fun r_3 τ_3 =>
  if r_3 = r_1 then
    if r_1 = 0 then
      if r_2 = 0 then
        if (lg_cmp (((τ_3 51 (ix 0))) : Int32).toInt64 ((0) : Int32).toInt64) = 0 then
          kont (v4 + 5) τ_3
        else
          some 0
      else
        if (lg_cmp (((τ_3 51 (ix 0))) : Int32).toInt64 ((1) : Int32).toInt64) = 0 then
          kont (v4 + 5) τ_3
        else
          some 0
    else
      kont (v4 + 5) τ_3
  else
    some 0
  else none
  else none
  else none
  else none
set_option maxRecDepth 100000 in
set_option maxHeartbeats 4000000 in
theorem wc_10 {l : Launch} {D : va_G} {ca : Nat → ClassId} {ad : Nat → Nat} {p : Program} {e : Env} {s : State} {m : MethodId} {below : List Frame} {meth : Method} {c : Code} {A : Nat → Prop} {b L : Nat} {xs : Nat → Int32} (C : CX p s m #[Value.ref b] c D ca A RL cL_law 7) (hr : meth.sig.returnType = ret) (hlk : meth.locks = false) (hl : l.stackTraces = false) (hXE : XE A s s.heap) (hNC : NCs s) (hX : va_X b L xs s s.heap) (hbl : b < s.heap.size) (hbA : ¬ A b) (hAe : A = fun q => s.heap.size ≤ q) (N n : Nat) (kont : Int32 → St → Option Int32) (ih : ∀ (cs ss : Nat) (i : Int32) (τ : St), cs + 3 * n ≤ 650184 → ss + 18 * n ≤ 7145518 → kont i τ = some 1 → WW p l e room_1 s m #[Value.ref b] below meth c cs ss (lw_Z below #[Value.ref b] s) A D ca ad SH 53 [some (.ref b), some (.ref (ad 0)), some (.ref (ad 25)), some (.ref (ad 51)), some (.int i), none, none] [] τ) (cs ss : Nat) (v4 : Int32) (σ : St) (hcl : cs + 3 * (n + 1) ≤ 650184) (hsl : ss + 18 * (n + 1) ≤ 7145518) (hf : case_10 N xs L kont v4 σ = some 1) : WW p l e room_1 s m #[Value.ref b] below meth c cs ss (lw_Z below #[Value.ref b] s) A D ca ad SH 627 [some (.ref b), some (.ref (ad 0)), some (.ref (ad 25)), some (.ref (ad 51)), some (.int v4), none, none] [] σ := by
  unfold case_10 at hf
  refine s_aloadn (pc := 627) C dL_law_627 rfl ?_
  refine s_aloadn (pc := 628) C dL_law_628 rfl ?_
  refine s_iload (pc := 629) C dL_law_629 rfl ?_
  refine s_iconst (pc := 631) (v := 1) C dL_law_631 (by decide) ?_
  refine s_iadd (pc := 632) C dL_law_632 ?_
  obtain ⟨g_1, hf⟩ := gd hf
  refine s_sld (pc := 633) C hX hbl hbA g_1 dL_law_633 ?_
  refine s_aloadn (pc := 634) C dL_law_634 rfl ?_
  refine s_iload (pc := 635) C dL_law_635 rfl ?_
  refine s_iconst (pc := 637) (v := 2) C dL_law_637 (by decide) ?_
  refine s_iadd (pc := 638) C dL_law_638 ?_
  obtain ⟨g_2, hf⟩ := gd hf
  refine s_sld (pc := 639) C hX hbl hbA g_2 dL_law_639 ?_
  refine s_aloadn (pc := 640) C dL_law_640 rfl ?_
  obtain ⟨r_1, τ_1, e_1, hf⟩ := bnd hf
  refine s_callH (pc := 641) (rest := []) C hXE hNC rfl (c_L_over l D ca ad hl N (xs (ix (v4 + 1))) (xs (ix (v4 + 2))) σ r_1 τ_1 e_1) kh_L_121 ⟨rfl, rfl⟩ (by decide) rfl rfl (Nat.le_of_ble_eq_true rfl) dL_law_641 ⟨(by show _ ≤ 650184; omega), (by show _ ≤ 7145518; omega)⟩ ?_
  refine s_st (st' := [.int r_1]) rfl ?_
  refine s_istore (pc := 644) (lo' := [some (.ref b), some (.ref (ad 0)), some (.ref (ad 25)), some (.ref (ad 51)), some (.int v4), some (.int r_1), none]) C dL_law_644 (Nat.le_of_ble_eq_true rfl) rfl ?_
  refine s_aloadn (pc := 646) C dL_law_646 rfl ?_
  refine s_aloadn (pc := 647) C dL_law_647 rfl ?_
  refine s_iload (pc := 648) C dL_law_648 rfl ?_
  refine s_iconst (pc := 650) (v := 1) C dL_law_650 (by decide) ?_
  refine s_iadd (pc := 651) C dL_law_651 ?_
  obtain ⟨g_3, hf⟩ := gd hf
  refine s_sld (pc := 652) C hX hbl hbA g_3 dL_law_652 ?_
  refine s_aloadn (pc := 653) C dL_law_653 rfl ?_
  refine s_iload (pc := 654) C dL_law_654 rfl ?_
  refine s_iconst (pc := 656) (v := 2) C dL_law_656 (by decide) ?_
  refine s_iadd (pc := 657) C dL_law_657 ?_
  obtain ⟨g_4, hf⟩ := gd hf
  refine s_sld (pc := 658) C hX hbl hbA g_4 dL_law_658 ?_
  obtain ⟨r_2, τ_2, e_2, hf⟩ := bnd hf
  refine s_callV (pc := 659) (rest := []) C rfl (c_X4_over l D ca ad N (xs (ix (v4 + 1))) (xs (ix (v4 + 2))) τ_1 r_2 τ_2 e_2) kv_L_123 ⟨rfl, rfl⟩ (by decide) SH_25 ⟨_, rfl, rfl⟩ rfl rfl (Nat.le_of_ble_eq_true rfl) dL_law_659 ⟨(by show _ ≤ 650184; omega), (by show _ ≤ 7145518; omega)⟩ ?_
  refine s_st (st' := [.int r_2]) rfl ?_
  refine s_istore (pc := 662) (lo' := [some (.ref b), some (.ref (ad 0)), some (.ref (ad 25)), some (.ref (ad 51)), some (.int v4), some (.int r_1), some (.int r_2)]) C dL_law_662 (Nat.le_of_ble_eq_true rfl) rfl ?_
  refine s_aloadn (pc := 664) C dL_law_664 rfl ?_
  obtain ⟨r_3, τ_3, e_3, hf⟩ := bnd hf
  refine s_callV (pc := 665) (rest := []) C rfl (c_X4_thrown l D ca ad N  τ_2 r_3 τ_3 e_3) kv_L_83 ⟨rfl, rfl⟩ (by decide) SH_25 ⟨_, rfl, rfl⟩ rfl rfl (Nat.le_of_ble_eq_true rfl) dL_law_665 ⟨(by show _ ≤ 650184; omega), (by show _ ≤ 7145518; omega)⟩ ?_
  refine s_st (st' := [.int r_3]) rfl ?_
  refine s_iload (pc := 668) C dL_law_668 rfl ?_
  refine s_icmp_eq (pc := 670) (tgt := 675) C dL_law_670 (by decide) (fun h_1 => ?_) (fun h_1 => ?_)
  · replace hf := ifp h_1 hf
    refine s_iload (pc := 675) C dL_law_675 rfl ?_
    refine s_if_ne (pc := 677) (tgt := 699) C dL_law_677 (by decide) (fun h_2 => ?_) (fun h_2 => ?_)
    · replace hf := ifn h_2 hf
      refine s_goto (pc := 699) (tgt := 1019) C dL_law_699 (by decide) ?_
      refine s_iinc (pc := 1019) (v := (v4 + 5)) (lo' := [some (.ref b), some (.ref (ad 0)), some (.ref (ad 25)), some (.ref (ad 51)), some (.int (v4 + 5)), some (.int r_1), some (.int r_2)]) C dL_law_1019 rfl rfl rfl ?_
      refine s_goto (pc := 1022) (tgt := 53) C dL_law_1022 (by decide) ?_
      refine s_few (lo' := [some (.ref b), some (.ref (ad 0)), some (.ref (ad 25)), some (.ref (ad 51)), some (.int (v4 + 5)), none, none]) (lfS (lfS (lfS (lfS (lfS (lfN (lfN lf0))))))) ?_
      exact ih _ _ (v4 + 5) τ_3 (by omega) (by omega) hf
    · replace hf := ifp h_2 hf
      refine s_aloadn (pc := 680) C dL_law_680 rfl ?_
      refine s_iconst (pc := 681) (v := 0) C dL_law_681 (by decide) ?_
      refine s_lald (pc := 682) C SH_51 (ty3 ca) (by decide) dL_law_682 ?_
      refine s_iload (pc := 683) C dL_law_683 rfl ?_
      refine s_if_eq (pc := 685) (tgt := 692) C dL_law_685 (by decide) (fun h_3 => ?_) (fun h_3 => ?_)
      · replace hf := ifp h_3 hf
        refine s_lconst (pc := 692) (v := (0 : Int32).toInt64) C dL_law_692 (by decide) ?_
        refine s_lcmp (pc := 693) C dL_law_693 ?_
        refine s_if_eq (pc := 694) (tgt := 699) C dL_law_694 (by decide) (fun h_4 => ?_) (fun h_4 => ?_)
        · replace hf := ifp h_4 hf
          refine s_goto (pc := 699) (tgt := 1019) C dL_law_699 (by decide) ?_
          refine s_iinc (pc := 1019) (v := (v4 + 5)) (lo' := [some (.ref b), some (.ref (ad 0)), some (.ref (ad 25)), some (.ref (ad 51)), some (.int (v4 + 5)), some (.int r_1), some (.int r_2)]) C dL_law_1019 rfl rfl rfl ?_
          refine s_goto (pc := 1022) (tgt := 53) C dL_law_1022 (by decide) ?_
          refine s_few (lo' := [some (.ref b), some (.ref (ad 0)), some (.ref (ad 25)), some (.ref (ad 51)), some (.int (v4 + 5)), none, none]) (lfS (lfS (lfS (lfS (lfS (lfN (lfN lf0))))))) ?_
          exact ih _ _ (v4 + 5) τ_3 (by omega) (by omega) hf
        · replace hf := ifn h_4 hf
          refine s_iconst (pc := 697) (v := 0) C dL_law_697 (by decide) ?_
          exact absurd (Option.some.inj hf) (by decide)
      · replace hf := ifn h_3 hf
        refine s_lconst (pc := 688) (v := (1 : Int32).toInt64) C dL_law_688 (by decide) ?_
        refine s_goto (pc := 689) (tgt := 693) C dL_law_689 (by decide) ?_
        refine s_lcmp (pc := 693) C dL_law_693 ?_
        refine s_if_eq (pc := 694) (tgt := 699) C dL_law_694 (by decide) (fun h_5 => ?_) (fun h_5 => ?_)
        · replace hf := ifp h_5 hf
          refine s_goto (pc := 699) (tgt := 1019) C dL_law_699 (by decide) ?_
          refine s_iinc (pc := 1019) (v := (v4 + 5)) (lo' := [some (.ref b), some (.ref (ad 0)), some (.ref (ad 25)), some (.ref (ad 51)), some (.int (v4 + 5)), some (.int r_1), some (.int r_2)]) C dL_law_1019 rfl rfl rfl ?_
          refine s_goto (pc := 1022) (tgt := 53) C dL_law_1022 (by decide) ?_
          refine s_few (lo' := [some (.ref b), some (.ref (ad 0)), some (.ref (ad 25)), some (.ref (ad 51)), some (.int (v4 + 5)), none, none]) (lfS (lfS (lfS (lfS (lfS (lfN (lfN lf0))))))) ?_
          exact ih _ _ (v4 + 5) τ_3 (by omega) (by omega) hf
        · replace hf := ifn h_5 hf
          refine s_iconst (pc := 697) (v := 0) C dL_law_697 (by decide) ?_
          exact absurd (Option.some.inj hf) (by decide)
  · replace hf := ifn h_1 hf
    refine s_iconst (pc := 673) (v := 0) C dL_law_673 (by decide) ?_
    exact absurd (Option.some.inj hf) (by decide)
def case_11 (N : Nat) (xs : Nat → Int32) (L : Nat) (kont : Int32 → St → Option Int32) (v4 : Int32) (σ : St) : Option Int32 :=
  if inb (v4 + 1) L = true then
  bn (f_L_support N (xs (ix (v4 + 1))) σ) fun r_1 τ_1 =>
  if inb (v4 + 1) L = true then
  bn (f_X4_support N (xs (ix (v4 + 1))) τ_1) fun r_2 τ_2 =>
  bn (f_X4_thrown N τ_2) fun r_3 τ_3 =>
  if r_3 = r_1 then
    if r_1 = 0 then
      if (lg_cmp (((τ_3 51 (ix 0))) : Int32).toInt64 ((r_2) : Int32).toInt64) = 0 then
        kont (v4 + 5) τ_3
      else
        some 0
    else
      kont (v4 + 5) τ_3
  else
    some 0
  else none
  else none
set_option maxRecDepth 100000 in
set_option maxHeartbeats 4000000 in
theorem wc_11 {l : Launch} {D : va_G} {ca : Nat → ClassId} {ad : Nat → Nat} {p : Program} {e : Env} {s : State} {m : MethodId} {below : List Frame} {meth : Method} {c : Code} {A : Nat → Prop} {b L : Nat} {xs : Nat → Int32} (C : CX p s m #[Value.ref b] c D ca A RL cL_law 7) (hr : meth.sig.returnType = ret) (hlk : meth.locks = false) (hl : l.stackTraces = false) (hXE : XE A s s.heap) (hNC : NCs s) (hX : va_X b L xs s s.heap) (hbl : b < s.heap.size) (hbA : ¬ A b) (hAe : A = fun q => s.heap.size ≤ q) (N n : Nat) (kont : Int32 → St → Option Int32) (ih : ∀ (cs ss : Nat) (i : Int32) (τ : St), cs + 3 * n ≤ 650184 → ss + 18 * n ≤ 7145518 → kont i τ = some 1 → WW p l e room_1 s m #[Value.ref b] below meth c cs ss (lw_Z below #[Value.ref b] s) A D ca ad SH 53 [some (.ref b), some (.ref (ad 0)), some (.ref (ad 25)), some (.ref (ad 51)), some (.int i), none, none] [] τ) (cs ss : Nat) (v4 : Int32) (σ : St) (hcl : cs + 3 * (n + 1) ≤ 650184) (hsl : ss + 18 * (n + 1) ≤ 7145518) (hf : case_11 N xs L kont v4 σ = some 1) : WW p l e room_1 s m #[Value.ref b] below meth c cs ss (lw_Z below #[Value.ref b] s) A D ca ad SH 702 [some (.ref b), some (.ref (ad 0)), some (.ref (ad 25)), some (.ref (ad 51)), some (.int v4), none, none] [] σ := by
  unfold case_11 at hf
  refine s_aloadn (pc := 702) C dL_law_702 rfl ?_
  refine s_aloadn (pc := 703) C dL_law_703 rfl ?_
  refine s_iload (pc := 704) C dL_law_704 rfl ?_
  refine s_iconst (pc := 706) (v := 1) C dL_law_706 (by decide) ?_
  refine s_iadd (pc := 707) C dL_law_707 ?_
  obtain ⟨g_1, hf⟩ := gd hf
  refine s_sld (pc := 708) C hX hbl hbA g_1 dL_law_708 ?_
  refine s_aloadn (pc := 709) C dL_law_709 rfl ?_
  obtain ⟨r_1, τ_1, e_1, hf⟩ := bnd hf
  refine s_callH (pc := 710) (rest := []) C hXE hNC rfl (c_L_support l D ca ad hl N (xs (ix (v4 + 1))) σ r_1 τ_1 e_1) kh_L_124 ⟨rfl, rfl⟩ (by decide) rfl rfl (Nat.le_of_ble_eq_true rfl) dL_law_710 ⟨(by show _ ≤ 650184; omega), (by show _ ≤ 7145518; omega)⟩ ?_
  refine s_st (st' := [.int r_1]) rfl ?_
  refine s_istore (pc := 713) (lo' := [some (.ref b), some (.ref (ad 0)), some (.ref (ad 25)), some (.ref (ad 51)), some (.int v4), some (.int r_1), none]) C dL_law_713 (Nat.le_of_ble_eq_true rfl) rfl ?_
  refine s_aloadn (pc := 715) C dL_law_715 rfl ?_
  refine s_aloadn (pc := 716) C dL_law_716 rfl ?_
  refine s_iload (pc := 717) C dL_law_717 rfl ?_
  refine s_iconst (pc := 719) (v := 1) C dL_law_719 (by decide) ?_
  refine s_iadd (pc := 720) C dL_law_720 ?_
  obtain ⟨g_2, hf⟩ := gd hf
  refine s_sld (pc := 721) C hX hbl hbA g_2 dL_law_721 ?_
  obtain ⟨r_2, τ_2, e_2, hf⟩ := bnd hf
  refine s_callV (pc := 722) (rest := []) C rfl (c_X4_support l D ca ad N (xs (ix (v4 + 1))) τ_1 r_2 τ_2 e_2) kv_L_126 ⟨rfl, rfl⟩ (by decide) SH_25 ⟨_, rfl, rfl⟩ rfl rfl (Nat.le_of_ble_eq_true rfl) dL_law_722 ⟨(by show _ ≤ 650184; omega), (by show _ ≤ 7145518; omega)⟩ ?_
  refine s_st (st' := [.int r_2]) rfl ?_
  refine s_istore (pc := 725) (lo' := [some (.ref b), some (.ref (ad 0)), some (.ref (ad 25)), some (.ref (ad 51)), some (.int v4), some (.int r_1), some (.int r_2)]) C dL_law_725 (Nat.le_of_ble_eq_true rfl) rfl ?_
  refine s_aloadn (pc := 727) C dL_law_727 rfl ?_
  obtain ⟨r_3, τ_3, e_3, hf⟩ := bnd hf
  refine s_callV (pc := 728) (rest := []) C rfl (c_X4_thrown l D ca ad N  τ_2 r_3 τ_3 e_3) kv_L_83 ⟨rfl, rfl⟩ (by decide) SH_25 ⟨_, rfl, rfl⟩ rfl rfl (Nat.le_of_ble_eq_true rfl) dL_law_728 ⟨(by show _ ≤ 650184; omega), (by show _ ≤ 7145518; omega)⟩ ?_
  refine s_st (st' := [.int r_3]) rfl ?_
  refine s_iload (pc := 731) C dL_law_731 rfl ?_
  refine s_icmp_eq (pc := 733) (tgt := 738) C dL_law_733 (by decide) (fun h_1 => ?_) (fun h_1 => ?_)
  · replace hf := ifp h_1 hf
    refine s_iload (pc := 738) C dL_law_738 rfl ?_
    refine s_if_ne (pc := 740) (tgt := 755) C dL_law_740 (by decide) (fun h_2 => ?_) (fun h_2 => ?_)
    · replace hf := ifn h_2 hf
      refine s_goto (pc := 755) (tgt := 1019) C dL_law_755 (by decide) ?_
      refine s_iinc (pc := 1019) (v := (v4 + 5)) (lo' := [some (.ref b), some (.ref (ad 0)), some (.ref (ad 25)), some (.ref (ad 51)), some (.int (v4 + 5)), some (.int r_1), some (.int r_2)]) C dL_law_1019 rfl rfl rfl ?_
      refine s_goto (pc := 1022) (tgt := 53) C dL_law_1022 (by decide) ?_
      refine s_few (lo' := [some (.ref b), some (.ref (ad 0)), some (.ref (ad 25)), some (.ref (ad 51)), some (.int (v4 + 5)), none, none]) (lfS (lfS (lfS (lfS (lfS (lfN (lfN lf0))))))) ?_
      exact ih _ _ (v4 + 5) τ_3 (by omega) (by omega) hf
    · replace hf := ifp h_2 hf
      refine s_aloadn (pc := 743) C dL_law_743 rfl ?_
      refine s_iconst (pc := 744) (v := 0) C dL_law_744 (by decide) ?_
      refine s_lald (pc := 745) C SH_51 (ty3 ca) (by decide) dL_law_745 ?_
      refine s_iload (pc := 746) C dL_law_746 rfl ?_
      refine s_i2l (pc := 748) C dL_law_748 ?_
      refine s_lcmp (pc := 749) C dL_law_749 ?_
      refine s_if_eq (pc := 750) (tgt := 755) C dL_law_750 (by decide) (fun h_3 => ?_) (fun h_3 => ?_)
      · replace hf := ifp h_3 hf
        refine s_goto (pc := 755) (tgt := 1019) C dL_law_755 (by decide) ?_
        refine s_iinc (pc := 1019) (v := (v4 + 5)) (lo' := [some (.ref b), some (.ref (ad 0)), some (.ref (ad 25)), some (.ref (ad 51)), some (.int (v4 + 5)), some (.int r_1), some (.int r_2)]) C dL_law_1019 rfl rfl rfl ?_
        refine s_goto (pc := 1022) (tgt := 53) C dL_law_1022 (by decide) ?_
        refine s_few (lo' := [some (.ref b), some (.ref (ad 0)), some (.ref (ad 25)), some (.ref (ad 51)), some (.int (v4 + 5)), none, none]) (lfS (lfS (lfS (lfS (lfS (lfN (lfN lf0))))))) ?_
        exact ih _ _ (v4 + 5) τ_3 (by omega) (by omega) hf
      · replace hf := ifn h_3 hf
        refine s_iconst (pc := 753) (v := 0) C dL_law_753 (by decide) ?_
        exact absurd (Option.some.inj hf) (by decide)
  · replace hf := ifn h_1 hf
    refine s_iconst (pc := 736) (v := 0) C dL_law_736 (by decide) ?_
    exact absurd (Option.some.inj hf) (by decide)
def case_12 (N : Nat) (xs : Nat → Int32) (L : Nat) (kont : Int32 → St → Option Int32) (v4 : Int32) (σ : St) : Option Int32 :=
  if inb (v4 + 1) L = true then
  bn (f_L_bears N (xs (ix (v4 + 1))) σ) fun r_1 τ_1 =>
  if inb (v4 + 1) L = true then
  bn (f_X4_bears N (xs (ix (v4 + 1))) τ_1) fun r_2 τ_2 =>
  bn (f_X4_thrown N τ_2) fun r_3 τ_3 =>
  if r_3 = r_1 then
    if r_1 = 0 then
      if (lg_cmp (((τ_3 51 (ix 0))) : Int32).toInt64 ((r_2) : Int32).toInt64) = 0 then
        kont (v4 + 5) τ_3
      else
        some 0
    else
      kont (v4 + 5) τ_3
  else
    some 0
  else none
  else none
set_option maxRecDepth 100000 in
set_option maxHeartbeats 4000000 in
theorem wc_12 {l : Launch} {D : va_G} {ca : Nat → ClassId} {ad : Nat → Nat} {p : Program} {e : Env} {s : State} {m : MethodId} {below : List Frame} {meth : Method} {c : Code} {A : Nat → Prop} {b L : Nat} {xs : Nat → Int32} (C : CX p s m #[Value.ref b] c D ca A RL cL_law 7) (hr : meth.sig.returnType = ret) (hlk : meth.locks = false) (hl : l.stackTraces = false) (hXE : XE A s s.heap) (hNC : NCs s) (hX : va_X b L xs s s.heap) (hbl : b < s.heap.size) (hbA : ¬ A b) (hAe : A = fun q => s.heap.size ≤ q) (N n : Nat) (kont : Int32 → St → Option Int32) (ih : ∀ (cs ss : Nat) (i : Int32) (τ : St), cs + 3 * n ≤ 650184 → ss + 18 * n ≤ 7145518 → kont i τ = some 1 → WW p l e room_1 s m #[Value.ref b] below meth c cs ss (lw_Z below #[Value.ref b] s) A D ca ad SH 53 [some (.ref b), some (.ref (ad 0)), some (.ref (ad 25)), some (.ref (ad 51)), some (.int i), none, none] [] τ) (cs ss : Nat) (v4 : Int32) (σ : St) (hcl : cs + 3 * (n + 1) ≤ 650184) (hsl : ss + 18 * (n + 1) ≤ 7145518) (hf : case_12 N xs L kont v4 σ = some 1) : WW p l e room_1 s m #[Value.ref b] below meth c cs ss (lw_Z below #[Value.ref b] s) A D ca ad SH 758 [some (.ref b), some (.ref (ad 0)), some (.ref (ad 25)), some (.ref (ad 51)), some (.int v4), none, none] [] σ := by
  unfold case_12 at hf
  refine s_aloadn (pc := 758) C dL_law_758 rfl ?_
  refine s_aloadn (pc := 759) C dL_law_759 rfl ?_
  refine s_iload (pc := 760) C dL_law_760 rfl ?_
  refine s_iconst (pc := 762) (v := 1) C dL_law_762 (by decide) ?_
  refine s_iadd (pc := 763) C dL_law_763 ?_
  obtain ⟨g_1, hf⟩ := gd hf
  refine s_sld (pc := 764) C hX hbl hbA g_1 dL_law_764 ?_
  refine s_aloadn (pc := 765) C dL_law_765 rfl ?_
  obtain ⟨r_1, τ_1, e_1, hf⟩ := bnd hf
  refine s_callH (pc := 766) (rest := []) C hXE hNC rfl (c_L_bears l D ca ad hl N (xs (ix (v4 + 1))) σ r_1 τ_1 e_1) kh_L_127 ⟨rfl, rfl⟩ (by decide) rfl rfl (Nat.le_of_ble_eq_true rfl) dL_law_766 ⟨(by show _ ≤ 650184; omega), (by show _ ≤ 7145518; omega)⟩ ?_
  refine s_st (st' := [.int r_1]) rfl ?_
  refine s_istore (pc := 769) (lo' := [some (.ref b), some (.ref (ad 0)), some (.ref (ad 25)), some (.ref (ad 51)), some (.int v4), some (.int r_1), none]) C dL_law_769 (Nat.le_of_ble_eq_true rfl) rfl ?_
  refine s_aloadn (pc := 771) C dL_law_771 rfl ?_
  refine s_aloadn (pc := 772) C dL_law_772 rfl ?_
  refine s_iload (pc := 773) C dL_law_773 rfl ?_
  refine s_iconst (pc := 775) (v := 1) C dL_law_775 (by decide) ?_
  refine s_iadd (pc := 776) C dL_law_776 ?_
  obtain ⟨g_2, hf⟩ := gd hf
  refine s_sld (pc := 777) C hX hbl hbA g_2 dL_law_777 ?_
  obtain ⟨r_2, τ_2, e_2, hf⟩ := bnd hf
  refine s_callV (pc := 778) (rest := []) C rfl (c_X4_bears l D ca ad N (xs (ix (v4 + 1))) τ_1 r_2 τ_2 e_2) kv_L_129 ⟨rfl, rfl⟩ (by decide) SH_25 ⟨_, rfl, rfl⟩ rfl rfl (Nat.le_of_ble_eq_true rfl) dL_law_778 ⟨(by show _ ≤ 650184; omega), (by show _ ≤ 7145518; omega)⟩ ?_
  refine s_st (st' := [.int r_2]) rfl ?_
  refine s_istore (pc := 781) (lo' := [some (.ref b), some (.ref (ad 0)), some (.ref (ad 25)), some (.ref (ad 51)), some (.int v4), some (.int r_1), some (.int r_2)]) C dL_law_781 (Nat.le_of_ble_eq_true rfl) rfl ?_
  refine s_aloadn (pc := 783) C dL_law_783 rfl ?_
  obtain ⟨r_3, τ_3, e_3, hf⟩ := bnd hf
  refine s_callV (pc := 784) (rest := []) C rfl (c_X4_thrown l D ca ad N  τ_2 r_3 τ_3 e_3) kv_L_83 ⟨rfl, rfl⟩ (by decide) SH_25 ⟨_, rfl, rfl⟩ rfl rfl (Nat.le_of_ble_eq_true rfl) dL_law_784 ⟨(by show _ ≤ 650184; omega), (by show _ ≤ 7145518; omega)⟩ ?_
  refine s_st (st' := [.int r_3]) rfl ?_
  refine s_iload (pc := 787) C dL_law_787 rfl ?_
  refine s_icmp_eq (pc := 789) (tgt := 794) C dL_law_789 (by decide) (fun h_1 => ?_) (fun h_1 => ?_)
  · replace hf := ifp h_1 hf
    refine s_iload (pc := 794) C dL_law_794 rfl ?_
    refine s_if_ne (pc := 796) (tgt := 811) C dL_law_796 (by decide) (fun h_2 => ?_) (fun h_2 => ?_)
    · replace hf := ifn h_2 hf
      refine s_goto (pc := 811) (tgt := 1019) C dL_law_811 (by decide) ?_
      refine s_iinc (pc := 1019) (v := (v4 + 5)) (lo' := [some (.ref b), some (.ref (ad 0)), some (.ref (ad 25)), some (.ref (ad 51)), some (.int (v4 + 5)), some (.int r_1), some (.int r_2)]) C dL_law_1019 rfl rfl rfl ?_
      refine s_goto (pc := 1022) (tgt := 53) C dL_law_1022 (by decide) ?_
      refine s_few (lo' := [some (.ref b), some (.ref (ad 0)), some (.ref (ad 25)), some (.ref (ad 51)), some (.int (v4 + 5)), none, none]) (lfS (lfS (lfS (lfS (lfS (lfN (lfN lf0))))))) ?_
      exact ih _ _ (v4 + 5) τ_3 (by omega) (by omega) hf
    · replace hf := ifp h_2 hf
      refine s_aloadn (pc := 799) C dL_law_799 rfl ?_
      refine s_iconst (pc := 800) (v := 0) C dL_law_800 (by decide) ?_
      refine s_lald (pc := 801) C SH_51 (ty3 ca) (by decide) dL_law_801 ?_
      refine s_iload (pc := 802) C dL_law_802 rfl ?_
      refine s_i2l (pc := 804) C dL_law_804 ?_
      refine s_lcmp (pc := 805) C dL_law_805 ?_
      refine s_if_eq (pc := 806) (tgt := 811) C dL_law_806 (by decide) (fun h_3 => ?_) (fun h_3 => ?_)
      · replace hf := ifp h_3 hf
        refine s_goto (pc := 811) (tgt := 1019) C dL_law_811 (by decide) ?_
        refine s_iinc (pc := 1019) (v := (v4 + 5)) (lo' := [some (.ref b), some (.ref (ad 0)), some (.ref (ad 25)), some (.ref (ad 51)), some (.int (v4 + 5)), some (.int r_1), some (.int r_2)]) C dL_law_1019 rfl rfl rfl ?_
        refine s_goto (pc := 1022) (tgt := 53) C dL_law_1022 (by decide) ?_
        refine s_few (lo' := [some (.ref b), some (.ref (ad 0)), some (.ref (ad 25)), some (.ref (ad 51)), some (.int (v4 + 5)), none, none]) (lfS (lfS (lfS (lfS (lfS (lfN (lfN lf0))))))) ?_
        exact ih _ _ (v4 + 5) τ_3 (by omega) (by omega) hf
      · replace hf := ifn h_3 hf
        refine s_iconst (pc := 809) (v := 0) C dL_law_809 (by decide) ?_
        exact absurd (Option.some.inj hf) (by decide)
  · replace hf := ifn h_1 hf
    refine s_iconst (pc := 792) (v := 0) C dL_law_792 (by decide) ?_
    exact absurd (Option.some.inj hf) (by decide)
def case_13 (N : Nat) (xs : Nat → Int32) (L : Nat) (kont : Int32 → St → Option Int32) (v4 : Int32) (σ : St) : Option Int32 :=
  if inb (v4 + 1) L = true then
  if inb (v4 + 2) L = true then
  if inb (v4 + 3) L = true then
  bn (f_L_cell_ N (xs (ix (v4 + 1))) (xs (ix (v4 + 2))) (xs (ix (v4 + 3))) σ) fun r_1 τ_1 =>
  if inb (v4 + 1) L = true then
  if inb (v4 + 2) L = true then
  if inb (v4 + 3) L = true then
  bn (f_X4_cell N (xs (ix (v4 + 1))) (xs (ix (v4 + 2))) (xs (ix (v4 + 3))) τ_1) fun r_2 τ_2 =>
  bn (f_X4_thrown N τ_2) fun r_3 τ_3 =>
  if r_3 = r_1 then
    if r_1 = 0 then
      if (lg_cmp (((τ_3 51 (ix 0))) : Int32).toInt64 ((r_2) : Int32).toInt64) = 0 then
        kont (v4 + 5) τ_3
      else
        some 0
    else
      kont (v4 + 5) τ_3
  else
    some 0
  else none
  else none
  else none
  else none
  else none
  else none
set_option maxRecDepth 100000 in
set_option maxHeartbeats 4000000 in
theorem wc_13 {l : Launch} {D : va_G} {ca : Nat → ClassId} {ad : Nat → Nat} {p : Program} {e : Env} {s : State} {m : MethodId} {below : List Frame} {meth : Method} {c : Code} {A : Nat → Prop} {b L : Nat} {xs : Nat → Int32} (C : CX p s m #[Value.ref b] c D ca A RL cL_law 7) (hr : meth.sig.returnType = ret) (hlk : meth.locks = false) (hl : l.stackTraces = false) (hXE : XE A s s.heap) (hNC : NCs s) (hX : va_X b L xs s s.heap) (hbl : b < s.heap.size) (hbA : ¬ A b) (hAe : A = fun q => s.heap.size ≤ q) (N n : Nat) (kont : Int32 → St → Option Int32) (ih : ∀ (cs ss : Nat) (i : Int32) (τ : St), cs + 3 * n ≤ 650184 → ss + 18 * n ≤ 7145518 → kont i τ = some 1 → WW p l e room_1 s m #[Value.ref b] below meth c cs ss (lw_Z below #[Value.ref b] s) A D ca ad SH 53 [some (.ref b), some (.ref (ad 0)), some (.ref (ad 25)), some (.ref (ad 51)), some (.int i), none, none] [] τ) (cs ss : Nat) (v4 : Int32) (σ : St) (hcl : cs + 3 * (n + 1) ≤ 650184) (hsl : ss + 18 * (n + 1) ≤ 7145518) (hf : case_13 N xs L kont v4 σ = some 1) : WW p l e room_1 s m #[Value.ref b] below meth c cs ss (lw_Z below #[Value.ref b] s) A D ca ad SH 814 [some (.ref b), some (.ref (ad 0)), some (.ref (ad 25)), some (.ref (ad 51)), some (.int v4), none, none] [] σ := by
  unfold case_13 at hf
  refine s_aloadn (pc := 814) C dL_law_814 rfl ?_
  refine s_aloadn (pc := 815) C dL_law_815 rfl ?_
  refine s_iload (pc := 816) C dL_law_816 rfl ?_
  refine s_iconst (pc := 818) (v := 1) C dL_law_818 (by decide) ?_
  refine s_iadd (pc := 819) C dL_law_819 ?_
  obtain ⟨g_1, hf⟩ := gd hf
  refine s_sld (pc := 820) C hX hbl hbA g_1 dL_law_820 ?_
  refine s_aloadn (pc := 821) C dL_law_821 rfl ?_
  refine s_iload (pc := 822) C dL_law_822 rfl ?_
  refine s_iconst (pc := 824) (v := 2) C dL_law_824 (by decide) ?_
  refine s_iadd (pc := 825) C dL_law_825 ?_
  obtain ⟨g_2, hf⟩ := gd hf
  refine s_sld (pc := 826) C hX hbl hbA g_2 dL_law_826 ?_
  refine s_aloadn (pc := 827) C dL_law_827 rfl ?_
  refine s_iload (pc := 828) C dL_law_828 rfl ?_
  refine s_iconst (pc := 830) (v := 3) C dL_law_830 (by decide) ?_
  refine s_iadd (pc := 831) C dL_law_831 ?_
  obtain ⟨g_3, hf⟩ := gd hf
  refine s_sld (pc := 832) C hX hbl hbA g_3 dL_law_832 ?_
  refine s_aloadn (pc := 833) C dL_law_833 rfl ?_
  obtain ⟨r_1, τ_1, e_1, hf⟩ := bnd hf
  refine s_callH (pc := 834) (rest := []) C hXE hNC rfl (c_L_cell_ l D ca ad hl N (xs (ix (v4 + 1))) (xs (ix (v4 + 2))) (xs (ix (v4 + 3))) σ r_1 τ_1 e_1) kh_L_130 ⟨rfl, rfl⟩ (by decide) rfl rfl (Nat.le_of_ble_eq_true rfl) dL_law_834 ⟨(by show _ ≤ 650184; omega), (by show _ ≤ 7145518; omega)⟩ ?_
  refine s_st (st' := [.int r_1]) rfl ?_
  refine s_istore (pc := 837) (lo' := [some (.ref b), some (.ref (ad 0)), some (.ref (ad 25)), some (.ref (ad 51)), some (.int v4), some (.int r_1), none]) C dL_law_837 (Nat.le_of_ble_eq_true rfl) rfl ?_
  refine s_aloadn (pc := 839) C dL_law_839 rfl ?_
  refine s_aloadn (pc := 840) C dL_law_840 rfl ?_
  refine s_iload (pc := 841) C dL_law_841 rfl ?_
  refine s_iconst (pc := 843) (v := 1) C dL_law_843 (by decide) ?_
  refine s_iadd (pc := 844) C dL_law_844 ?_
  obtain ⟨g_4, hf⟩ := gd hf
  refine s_sld (pc := 845) C hX hbl hbA g_4 dL_law_845 ?_
  refine s_aloadn (pc := 846) C dL_law_846 rfl ?_
  refine s_iload (pc := 847) C dL_law_847 rfl ?_
  refine s_iconst (pc := 849) (v := 2) C dL_law_849 (by decide) ?_
  refine s_iadd (pc := 850) C dL_law_850 ?_
  obtain ⟨g_5, hf⟩ := gd hf
  refine s_sld (pc := 851) C hX hbl hbA g_5 dL_law_851 ?_
  refine s_aloadn (pc := 852) C dL_law_852 rfl ?_
  refine s_iload (pc := 853) C dL_law_853 rfl ?_
  refine s_iconst (pc := 855) (v := 3) C dL_law_855 (by decide) ?_
  refine s_iadd (pc := 856) C dL_law_856 ?_
  obtain ⟨g_6, hf⟩ := gd hf
  refine s_sld (pc := 857) C hX hbl hbA g_6 dL_law_857 ?_
  obtain ⟨r_2, τ_2, e_2, hf⟩ := bnd hf
  refine s_callV (pc := 858) (rest := []) C rfl (c_X4_cell l D ca ad N (xs (ix (v4 + 1))) (xs (ix (v4 + 2))) (xs (ix (v4 + 3))) τ_1 r_2 τ_2 e_2) kv_L_133 ⟨rfl, rfl⟩ (by decide) SH_25 ⟨_, rfl, rfl⟩ rfl rfl (Nat.le_of_ble_eq_true rfl) dL_law_858 ⟨(by show _ ≤ 650184; omega), (by show _ ≤ 7145518; omega)⟩ ?_
  refine s_st (st' := [.int r_2]) rfl ?_
  refine s_istore (pc := 861) (lo' := [some (.ref b), some (.ref (ad 0)), some (.ref (ad 25)), some (.ref (ad 51)), some (.int v4), some (.int r_1), some (.int r_2)]) C dL_law_861 (Nat.le_of_ble_eq_true rfl) rfl ?_
  refine s_aloadn (pc := 863) C dL_law_863 rfl ?_
  obtain ⟨r_3, τ_3, e_3, hf⟩ := bnd hf
  refine s_callV (pc := 864) (rest := []) C rfl (c_X4_thrown l D ca ad N  τ_2 r_3 τ_3 e_3) kv_L_83 ⟨rfl, rfl⟩ (by decide) SH_25 ⟨_, rfl, rfl⟩ rfl rfl (Nat.le_of_ble_eq_true rfl) dL_law_864 ⟨(by show _ ≤ 650184; omega), (by show _ ≤ 7145518; omega)⟩ ?_
  refine s_st (st' := [.int r_3]) rfl ?_
  refine s_iload (pc := 867) C dL_law_867 rfl ?_
  refine s_icmp_eq (pc := 869) (tgt := 874) C dL_law_869 (by decide) (fun h_1 => ?_) (fun h_1 => ?_)
  · replace hf := ifp h_1 hf
    refine s_iload (pc := 874) C dL_law_874 rfl ?_
    refine s_if_ne (pc := 876) (tgt := 891) C dL_law_876 (by decide) (fun h_2 => ?_) (fun h_2 => ?_)
    · replace hf := ifn h_2 hf
      refine s_goto (pc := 891) (tgt := 1019) C dL_law_891 (by decide) ?_
      refine s_iinc (pc := 1019) (v := (v4 + 5)) (lo' := [some (.ref b), some (.ref (ad 0)), some (.ref (ad 25)), some (.ref (ad 51)), some (.int (v4 + 5)), some (.int r_1), some (.int r_2)]) C dL_law_1019 rfl rfl rfl ?_
      refine s_goto (pc := 1022) (tgt := 53) C dL_law_1022 (by decide) ?_
      refine s_few (lo' := [some (.ref b), some (.ref (ad 0)), some (.ref (ad 25)), some (.ref (ad 51)), some (.int (v4 + 5)), none, none]) (lfS (lfS (lfS (lfS (lfS (lfN (lfN lf0))))))) ?_
      exact ih _ _ (v4 + 5) τ_3 (by omega) (by omega) hf
    · replace hf := ifp h_2 hf
      refine s_aloadn (pc := 879) C dL_law_879 rfl ?_
      refine s_iconst (pc := 880) (v := 0) C dL_law_880 (by decide) ?_
      refine s_lald (pc := 881) C SH_51 (ty3 ca) (by decide) dL_law_881 ?_
      refine s_iload (pc := 882) C dL_law_882 rfl ?_
      refine s_i2l (pc := 884) C dL_law_884 ?_
      refine s_lcmp (pc := 885) C dL_law_885 ?_
      refine s_if_eq (pc := 886) (tgt := 891) C dL_law_886 (by decide) (fun h_3 => ?_) (fun h_3 => ?_)
      · replace hf := ifp h_3 hf
        refine s_goto (pc := 891) (tgt := 1019) C dL_law_891 (by decide) ?_
        refine s_iinc (pc := 1019) (v := (v4 + 5)) (lo' := [some (.ref b), some (.ref (ad 0)), some (.ref (ad 25)), some (.ref (ad 51)), some (.int (v4 + 5)), some (.int r_1), some (.int r_2)]) C dL_law_1019 rfl rfl rfl ?_
        refine s_goto (pc := 1022) (tgt := 53) C dL_law_1022 (by decide) ?_
        refine s_few (lo' := [some (.ref b), some (.ref (ad 0)), some (.ref (ad 25)), some (.ref (ad 51)), some (.int (v4 + 5)), none, none]) (lfS (lfS (lfS (lfS (lfS (lfN (lfN lf0))))))) ?_
        exact ih _ _ (v4 + 5) τ_3 (by omega) (by omega) hf
      · replace hf := ifn h_3 hf
        refine s_iconst (pc := 889) (v := 0) C dL_law_889 (by decide) ?_
        exact absurd (Option.some.inj hf) (by decide)
  · replace hf := ifn h_1 hf
    refine s_iconst (pc := 872) (v := 0) C dL_law_872 (by decide) ?_
    exact absurd (Option.some.inj hf) (by decide)
def case_14 (N : Nat) (xs : Nat → Int32) (L : Nat) (kont : Int32 → St → Option Int32) (v4 : Int32) (σ : St) : Option Int32 :=
  bn (f_L_close N σ) fun r_1 τ_1 =>
  bn (f_X4_close N τ_1) fun r_2 τ_2 =>
  bn (f_X4_thrown N τ_2) fun r_3 τ_3 =>
  if r_3 = r_1 then
    if r_1 = 0 then
      if (lg_cmp (((τ_3 51 (ix 0))) : Int32).toInt64 ((r_2) : Int32).toInt64) = 0 then
        kont (v4 + 5) τ_3
      else
        some 0
    else
      kont (v4 + 5) τ_3
  else
    some 0
set_option maxRecDepth 100000 in
set_option maxHeartbeats 4000000 in
theorem wc_14 {l : Launch} {D : va_G} {ca : Nat → ClassId} {ad : Nat → Nat} {p : Program} {e : Env} {s : State} {m : MethodId} {below : List Frame} {meth : Method} {c : Code} {A : Nat → Prop} {b L : Nat} {xs : Nat → Int32} (C : CX p s m #[Value.ref b] c D ca A RL cL_law 7) (hr : meth.sig.returnType = ret) (hlk : meth.locks = false) (hl : l.stackTraces = false) (hXE : XE A s s.heap) (hNC : NCs s) (hX : va_X b L xs s s.heap) (hbl : b < s.heap.size) (hbA : ¬ A b) (hAe : A = fun q => s.heap.size ≤ q) (N n : Nat) (kont : Int32 → St → Option Int32) (ih : ∀ (cs ss : Nat) (i : Int32) (τ : St), cs + 3 * n ≤ 650184 → ss + 18 * n ≤ 7145518 → kont i τ = some 1 → WW p l e room_1 s m #[Value.ref b] below meth c cs ss (lw_Z below #[Value.ref b] s) A D ca ad SH 53 [some (.ref b), some (.ref (ad 0)), some (.ref (ad 25)), some (.ref (ad 51)), some (.int i), none, none] [] τ) (cs ss : Nat) (v4 : Int32) (σ : St) (hcl : cs + 3 * (n + 1) ≤ 650184) (hsl : ss + 18 * (n + 1) ≤ 7145518) (hf : case_14 N xs L kont v4 σ = some 1) : WW p l e room_1 s m #[Value.ref b] below meth c cs ss (lw_Z below #[Value.ref b] s) A D ca ad SH 894 [some (.ref b), some (.ref (ad 0)), some (.ref (ad 25)), some (.ref (ad 51)), some (.int v4), none, none] [] σ := by
  unfold case_14 at hf
  refine s_aloadn (pc := 894) C dL_law_894 rfl ?_
  refine s_aloadn (pc := 895) C dL_law_895 rfl ?_
  obtain ⟨r_1, τ_1, e_1, hf⟩ := bnd hf
  refine s_callH (pc := 896) (rest := []) C hXE hNC rfl (c_L_close l D ca ad hl N  σ r_1 τ_1 e_1) kh_L_134 ⟨rfl, rfl⟩ (by decide) rfl rfl (Nat.le_of_ble_eq_true rfl) dL_law_896 ⟨(by show _ ≤ 650184; omega), (by show _ ≤ 7145518; omega)⟩ ?_
  refine s_st (st' := [.int r_1]) rfl ?_
  refine s_istore (pc := 899) (lo' := [some (.ref b), some (.ref (ad 0)), some (.ref (ad 25)), some (.ref (ad 51)), some (.int v4), some (.int r_1), none]) C dL_law_899 (Nat.le_of_ble_eq_true rfl) rfl ?_
  refine s_aloadn (pc := 901) C dL_law_901 rfl ?_
  obtain ⟨r_2, τ_2, e_2, hf⟩ := bnd hf
  refine s_callV (pc := 902) (rest := []) C rfl (c_X4_close l D ca ad N  τ_1 r_2 τ_2 e_2) kv_L_137 ⟨rfl, rfl⟩ (by decide) SH_25 ⟨_, rfl, rfl⟩ rfl rfl (Nat.le_of_ble_eq_true rfl) dL_law_902 ⟨(by show _ ≤ 650184; omega), (by show _ ≤ 7145518; omega)⟩ ?_
  refine s_st (st' := [.int r_2]) rfl ?_
  refine s_istore (pc := 905) (lo' := [some (.ref b), some (.ref (ad 0)), some (.ref (ad 25)), some (.ref (ad 51)), some (.int v4), some (.int r_1), some (.int r_2)]) C dL_law_905 (Nat.le_of_ble_eq_true rfl) rfl ?_
  refine s_aloadn (pc := 907) C dL_law_907 rfl ?_
  obtain ⟨r_3, τ_3, e_3, hf⟩ := bnd hf
  refine s_callV (pc := 908) (rest := []) C rfl (c_X4_thrown l D ca ad N  τ_2 r_3 τ_3 e_3) kv_L_83 ⟨rfl, rfl⟩ (by decide) SH_25 ⟨_, rfl, rfl⟩ rfl rfl (Nat.le_of_ble_eq_true rfl) dL_law_908 ⟨(by show _ ≤ 650184; omega), (by show _ ≤ 7145518; omega)⟩ ?_
  refine s_st (st' := [.int r_3]) rfl ?_
  refine s_iload (pc := 911) C dL_law_911 rfl ?_
  refine s_icmp_eq (pc := 913) (tgt := 918) C dL_law_913 (by decide) (fun h_1 => ?_) (fun h_1 => ?_)
  · replace hf := ifp h_1 hf
    refine s_iload (pc := 918) C dL_law_918 rfl ?_
    refine s_if_ne (pc := 920) (tgt := 935) C dL_law_920 (by decide) (fun h_2 => ?_) (fun h_2 => ?_)
    · replace hf := ifn h_2 hf
      refine s_goto (pc := 935) (tgt := 1019) C dL_law_935 (by decide) ?_
      refine s_iinc (pc := 1019) (v := (v4 + 5)) (lo' := [some (.ref b), some (.ref (ad 0)), some (.ref (ad 25)), some (.ref (ad 51)), some (.int (v4 + 5)), some (.int r_1), some (.int r_2)]) C dL_law_1019 rfl rfl rfl ?_
      refine s_goto (pc := 1022) (tgt := 53) C dL_law_1022 (by decide) ?_
      refine s_few (lo' := [some (.ref b), some (.ref (ad 0)), some (.ref (ad 25)), some (.ref (ad 51)), some (.int (v4 + 5)), none, none]) (lfS (lfS (lfS (lfS (lfS (lfN (lfN lf0))))))) ?_
      exact ih _ _ (v4 + 5) τ_3 (by omega) (by omega) hf
    · replace hf := ifp h_2 hf
      refine s_aloadn (pc := 923) C dL_law_923 rfl ?_
      refine s_iconst (pc := 924) (v := 0) C dL_law_924 (by decide) ?_
      refine s_lald (pc := 925) C SH_51 (ty3 ca) (by decide) dL_law_925 ?_
      refine s_iload (pc := 926) C dL_law_926 rfl ?_
      refine s_i2l (pc := 928) C dL_law_928 ?_
      refine s_lcmp (pc := 929) C dL_law_929 ?_
      refine s_if_eq (pc := 930) (tgt := 935) C dL_law_930 (by decide) (fun h_3 => ?_) (fun h_3 => ?_)
      · replace hf := ifp h_3 hf
        refine s_goto (pc := 935) (tgt := 1019) C dL_law_935 (by decide) ?_
        refine s_iinc (pc := 1019) (v := (v4 + 5)) (lo' := [some (.ref b), some (.ref (ad 0)), some (.ref (ad 25)), some (.ref (ad 51)), some (.int (v4 + 5)), some (.int r_1), some (.int r_2)]) C dL_law_1019 rfl rfl rfl ?_
        refine s_goto (pc := 1022) (tgt := 53) C dL_law_1022 (by decide) ?_
        refine s_few (lo' := [some (.ref b), some (.ref (ad 0)), some (.ref (ad 25)), some (.ref (ad 51)), some (.int (v4 + 5)), none, none]) (lfS (lfS (lfS (lfS (lfS (lfN (lfN lf0))))))) ?_
        exact ih _ _ (v4 + 5) τ_3 (by omega) (by omega) hf
      · replace hf := ifn h_3 hf
        refine s_iconst (pc := 933) (v := 0) C dL_law_933 (by decide) ?_
        exact absurd (Option.some.inj hf) (by decide)
  · replace hf := ifn h_1 hf
    refine s_iconst (pc := 916) (v := 0) C dL_law_916 (by decide) ?_
    exact absurd (Option.some.inj hf) (by decide)
def case_15 (N : Nat) (xs : Nat → Int32) (L : Nat) (kont : Int32 → St → Option Int32) (v4 : Int32) (σ : St) : Option Int32 :=
  if inb (v4 + 1) L = true then
  bn (f_L_box N (xs (ix (v4 + 1))) σ) fun r_1 τ_1 =>
  if inb (v4 + 1) L = true then
  bn (f_X4_box N (xs (ix (v4 + 1))) τ_1) fun r_2 τ_2 =>
  bn (f_X4_thrown N τ_2) fun r_3 τ_3 =>
  if r_3 = r_1 then
    if r_1 = 0 then
      if (lg_cmp (((τ_3 51 (ix 0))) : Int32).toInt64 ((r_2) : Int32).toInt64) = 0 then
        kont (v4 + 5) τ_3
      else
        some 0
    else
      kont (v4 + 5) τ_3
  else
    some 0
  else none
  else none
set_option maxRecDepth 100000 in
set_option maxHeartbeats 4000000 in
theorem wc_15 {l : Launch} {D : va_G} {ca : Nat → ClassId} {ad : Nat → Nat} {p : Program} {e : Env} {s : State} {m : MethodId} {below : List Frame} {meth : Method} {c : Code} {A : Nat → Prop} {b L : Nat} {xs : Nat → Int32} (C : CX p s m #[Value.ref b] c D ca A RL cL_law 7) (hr : meth.sig.returnType = ret) (hlk : meth.locks = false) (hl : l.stackTraces = false) (hXE : XE A s s.heap) (hNC : NCs s) (hX : va_X b L xs s s.heap) (hbl : b < s.heap.size) (hbA : ¬ A b) (hAe : A = fun q => s.heap.size ≤ q) (N n : Nat) (kont : Int32 → St → Option Int32) (ih : ∀ (cs ss : Nat) (i : Int32) (τ : St), cs + 3 * n ≤ 650184 → ss + 18 * n ≤ 7145518 → kont i τ = some 1 → WW p l e room_1 s m #[Value.ref b] below meth c cs ss (lw_Z below #[Value.ref b] s) A D ca ad SH 53 [some (.ref b), some (.ref (ad 0)), some (.ref (ad 25)), some (.ref (ad 51)), some (.int i), none, none] [] τ) (cs ss : Nat) (v4 : Int32) (σ : St) (hcl : cs + 3 * (n + 1) ≤ 650184) (hsl : ss + 18 * (n + 1) ≤ 7145518) (hf : case_15 N xs L kont v4 σ = some 1) : WW p l e room_1 s m #[Value.ref b] below meth c cs ss (lw_Z below #[Value.ref b] s) A D ca ad SH 938 [some (.ref b), some (.ref (ad 0)), some (.ref (ad 25)), some (.ref (ad 51)), some (.int v4), none, none] [] σ := by
  unfold case_15 at hf
  refine s_aloadn (pc := 938) C dL_law_938 rfl ?_
  refine s_aloadn (pc := 939) C dL_law_939 rfl ?_
  refine s_iload (pc := 940) C dL_law_940 rfl ?_
  refine s_iconst (pc := 942) (v := 1) C dL_law_942 (by decide) ?_
  refine s_iadd (pc := 943) C dL_law_943 ?_
  obtain ⟨g_1, hf⟩ := gd hf
  refine s_sld (pc := 944) C hX hbl hbA g_1 dL_law_944 ?_
  refine s_aloadn (pc := 945) C dL_law_945 rfl ?_
  obtain ⟨r_1, τ_1, e_1, hf⟩ := bnd hf
  refine s_callH (pc := 946) (rest := []) C hXE hNC rfl (c_L_box l D ca ad hl N (xs (ix (v4 + 1))) σ r_1 τ_1 e_1) kh_L_138 ⟨rfl, rfl⟩ (by decide) rfl rfl (Nat.le_of_ble_eq_true rfl) dL_law_946 ⟨(by show _ ≤ 650184; omega), (by show _ ≤ 7145518; omega)⟩ ?_
  refine s_st (st' := [.int r_1]) rfl ?_
  refine s_istore (pc := 949) (lo' := [some (.ref b), some (.ref (ad 0)), some (.ref (ad 25)), some (.ref (ad 51)), some (.int v4), some (.int r_1), none]) C dL_law_949 (Nat.le_of_ble_eq_true rfl) rfl ?_
  refine s_aloadn (pc := 951) C dL_law_951 rfl ?_
  refine s_aloadn (pc := 952) C dL_law_952 rfl ?_
  refine s_iload (pc := 953) C dL_law_953 rfl ?_
  refine s_iconst (pc := 955) (v := 1) C dL_law_955 (by decide) ?_
  refine s_iadd (pc := 956) C dL_law_956 ?_
  obtain ⟨g_2, hf⟩ := gd hf
  refine s_sld (pc := 957) C hX hbl hbA g_2 dL_law_957 ?_
  obtain ⟨r_2, τ_2, e_2, hf⟩ := bnd hf
  refine s_callV (pc := 958) (rest := []) C rfl (c_X4_box l D ca ad N (xs (ix (v4 + 1))) τ_1 r_2 τ_2 e_2) kv_L_140 ⟨rfl, rfl⟩ (by decide) SH_25 ⟨_, rfl, rfl⟩ rfl rfl (Nat.le_of_ble_eq_true rfl) dL_law_958 ⟨(by show _ ≤ 650184; omega), (by show _ ≤ 7145518; omega)⟩ ?_
  refine s_st (st' := [.int r_2]) rfl ?_
  refine s_istore (pc := 961) (lo' := [some (.ref b), some (.ref (ad 0)), some (.ref (ad 25)), some (.ref (ad 51)), some (.int v4), some (.int r_1), some (.int r_2)]) C dL_law_961 (Nat.le_of_ble_eq_true rfl) rfl ?_
  refine s_aloadn (pc := 963) C dL_law_963 rfl ?_
  obtain ⟨r_3, τ_3, e_3, hf⟩ := bnd hf
  refine s_callV (pc := 964) (rest := []) C rfl (c_X4_thrown l D ca ad N  τ_2 r_3 τ_3 e_3) kv_L_83 ⟨rfl, rfl⟩ (by decide) SH_25 ⟨_, rfl, rfl⟩ rfl rfl (Nat.le_of_ble_eq_true rfl) dL_law_964 ⟨(by show _ ≤ 650184; omega), (by show _ ≤ 7145518; omega)⟩ ?_
  refine s_st (st' := [.int r_3]) rfl ?_
  refine s_iload (pc := 967) C dL_law_967 rfl ?_
  refine s_icmp_eq (pc := 969) (tgt := 974) C dL_law_969 (by decide) (fun h_1 => ?_) (fun h_1 => ?_)
  · replace hf := ifp h_1 hf
    refine s_iload (pc := 974) C dL_law_974 rfl ?_
    refine s_if_ne (pc := 976) (tgt := 991) C dL_law_976 (by decide) (fun h_2 => ?_) (fun h_2 => ?_)
    · replace hf := ifn h_2 hf
      refine s_goto (pc := 991) (tgt := 1019) C dL_law_991 (by decide) ?_
      refine s_iinc (pc := 1019) (v := (v4 + 5)) (lo' := [some (.ref b), some (.ref (ad 0)), some (.ref (ad 25)), some (.ref (ad 51)), some (.int (v4 + 5)), some (.int r_1), some (.int r_2)]) C dL_law_1019 rfl rfl rfl ?_
      refine s_goto (pc := 1022) (tgt := 53) C dL_law_1022 (by decide) ?_
      refine s_few (lo' := [some (.ref b), some (.ref (ad 0)), some (.ref (ad 25)), some (.ref (ad 51)), some (.int (v4 + 5)), none, none]) (lfS (lfS (lfS (lfS (lfS (lfN (lfN lf0))))))) ?_
      exact ih _ _ (v4 + 5) τ_3 (by omega) (by omega) hf
    · replace hf := ifp h_2 hf
      refine s_aloadn (pc := 979) C dL_law_979 rfl ?_
      refine s_iconst (pc := 980) (v := 0) C dL_law_980 (by decide) ?_
      refine s_lald (pc := 981) C SH_51 (ty3 ca) (by decide) dL_law_981 ?_
      refine s_iload (pc := 982) C dL_law_982 rfl ?_
      refine s_i2l (pc := 984) C dL_law_984 ?_
      refine s_lcmp (pc := 985) C dL_law_985 ?_
      refine s_if_eq (pc := 986) (tgt := 991) C dL_law_986 (by decide) (fun h_3 => ?_) (fun h_3 => ?_)
      · replace hf := ifp h_3 hf
        refine s_goto (pc := 991) (tgt := 1019) C dL_law_991 (by decide) ?_
        refine s_iinc (pc := 1019) (v := (v4 + 5)) (lo' := [some (.ref b), some (.ref (ad 0)), some (.ref (ad 25)), some (.ref (ad 51)), some (.int (v4 + 5)), some (.int r_1), some (.int r_2)]) C dL_law_1019 rfl rfl rfl ?_
        refine s_goto (pc := 1022) (tgt := 53) C dL_law_1022 (by decide) ?_
        refine s_few (lo' := [some (.ref b), some (.ref (ad 0)), some (.ref (ad 25)), some (.ref (ad 51)), some (.int (v4 + 5)), none, none]) (lfS (lfS (lfS (lfS (lfS (lfN (lfN lf0))))))) ?_
        exact ih _ _ (v4 + 5) τ_3 (by omega) (by omega) hf
      · replace hf := ifn h_3 hf
        refine s_iconst (pc := 989) (v := 0) C dL_law_989 (by decide) ?_
        exact absurd (Option.some.inj hf) (by decide)
  · replace hf := ifn h_1 hf
    refine s_iconst (pc := 972) (v := 0) C dL_law_972 (by decide) ?_
    exact absurd (Option.some.inj hf) (by decide)
def case_16 (N : Nat) (xs : Nat → Int32) (L : Nat) (kont : Int32 → St → Option Int32) (v4 : Int32) (σ : St) : Option Int32 :=
  if inb (v4 + 1) L = true then
  bn (f_X3_count N (xs (ix (v4 + 1))) σ) fun r_1 τ_1 =>
  if inb (v4 + 1) L = true then
  bn (f_X4_count N (xs (ix (v4 + 1))) τ_1) fun r_2 τ_2 =>
  if r_1 = r_2 then
    kont (v4 + 5) τ_2
  else
    some 0
  else none
  else none
set_option maxRecDepth 100000 in
set_option maxHeartbeats 4000000 in
theorem wc_16 {l : Launch} {D : va_G} {ca : Nat → ClassId} {ad : Nat → Nat} {p : Program} {e : Env} {s : State} {m : MethodId} {below : List Frame} {meth : Method} {c : Code} {A : Nat → Prop} {b L : Nat} {xs : Nat → Int32} (C : CX p s m #[Value.ref b] c D ca A RL cL_law 7) (hr : meth.sig.returnType = ret) (hlk : meth.locks = false) (hl : l.stackTraces = false) (hXE : XE A s s.heap) (hNC : NCs s) (hX : va_X b L xs s s.heap) (hbl : b < s.heap.size) (hbA : ¬ A b) (hAe : A = fun q => s.heap.size ≤ q) (N n : Nat) (kont : Int32 → St → Option Int32) (ih : ∀ (cs ss : Nat) (i : Int32) (τ : St), cs + 3 * n ≤ 650184 → ss + 18 * n ≤ 7145518 → kont i τ = some 1 → WW p l e room_1 s m #[Value.ref b] below meth c cs ss (lw_Z below #[Value.ref b] s) A D ca ad SH 53 [some (.ref b), some (.ref (ad 0)), some (.ref (ad 25)), some (.ref (ad 51)), some (.int i), none, none] [] τ) (cs ss : Nat) (v4 : Int32) (σ : St) (hcl : cs + 3 * (n + 1) ≤ 650184) (hsl : ss + 18 * (n + 1) ≤ 7145518) (hf : case_16 N xs L kont v4 σ = some 1) : WW p l e room_1 s m #[Value.ref b] below meth c cs ss (lw_Z below #[Value.ref b] s) A D ca ad SH 994 [some (.ref b), some (.ref (ad 0)), some (.ref (ad 25)), some (.ref (ad 51)), some (.int v4), none, none] [] σ := by
  unfold case_16 at hf
  refine s_aloadn (pc := 994) C dL_law_994 rfl ?_
  refine s_aloadn (pc := 995) C dL_law_995 rfl ?_
  refine s_iload (pc := 996) C dL_law_996 rfl ?_
  refine s_iconst (pc := 998) (v := 1) C dL_law_998 (by decide) ?_
  refine s_iadd (pc := 999) C dL_law_999 ?_
  obtain ⟨g_1, hf⟩ := gd hf
  refine s_sld (pc := 1000) C hX hbl hbA g_1 dL_law_1000 ?_
  obtain ⟨r_1, τ_1, e_1, hf⟩ := bnd hf
  refine s_callV (pc := 1001) (rest := []) C rfl (c_X3_count l D ca ad N (xs (ix (v4 + 1))) σ r_1 τ_1 e_1) kv_L_141 ⟨rfl, rfl⟩ (by decide) SH_0 ⟨_, rfl, rfl⟩ rfl rfl (Nat.le_of_ble_eq_true rfl) dL_law_1001 ⟨(by show _ ≤ 650184; omega), (by show _ ≤ 7145518; omega)⟩ ?_
  refine s_st (st' := [.int r_1]) rfl ?_
  refine s_aloadn (pc := 1004) C dL_law_1004 rfl ?_
  refine s_aloadn (pc := 1005) C dL_law_1005 rfl ?_
  refine s_iload (pc := 1006) C dL_law_1006 rfl ?_
  refine s_iconst (pc := 1008) (v := 1) C dL_law_1008 (by decide) ?_
  refine s_iadd (pc := 1009) C dL_law_1009 ?_
  obtain ⟨g_2, hf⟩ := gd hf
  refine s_sld (pc := 1010) C hX hbl hbA g_2 dL_law_1010 ?_
  obtain ⟨r_2, τ_2, e_2, hf⟩ := bnd hf
  refine s_callV (pc := 1011) (rest := [.int r_1]) C rfl (c_X4_count l D ca ad N (xs (ix (v4 + 1))) τ_1 r_2 τ_2 e_2) kv_L_144 ⟨rfl, rfl⟩ (by decide) SH_25 ⟨_, rfl, rfl⟩ rfl rfl (Nat.le_of_ble_eq_true rfl) dL_law_1011 ⟨(by show _ ≤ 650184; omega), (by show _ ≤ 7145518; omega)⟩ ?_
  refine s_st (st' := [.int r_2, .int r_1]) rfl ?_
  refine s_icmp_eq (pc := 1014) (tgt := 1019) C dL_law_1014 (by decide) (fun h_1 => ?_) (fun h_1 => ?_)
  · replace hf := ifp h_1 hf
    refine s_iinc (pc := 1019) (v := (v4 + 5)) (lo' := [some (.ref b), some (.ref (ad 0)), some (.ref (ad 25)), some (.ref (ad 51)), some (.int (v4 + 5)), none, none]) C dL_law_1019 rfl rfl rfl ?_
    refine s_goto (pc := 1022) (tgt := 53) C dL_law_1022 (by decide) ?_
    refine s_few (lo' := [some (.ref b), some (.ref (ad 0)), some (.ref (ad 25)), some (.ref (ad 51)), some (.int (v4 + 5)), none, none]) (lfS (lfS (lfS (lfS (lfS (lfN (lfN lf0))))))) ?_
    exact ih _ _ (v4 + 5) τ_2 (by omega) (by omega) hf
  · replace hf := ifn h_1 hf
    refine s_iconst (pc := 1017) (v := 0) C dL_law_1017 (by decide) ?_
    exact absurd (Option.some.inj hf) (by decide)
