/-! the law, a call each (written by a program) -/
set_option maxHeartbeats 4000000 in
theorem law_c0 {xs : List Int32} (hn : xs.length ≤ 2048) {i : Int32} (h0 : 0 ≤ i.toInt) (h4 : i.toInt + 4 ≤ xs.length) {P : mP} (hT : Typ P) (hR : Rel P) (hX : XR P) (hJ : Inj P) (hS : SIM P) (hZ : TK0 P) (kk : ∀ P' : mP, LI P' → MEvP 15 (some xs) lawq 992 [(3, .int i), (2, .ref 301), (1, .ref 0), (0, .long 0)] [] P' 315 4038 (fun r _ => r = some (.int 1))) : MEvP 15 (some xs) lawq 176 [(3, .int i), (2, .ref 301), (1, .ref 0), (0, .long 0)] [] P 315 4038 (fun r _ => r = some (.int 1)) := by
  refine mp_a (a_aload_n dL_law_176 rfl) (mpp 177 rfl ?_)
  refine mp_a (a_aload_nT dL_law_177 rfl) (mpp 178 rfl ?_)
  refine mp_a (a_iload_n dL_law_178 rfl) (mpp 179 rfl ?_)
  refine mp_a (a_iconst (v := 1) dL_law_179 rfl) (mpp 180 rfl ?_)
  obtain ⟨z1, h2⟩ := ti_ex (i + 1 : Int32)
  have e3 : z1.toInt = i.toInt + 1 := ti_addz h2 rfl rfl (by omega) (by omega)
  refine mp_t (s_iadd (v := z1) dL_law_180 h2) (mpp 181 rfl ?_)
  obtain ⟨w4, h5⟩ := ti_ex (xs.getD z1.toNatClampNeg 0)
  refine mp_sld (v := w4) (N := xs.length) dL_law_181 rfl (t_ix (by omega) (by omega)) h5 (mpp 182 rfl ?_)
  refine mt_callv (i := 13) (q' := q_7) (As := [.int w4]) (rest := []) hT dL_law_182 rfl qm_7 (by decide) rfl rl_0 (by decide) rfl (Nat.le_of_ble_eq_true rfl) rfl ⟨rfl, rfl⟩ ⟨Nat.le_of_ble_eq_true rfl, Nat.le_of_ble_eq_true rfl⟩ (EvP.mono (by decide) (c_F_stage hT hX hJ )) (fun r7 P8 g6 => mpp 185 rfl ?_)
  obtain ⟨⟨x9, rfl, g10⟩, hT11, k12, J14, R13⟩ := g6
  have R15 : Rel P8 := Rel.kw hR k12 rfl
  have J16 : Inj P8 := J14
  have X17 : XR P8 := KW.xr k12 hX
  have Z18 : TK0 P8 := fun l hl => (congrArg Int32.toInt (KW.at k12 l rl_313 rfl)).trans (hZ l hl)
  replace g10 : KPX P P8 ∧ stageC P P8 x9.toInt w4.toInt w4 := g10
  show MEvP _ _ lawq 185 [(3, .int i), (2, .ref 301), (1, .ref 0), (0, .long 0)] [.int x9] _ _ _ _
  refine mp_t (s_pop dL_law_185 rfl) (mpp 186 rfl ?_)
  refine mp_a (a_aload_n dL_law_186 rfl) (mpp 187 rfl ?_)
  refine mp_a (a_aload_nT dL_law_187 rfl) (mpp 188 rfl ?_)
  refine mp_a (a_iload_n dL_law_188 rfl) (mpp 189 rfl ?_)
  refine mp_a (a_iconst (v := 1) dL_law_189 rfl) (mpp 190 rfl ?_)
  refine mp_t (s_iadd (v := z1) dL_law_190 h2) (mpp 191 rfl ?_)
  refine mp_sld (v := w4) (N := xs.length) dL_law_191 rfl (t_ix (by omega) (by omega)) h5 (mpp 192 rfl ?_)
  refine mt_callv (i := 17) (q' := q_182) (As := [.int w4]) (rest := []) hT11 dL_law_192 rfl qm_182 (by decide) rfl rl_301 (by decide) rfl (Nat.le_of_ble_eq_true rfl) rfl ⟨rfl, rfl⟩ ⟨Nat.le_of_ble_eq_true rfl, Nat.le_of_ble_eq_true rfl⟩ (EvP.mono (by decide) (c_M_stage hT11 R15 )) (fun r20 P21 g19 => mpp 195 rfl ?_)
  obtain ⟨⟨x22, rfl, g23⟩, hT24, k25, R26⟩ := g19
  have R28 : Rel P21 := R26
  have J29 : Inj P21 := Inj.kw J16 k25 rfl
  have X30 : XR P21 := KW.xr k25 X17
  have Z31 : TK0 P21 := fun l hl => (congrArg Int32.toInt (KW.at k25 l rl_313 rfl)).trans (Z18 l hl)
  replace g23 : TOPM P8 P21 x22.toInt ∧ stagesM (sr P8) (sr P21) x22.toInt w4.toInt := g23
  show MEvP _ _ lawq 195 [(3, .int i), (2, .ref 301), (1, .ref 0), (0, .long 0)] [.int x22] _ _ _ _
  refine mp_t (s_pop dL_law_195 rfl) (mpp 196 rfl ?_)
  refine mp_a (a_goto (t := 992) dL_law_196 (by decide)) ?_
  have m32h : ∀ a j : Nat, 301 ≤ a → a < 315 → fv P8 a j = fv P a j := fun a j h1 h2 => KW.high k12 hT hT11 (by decide) h1 h2 j
  have m32l : ∀ a j : Nat, a < 301 → fv P21 a j = fv P8 a j := fun a j h1 => KW.low k25 hT11 hT24 (by decide) h1 j
  have m32r : ∀ k : Nat, rv P21 2 k = rv P8 2 k := fun k => k25.2.2 rfl k
  have m32e : sr P8 = sr P := funext (fun j => m32h 302 j (by omega) (by omega))
  have m32m := g23.2
  rw [m32e] at m32m
  have s1 := hS.1
  have s6 := hS.2.2.2.2.2.1
  have m32o := stage_core hT s1 s6 g10.2 m32m
  exact kk _ ⟨hT24, R28, X30, J29, SIM.fin hS hT hT11 g10.1 m32h g23.1 m32l m32r m32o.1 m32o.2, Z31⟩

set_option maxHeartbeats 4000000 in
theorem law_c1 {xs : List Int32} (hn : xs.length ≤ 2048) {i : Int32} (h0 : 0 ≤ i.toInt) (h4 : i.toInt + 4 ≤ xs.length) {P : mP} (hT : Typ P) (hR : Rel P) (hX : XR P) (hJ : Inj P) (hS : SIM P) (hZ : TK0 P) (kk : ∀ P' : mP, LI P' → MEvP 15 (some xs) lawq 992 [(3, .int i), (2, .ref 301), (1, .ref 0), (0, .long 0)] [] P' 315 4038 (fun r _ => r = some (.int 1))) : MEvP 15 (some xs) lawq 199 [(3, .int i), (2, .ref 301), (1, .ref 0), (0, .long 0)] [] P 315 4038 (fun r _ => r = some (.int 1)) := by
  refine mp_a (a_aload_n dL_law_199 rfl) (mpp 200 rfl ?_)
  refine mp_a (a_aload_nT dL_law_200 rfl) (mpp 201 rfl ?_)
  refine mp_a (a_iload_n dL_law_201 rfl) (mpp 202 rfl ?_)
  refine mp_a (a_iconst (v := 1) dL_law_202 rfl) (mpp 203 rfl ?_)
  obtain ⟨z1, h2⟩ := ti_ex (i + 1 : Int32)
  have e3 : z1.toInt = i.toInt + 1 := ti_addz h2 rfl rfl (by omega) (by omega)
  refine mp_t (s_iadd (v := z1) dL_law_203 h2) (mpp 204 rfl ?_)
  obtain ⟨w4, h5⟩ := ti_ex (xs.getD z1.toNatClampNeg 0)
  refine mp_sld (v := w4) (N := xs.length) dL_law_204 rfl (t_ix (by omega) (by omega)) h5 (mpp 205 rfl ?_)
  refine mp_a (a_aload_nT dL_law_205 rfl) (mpp 206 rfl ?_)
  refine mp_a (a_iload_n dL_law_206 rfl) (mpp 207 rfl ?_)
  refine mp_a (a_iconst (v := 2) dL_law_207 rfl) (mpp 208 rfl ?_)
  obtain ⟨z6, h7⟩ := ti_ex (i + 2 : Int32)
  have e8 : z6.toInt = i.toInt + 2 := ti_addz h7 rfl rfl (by omega) (by omega)
  refine mp_t (s_iadd (v := z6) dL_law_208 h7) (mpp 209 rfl ?_)
  obtain ⟨w9, h10⟩ := ti_ex (xs.getD z6.toNatClampNeg 0)
  refine mp_sld (v := w9) (N := xs.length) dL_law_209 rfl (t_ix (by omega) (by omega)) h10 (mpp 210 rfl ?_)
  refine mp_a (a_aload_nT dL_law_210 rfl) (mpp 211 rfl ?_)
  refine mp_a (a_iload_n dL_law_211 rfl) (mpp 212 rfl ?_)
  refine mp_a (a_iconst (v := 3) dL_law_212 rfl) (mpp 213 rfl ?_)
  obtain ⟨z11, h12⟩ := ti_ex (i + 3 : Int32)
  have e13 : z11.toInt = i.toInt + 3 := ti_addz h12 rfl rfl (by omega) (by omega)
  refine mp_t (s_iadd (v := z11) dL_law_213 h12) (mpp 214 rfl ?_)
  obtain ⟨w14, h15⟩ := ti_ex (xs.getD z11.toNatClampNeg 0)
  refine mp_sld (v := w14) (N := xs.length) dL_law_214 rfl (t_ix (by omega) (by omega)) h15 (mpp 215 rfl ?_)
  refine mt_callv (i := 18) (q' := q_20) (As := [.int w4, .int w9, .int w14]) (rest := []) hT dL_law_215 rfl qm_20 (by decide) rfl rl_0 (by decide) rfl (Nat.le_of_ble_eq_true rfl) rfl ⟨rfl, rfl⟩ ⟨Nat.le_of_ble_eq_true rfl, Nat.le_of_ble_eq_true rfl⟩ (EvP.mono (by decide) (c_F_add hT hX hJ )) (fun r17 P18 g16 => mpp 218 rfl ?_)
  obtain ⟨⟨x19, rfl, g20⟩, hT21, k22, J24, R23⟩ := g16
  have R25 : Rel P18 := Rel.kw hR k22 rfl
  have J26 : Inj P18 := J24
  have X27 : XR P18 := KW.xr k22 hX
  have Z28 : TK0 P18 := fun l hl => (congrArg Int32.toInt (KW.at k22 l rl_313 rfl)).trans (hZ l hl)
  replace g20 : KPX P P18 ∧ addC P P18 x19.toInt w4.toInt w9.toInt w14.toInt := g20
  show MEvP _ _ lawq 218 [(3, .int i), (2, .ref 301), (1, .ref 0), (0, .long 0)] [.int x19] _ _ _ _
  refine mp_t (s_pop dL_law_218 rfl) (mpp 219 rfl ?_)
  refine mp_a (a_aload_n dL_law_219 rfl) (mpp 220 rfl ?_)
  refine mp_a (a_aload_nT dL_law_220 rfl) (mpp 221 rfl ?_)
  refine mp_a (a_iload_n dL_law_221 rfl) (mpp 222 rfl ?_)
  refine mp_a (a_iconst (v := 1) dL_law_222 rfl) (mpp 223 rfl ?_)
  refine mp_t (s_iadd (v := z1) dL_law_223 h2) (mpp 224 rfl ?_)
  refine mp_sld (v := w4) (N := xs.length) dL_law_224 rfl (t_ix (by omega) (by omega)) h5 (mpp 225 rfl ?_)
  refine mp_a (a_aload_nT dL_law_225 rfl) (mpp 226 rfl ?_)
  refine mp_a (a_iload_n dL_law_226 rfl) (mpp 227 rfl ?_)
  refine mp_a (a_iconst (v := 2) dL_law_227 rfl) (mpp 228 rfl ?_)
  refine mp_t (s_iadd (v := z6) dL_law_228 h7) (mpp 229 rfl ?_)
  refine mp_sld (v := w9) (N := xs.length) dL_law_229 rfl (t_ix (by omega) (by omega)) h10 (mpp 230 rfl ?_)
  refine mp_a (a_aload_nT dL_law_230 rfl) (mpp 231 rfl ?_)
  refine mp_a (a_iload_n dL_law_231 rfl) (mpp 232 rfl ?_)
  refine mp_a (a_iconst (v := 3) dL_law_232 rfl) (mpp 233 rfl ?_)
  refine mp_t (s_iadd (v := z11) dL_law_233 h12) (mpp 234 rfl ?_)
  refine mp_sld (v := w14) (N := xs.length) dL_law_234 rfl (t_ix (by omega) (by omega)) h15 (mpp 235 rfl ?_)
  refine mt_callv (i := 22) (q' := q_123) (As := [.int w4, .int w9, .int w14]) (rest := []) hT21 dL_law_235 rfl qm_123 (by decide) rfl rl_301 (by decide) rfl (Nat.le_of_ble_eq_true rfl) rfl ⟨rfl, rfl⟩ ⟨Nat.le_of_ble_eq_true rfl, Nat.le_of_ble_eq_true rfl⟩ (EvP.mono (by decide) (c_M_add hT21 R25 )) (fun r30 P31 g29 => mpp 238 rfl ?_)
  obtain ⟨⟨x32, rfl, g33⟩, hT34, k35, R36⟩ := g29
  have R38 : Rel P31 := R36
  have J39 : Inj P31 := Inj.kw J26 k35 rfl
  have X40 : XR P31 := KW.xr k35 X27
  have Z41 : TK0 P31 := fun l hl => (congrArg Int32.toInt (KW.at k35 l rl_313 rfl)).trans (Z28 l hl)
  replace g33 : TOPM P18 P31 x32.toInt ∧ addsToldM (sr P18) (sr P31) x32.toInt w4.toInt w9.toInt w14.toInt := g33
  show MEvP _ _ lawq 238 [(3, .int i), (2, .ref 301), (1, .ref 0), (0, .long 0)] [.int x32] _ _ _ _
  refine mp_t (s_pop dL_law_238 rfl) (mpp 239 rfl ?_)
  refine mp_a (a_goto (t := 992) dL_law_239 (by decide)) ?_
  have m42h : ∀ a j : Nat, 301 ≤ a → a < 315 → fv P18 a j = fv P a j := fun a j h1 h2 => KW.high k22 hT hT21 (by decide) h1 h2 j
  have m42l : ∀ a j : Nat, a < 301 → fv P31 a j = fv P18 a j := fun a j h1 => KW.low k35 hT21 hT34 (by decide) h1 j
  have m42r : ∀ k : Nat, rv P31 2 k = rv P18 2 k := fun k => k35.2.2 rfl k
  have m42e : sr P18 = sr P := funext (fun j => m42h 302 j (by omega) (by omega))
  have m42m := g33.2
  rw [m42e] at m42m
  have s1 := hS.1
  have s6 := hS.2.2.2.2.2.1
  have m42o := add_core hT s1 s6 g20.2 m42m
  exact kk _ ⟨hT34, R38, X40, J39, SIM.fin hS hT hT21 g20.1 m42h g33.1 m42l m42r m42o.1 m42o.2, Z41⟩

set_option maxHeartbeats 4000000 in
theorem law_c2 {xs : List Int32} (hn : xs.length ≤ 2048) {i : Int32} (h0 : 0 ≤ i.toInt) (h4 : i.toInt + 4 ≤ xs.length) {P : mP} (hT : Typ P) (hR : Rel P) (hX : XR P) (hJ : Inj P) (hS : SIM P) (hZ : TK0 P) (kk : ∀ P' : mP, LI P' → MEvP 15 (some xs) lawq 992 [(3, .int i), (2, .ref 301), (1, .ref 0), (0, .long 0)] [] P' 315 4038 (fun r _ => r = some (.int 1))) : MEvP 15 (some xs) lawq 242 [(3, .int i), (2, .ref 301), (1, .ref 0), (0, .long 0)] [] P 315 4038 (fun r _ => r = some (.int 1)) := by
  refine mp_a (a_aload_n dL_law_242 rfl) (mpp 243 rfl ?_)
  refine mp_a (a_aload_nT dL_law_243 rfl) (mpp 244 rfl ?_)
  refine mp_a (a_iload_n dL_law_244 rfl) (mpp 245 rfl ?_)
  refine mp_a (a_iconst (v := 1) dL_law_245 rfl) (mpp 246 rfl ?_)
  obtain ⟨z1, h2⟩ := ti_ex (i + 1 : Int32)
  have e3 : z1.toInt = i.toInt + 1 := ti_addz h2 rfl rfl (by omega) (by omega)
  refine mp_t (s_iadd (v := z1) dL_law_246 h2) (mpp 247 rfl ?_)
  obtain ⟨w4, h5⟩ := ti_ex (xs.getD z1.toNatClampNeg 0)
  refine mp_sld (v := w4) (N := xs.length) dL_law_247 rfl (t_ix (by omega) (by omega)) h5 (mpp 248 rfl ?_)
  refine mp_a (a_aload_nT dL_law_248 rfl) (mpp 249 rfl ?_)
  refine mp_a (a_iload_n dL_law_249 rfl) (mpp 250 rfl ?_)
  refine mp_a (a_iconst (v := 2) dL_law_250 rfl) (mpp 251 rfl ?_)
  obtain ⟨z6, h7⟩ := ti_ex (i + 2 : Int32)
  have e8 : z6.toInt = i.toInt + 2 := ti_addz h7 rfl rfl (by omega) (by omega)
  refine mp_t (s_iadd (v := z6) dL_law_251 h7) (mpp 252 rfl ?_)
  obtain ⟨w9, h10⟩ := ti_ex (xs.getD z6.toNatClampNeg 0)
  refine mp_sld (v := w9) (N := xs.length) dL_law_252 rfl (t_ix (by omega) (by omega)) h10 (mpp 253 rfl ?_)
  refine mp_a (a_aload_nT dL_law_253 rfl) (mpp 254 rfl ?_)
  refine mp_a (a_iload_n dL_law_254 rfl) (mpp 255 rfl ?_)
  refine mp_a (a_iconst (v := 3) dL_law_255 rfl) (mpp 256 rfl ?_)
  obtain ⟨z11, h12⟩ := ti_ex (i + 3 : Int32)
  have e13 : z11.toInt = i.toInt + 3 := ti_addz h12 rfl rfl (by omega) (by omega)
  refine mp_t (s_iadd (v := z11) dL_law_256 h12) (mpp 257 rfl ?_)
  obtain ⟨w14, h15⟩ := ti_ex (xs.getD z11.toNatClampNeg 0)
  refine mp_sld (v := w14) (N := xs.length) dL_law_257 rfl (t_ix (by omega) (by omega)) h15 (mpp 258 rfl ?_)
  refine mt_callv (i := 23) (q' := q_28) (As := [.int w4, .int w9, .int w14]) (rest := []) hT dL_law_258 rfl qm_28 (by decide) rfl rl_0 (by decide) rfl (Nat.le_of_ble_eq_true rfl) rfl ⟨rfl, rfl⟩ ⟨Nat.le_of_ble_eq_true rfl, Nat.le_of_ble_eq_true rfl⟩ (EvP.mono (by decide) (c_F_mark hT hX hJ )) (fun r17 P18 g16 => mpp 261 rfl ?_)
  obtain ⟨⟨x19, rfl, g20⟩, hT21, k22, J24, R23⟩ := g16
  have R25 : Rel P18 := Rel.kw hR k22 rfl
  have J26 : Inj P18 := J24
  have X27 : XR P18 := KW.xr k22 hX
  have Z28 : TK0 P18 := fun l hl => (congrArg Int32.toInt (KW.at k22 l rl_313 rfl)).trans (hZ l hl)
  replace g20 : KPX P P18 ∧ markC P P18 x19.toInt w4.toInt w9.toInt w14.toInt := g20
  show MEvP _ _ lawq 261 [(3, .int i), (2, .ref 301), (1, .ref 0), (0, .long 0)] [.int x19] _ _ _ _
  refine mp_t (s_pop dL_law_261 rfl) (mpp 262 rfl ?_)
  refine mp_a (a_aload_n dL_law_262 rfl) (mpp 263 rfl ?_)
  refine mp_a (a_aload_nT dL_law_263 rfl) (mpp 264 rfl ?_)
  refine mp_a (a_iload_n dL_law_264 rfl) (mpp 265 rfl ?_)
  refine mp_a (a_iconst (v := 1) dL_law_265 rfl) (mpp 266 rfl ?_)
  refine mp_t (s_iadd (v := z1) dL_law_266 h2) (mpp 267 rfl ?_)
  refine mp_sld (v := w4) (N := xs.length) dL_law_267 rfl (t_ix (by omega) (by omega)) h5 (mpp 268 rfl ?_)
  refine mp_a (a_aload_nT dL_law_268 rfl) (mpp 269 rfl ?_)
  refine mp_a (a_iload_n dL_law_269 rfl) (mpp 270 rfl ?_)
  refine mp_a (a_iconst (v := 2) dL_law_270 rfl) (mpp 271 rfl ?_)
  refine mp_t (s_iadd (v := z6) dL_law_271 h7) (mpp 272 rfl ?_)
  refine mp_sld (v := w9) (N := xs.length) dL_law_272 rfl (t_ix (by omega) (by omega)) h10 (mpp 273 rfl ?_)
  refine mp_a (a_aload_nT dL_law_273 rfl) (mpp 274 rfl ?_)
  refine mp_a (a_iload_n dL_law_274 rfl) (mpp 275 rfl ?_)
  refine mp_a (a_iconst (v := 3) dL_law_275 rfl) (mpp 276 rfl ?_)
  refine mp_t (s_iadd (v := z11) dL_law_276 h12) (mpp 277 rfl ?_)
  refine mp_sld (v := w14) (N := xs.length) dL_law_277 rfl (t_ix (by omega) (by omega)) h15 (mpp 278 rfl ?_)
  refine mt_callv (i := 26) (q' := q_141) (As := [.int w4, .int w9, .int w14]) (rest := []) hT21 dL_law_278 rfl qm_141 (by decide) rfl rl_301 (by decide) rfl (Nat.le_of_ble_eq_true rfl) rfl ⟨rfl, rfl⟩ ⟨Nat.le_of_ble_eq_true rfl, Nat.le_of_ble_eq_true rfl⟩ (EvP.mono (by decide) (c_M_mark hT21 R25 )) (fun r30 P31 g29 => mpp 281 rfl ?_)
  obtain ⟨⟨x32, rfl, g33⟩, hT34, k35, R36⟩ := g29
  have R38 : Rel P31 := R36
  have J39 : Inj P31 := Inj.kw J26 k35 rfl
  have X40 : XR P31 := KW.xr k35 X27
  have Z41 : TK0 P31 := fun l hl => (congrArg Int32.toInt (KW.at k35 l rl_313 rfl)).trans (Z28 l hl)
  replace g33 : TOPM P18 P31 x32.toInt ∧ marksM (sr P18) (sr P31) x32.toInt w4.toInt w9.toInt w14.toInt := g33
  show MEvP _ _ lawq 281 [(3, .int i), (2, .ref 301), (1, .ref 0), (0, .long 0)] [.int x32] _ _ _ _
  refine mp_t (s_pop dL_law_281 rfl) (mpp 282 rfl ?_)
  refine mp_a (a_goto (t := 992) dL_law_282 (by decide)) ?_
  have m42h : ∀ a j : Nat, 301 ≤ a → a < 315 → fv P18 a j = fv P a j := fun a j h1 h2 => KW.high k22 hT hT21 (by decide) h1 h2 j
  have m42l : ∀ a j : Nat, a < 301 → fv P31 a j = fv P18 a j := fun a j h1 => KW.low k35 hT21 hT34 (by decide) h1 j
  have m42r : ∀ k : Nat, rv P31 2 k = rv P18 2 k := fun k => k35.2.2 rfl k
  have m42e : sr P18 = sr P := funext (fun j => m42h 302 j (by omega) (by omega))
  have m42m := g33.2
  rw [m42e] at m42m
  have s1 := hS.1
  have s6 := hS.2.2.2.2.2.1
  have m42o := mark_core hT hJ s1 s6 g20.2 m42m
  exact kk _ ⟨hT34, R38, X40, J39, SIM.fin hS hT hT21 g20.1 m42h g33.1 m42l m42r m42o.1 m42o.2, Z41⟩

set_option maxHeartbeats 4000000 in
theorem law_c3 {xs : List Int32} (hn : xs.length ≤ 2048) {i : Int32} (h0 : 0 ≤ i.toInt) (h4 : i.toInt + 4 ≤ xs.length) {P : mP} (hT : Typ P) (hR : Rel P) (hX : XR P) (hJ : Inj P) (hS : SIM P) (hZ : TK0 P) (kk : ∀ P' : mP, LI P' → MEvP 15 (some xs) lawq 992 [(3, .int i), (2, .ref 301), (1, .ref 0), (0, .long 0)] [] P' 315 4038 (fun r _ => r = some (.int 1))) : MEvP 15 (some xs) lawq 285 [(3, .int i), (2, .ref 301), (1, .ref 0), (0, .long 0)] [] P 315 4038 (fun r _ => r = some (.int 1)) := by
  refine mp_a (a_aload_n dL_law_285 rfl) (mpp 286 rfl ?_)
  refine mp_a (a_aload_nT dL_law_286 rfl) (mpp 287 rfl ?_)
  refine mp_a (a_iload_n dL_law_287 rfl) (mpp 288 rfl ?_)
  refine mp_a (a_iconst (v := 1) dL_law_288 rfl) (mpp 289 rfl ?_)
  obtain ⟨z1, h2⟩ := ti_ex (i + 1 : Int32)
  have e3 : z1.toInt = i.toInt + 1 := ti_addz h2 rfl rfl (by omega) (by omega)
  refine mp_t (s_iadd (v := z1) dL_law_289 h2) (mpp 290 rfl ?_)
  obtain ⟨w4, h5⟩ := ti_ex (xs.getD z1.toNatClampNeg 0)
  refine mp_sld (v := w4) (N := xs.length) dL_law_290 rfl (t_ix (by omega) (by omega)) h5 (mpp 291 rfl ?_)
  refine mt_callv (i := 27) (q' := q_30) (As := [.int w4]) (rest := []) hT dL_law_291 rfl qm_30 (by decide) rfl rl_0 (by decide) rfl (Nat.le_of_ble_eq_true rfl) rfl ⟨rfl, rfl⟩ ⟨Nat.le_of_ble_eq_true rfl, Nat.le_of_ble_eq_true rfl⟩ (EvP.mono (by decide) (c_F_turn hT hX hJ )) (fun r7 P8 g6 => mpp 294 rfl ?_)
  obtain ⟨⟨x9, rfl, g10⟩, hT11, k12, J14, R13⟩ := g6
  have R15 : Rel P8 := Rel.kw hR k12 rfl
  have J16 : Inj P8 := J14
  have X17 : XR P8 := KW.xr k12 hX
  have Z18 : TK0 P8 := fun l hl => (congrArg Int32.toInt (KW.at k12 l rl_313 rfl)).trans (hZ l hl)
  replace g10 : KPX P P8 ∧ turnC P P8 x9.toInt w4.toInt := g10
  show MEvP _ _ lawq 294 [(3, .int i), (2, .ref 301), (1, .ref 0), (0, .long 0)] [.int x9] _ _ _ _
  refine mp_t (s_pop dL_law_294 rfl) (mpp 295 rfl ?_)
  refine mp_a (a_aload_n dL_law_295 rfl) (mpp 296 rfl ?_)
  refine mp_a (a_aload_nT dL_law_296 rfl) (mpp 297 rfl ?_)
  refine mp_a (a_iload_n dL_law_297 rfl) (mpp 298 rfl ?_)
  refine mp_a (a_iconst (v := 1) dL_law_298 rfl) (mpp 299 rfl ?_)
  refine mp_t (s_iadd (v := z1) dL_law_299 h2) (mpp 300 rfl ?_)
  refine mp_sld (v := w4) (N := xs.length) dL_law_300 rfl (t_ix (by omega) (by omega)) h5 (mpp 301 rfl ?_)
  refine mt_callv (i := 30) (q' := q_147) (As := [.int w4]) (rest := []) hT11 dL_law_301 rfl qm_147 (by decide) rfl rl_301 (by decide) rfl (Nat.le_of_ble_eq_true rfl) rfl ⟨rfl, rfl⟩ ⟨Nat.le_of_ble_eq_true rfl, Nat.le_of_ble_eq_true rfl⟩ (EvP.mono (by decide) (c_M_turn hT11 R15 )) (fun r20 P21 g19 => mpp 304 rfl ?_)
  obtain ⟨⟨x22, rfl, g23⟩, hT24, k25, R26⟩ := g19
  have R28 : Rel P21 := R26
  have J29 : Inj P21 := Inj.kw J16 k25 rfl
  have X30 : XR P21 := KW.xr k25 X17
  have Z31 : TK0 P21 := fun l hl => (congrArg Int32.toInt (KW.at k25 l rl_313 rfl)).trans (Z18 l hl)
  replace g23 : TOPM P8 P21 x22.toInt ∧ turnsM (sr P8) (sr P21) x22.toInt w4.toInt := g23
  show MEvP _ _ lawq 304 [(3, .int i), (2, .ref 301), (1, .ref 0), (0, .long 0)] [.int x22] _ _ _ _
  refine mp_t (s_pop dL_law_304 rfl) (mpp 305 rfl ?_)
  refine mp_a (a_goto (t := 992) dL_law_305 (by decide)) ?_
  have m32h : ∀ a j : Nat, 301 ≤ a → a < 315 → fv P8 a j = fv P a j := fun a j h1 h2 => KW.high k12 hT hT11 (by decide) h1 h2 j
  have m32l : ∀ a j : Nat, a < 301 → fv P21 a j = fv P8 a j := fun a j h1 => KW.low k25 hT11 hT24 (by decide) h1 j
  have m32r : ∀ k : Nat, rv P21 2 k = rv P8 2 k := fun k => k25.2.2 rfl k
  have m32e : sr P8 = sr P := funext (fun j => m32h 302 j (by omega) (by omega))
  have m32m := g23.2
  rw [m32e] at m32m
  have s1 := hS.1
  have s6 := hS.2.2.2.2.2.1
  have m32o := turn_core hT hJ s1 s6 g10.2 m32m
  exact kk _ ⟨hT24, R28, X30, J29, SIM.fin hS hT hT11 g10.1 m32h g23.1 m32l m32r m32o.1 m32o.2, Z31⟩

set_option maxHeartbeats 4000000 in
theorem law_c4 {xs : List Int32} (hn : xs.length ≤ 2048) {i : Int32} (h0 : 0 ≤ i.toInt) (h4 : i.toInt + 4 ≤ xs.length) {P : mP} (hT : Typ P) (hR : Rel P) (hX : XR P) (hJ : Inj P) (hS : SIM P) (hZ : TK0 P) (kk : ∀ P' : mP, LI P' → MEvP 15 (some xs) lawq 992 [(3, .int i), (2, .ref 301), (1, .ref 0), (0, .long 0)] [] P' 315 4038 (fun r _ => r = some (.int 1))) : MEvP 15 (some xs) lawq 308 [(3, .int i), (2, .ref 301), (1, .ref 0), (0, .long 0)] [] P 315 4038 (fun r _ => r = some (.int 1)) := by
  refine mp_a (a_aload_n dL_law_308 rfl) (mpp 309 rfl ?_)
  refine mp_a (a_aload_nT dL_law_309 rfl) (mpp 310 rfl ?_)
  refine mp_a (a_iload_n dL_law_310 rfl) (mpp 311 rfl ?_)
  refine mp_a (a_iconst (v := 1) dL_law_311 rfl) (mpp 312 rfl ?_)
  obtain ⟨z1, h2⟩ := ti_ex (i + 1 : Int32)
  have e3 : z1.toInt = i.toInt + 1 := ti_addz h2 rfl rfl (by omega) (by omega)
  refine mp_t (s_iadd (v := z1) dL_law_312 h2) (mpp 313 rfl ?_)
  obtain ⟨w4, h5⟩ := ti_ex (xs.getD z1.toNatClampNeg 0)
  refine mp_sld (v := w4) (N := xs.length) dL_law_313 rfl (t_ix (by omega) (by omega)) h5 (mpp 314 rfl ?_)
  refine mp_a (a_aload_nT dL_law_314 rfl) (mpp 315 rfl ?_)
  refine mp_a (a_iload_n dL_law_315 rfl) (mpp 316 rfl ?_)
  refine mp_a (a_iconst (v := 2) dL_law_316 rfl) (mpp 317 rfl ?_)
  obtain ⟨z6, h7⟩ := ti_ex (i + 2 : Int32)
  have e8 : z6.toInt = i.toInt + 2 := ti_addz h7 rfl rfl (by omega) (by omega)
  refine mp_t (s_iadd (v := z6) dL_law_317 h7) (mpp 318 rfl ?_)
  obtain ⟨w9, h10⟩ := ti_ex (xs.getD z6.toNatClampNeg 0)
  refine mp_sld (v := w9) (N := xs.length) dL_law_318 rfl (t_ix (by omega) (by omega)) h10 (mpp 319 rfl ?_)
  refine mt_callv (i := 31) (q' := q_33) (As := [.int w4, .int w9]) (rest := []) hT dL_law_319 rfl qm_33 (by decide) rfl rl_0 (by decide) rfl (Nat.le_of_ble_eq_true rfl) rfl ⟨rfl, rfl⟩ ⟨Nat.le_of_ble_eq_true rfl, Nat.le_of_ble_eq_true rfl⟩ (EvP.mono (by decide) (c_F_rotate hT hX hJ )) (fun r12 P13 g11 => mpp 322 rfl ?_)
  obtain ⟨⟨x14, rfl, g15⟩, hT16, k17, J19, R18⟩ := g11
  have R20 : Rel P13 := Rel.kw hR k17 rfl
  have J21 : Inj P13 := J19
  have X22 : XR P13 := KW.xr k17 hX
  have Z23 : TK0 P13 := fun l hl => (congrArg Int32.toInt (KW.at k17 l rl_313 rfl)).trans (hZ l hl)
  replace g15 : KPX P P13 ∧ rotateC P P13 x14.toInt w4.toInt w9.toInt := g15
  show MEvP _ _ lawq 322 [(3, .int i), (2, .ref 301), (1, .ref 0), (0, .long 0)] [.int x14] _ _ _ _
  refine mp_t (s_pop dL_law_322 rfl) (mpp 323 rfl ?_)
  refine mp_a (a_aload_n dL_law_323 rfl) (mpp 324 rfl ?_)
  refine mp_a (a_aload_nT dL_law_324 rfl) (mpp 325 rfl ?_)
  refine mp_a (a_iload_n dL_law_325 rfl) (mpp 326 rfl ?_)
  refine mp_a (a_iconst (v := 1) dL_law_326 rfl) (mpp 327 rfl ?_)
  refine mp_t (s_iadd (v := z1) dL_law_327 h2) (mpp 328 rfl ?_)
  refine mp_sld (v := w4) (N := xs.length) dL_law_328 rfl (t_ix (by omega) (by omega)) h5 (mpp 329 rfl ?_)
  refine mp_a (a_aload_nT dL_law_329 rfl) (mpp 330 rfl ?_)
  refine mp_a (a_iload_n dL_law_330 rfl) (mpp 331 rfl ?_)
  refine mp_a (a_iconst (v := 2) dL_law_331 rfl) (mpp 332 rfl ?_)
  refine mp_t (s_iadd (v := z6) dL_law_332 h7) (mpp 333 rfl ?_)
  refine mp_sld (v := w9) (N := xs.length) dL_law_333 rfl (t_ix (by omega) (by omega)) h10 (mpp 334 rfl ?_)
  refine mt_callv (i := 35) (q' := q_150) (As := [.int w4, .int w9]) (rest := []) hT16 dL_law_334 rfl qm_150 (by decide) rfl rl_301 (by decide) rfl (Nat.le_of_ble_eq_true rfl) rfl ⟨rfl, rfl⟩ ⟨Nat.le_of_ble_eq_true rfl, Nat.le_of_ble_eq_true rfl⟩ (EvP.mono (by decide) (c_M_rotate hT16 R20 )) (fun r25 P26 g24 => mpp 337 rfl ?_)
  obtain ⟨⟨x27, rfl, g28⟩, hT29, k30, R31⟩ := g24
  have R33 : Rel P26 := R31
  have J34 : Inj P26 := Inj.kw J21 k30 rfl
  have X35 : XR P26 := KW.xr k30 X22
  have Z36 : TK0 P26 := fun l hl => (congrArg Int32.toInt (KW.at k30 l rl_313 rfl)).trans (Z23 l hl)
  replace g28 : TOPM P13 P26 x27.toInt ∧ rotatesM (sr P13) (sr P26) x27.toInt w4.toInt w9.toInt := g28
  show MEvP _ _ lawq 337 [(3, .int i), (2, .ref 301), (1, .ref 0), (0, .long 0)] [.int x27] _ _ _ _
  refine mp_t (s_pop dL_law_337 rfl) (mpp 338 rfl ?_)
  refine mp_a (a_goto (t := 992) dL_law_338 (by decide)) ?_
  have m37h : ∀ a j : Nat, 301 ≤ a → a < 315 → fv P13 a j = fv P a j := fun a j h1 h2 => KW.high k17 hT hT16 (by decide) h1 h2 j
  have m37l : ∀ a j : Nat, a < 301 → fv P26 a j = fv P13 a j := fun a j h1 => KW.low k30 hT16 hT29 (by decide) h1 j
  have m37r : ∀ k : Nat, rv P26 2 k = rv P13 2 k := fun k => k30.2.2 rfl k
  have m37e : sr P13 = sr P := funext (fun j => m37h 302 j (by omega) (by omega))
  have m37m := g28.2
  rw [m37e] at m37m
  have s1 := hS.1
  have s6 := hS.2.2.2.2.2.1
  have m37o := rotate_core hT hJ s1 s6 g15.2 m37m
  exact kk _ ⟨hT29, R33, X35, J34, SIM.fin hS hT hT16 g15.1 m37h g28.1 m37l m37r m37o.1 m37o.2, Z36⟩

set_option maxHeartbeats 4000000 in
theorem law_c5 {xs : List Int32} (hn : xs.length ≤ 2048) {i : Int32} (h0 : 0 ≤ i.toInt) (h4 : i.toInt + 4 ≤ xs.length) {P : mP} (hT : Typ P) (hR : Rel P) (hX : XR P) (hJ : Inj P) (hS : SIM P) (hZ : TK0 P) (kk : ∀ P' : mP, LI P' → MEvP 15 (some xs) lawq 992 [(3, .int i), (2, .ref 301), (1, .ref 0), (0, .long 0)] [] P' 315 4038 (fun r _ => r = some (.int 1))) : MEvP 15 (some xs) lawq 341 [(3, .int i), (2, .ref 301), (1, .ref 0), (0, .long 0)] [] P 315 4038 (fun r _ => r = some (.int 1)) := by
  refine mp_a (a_aload_n dL_law_341 rfl) (mpp 342 rfl ?_)
  refine mp_a (a_aload_nT dL_law_342 rfl) (mpp 343 rfl ?_)
  refine mp_a (a_iload_n dL_law_343 rfl) (mpp 344 rfl ?_)
  refine mp_a (a_iconst (v := 1) dL_law_344 rfl) (mpp 345 rfl ?_)
  obtain ⟨z1, h2⟩ := ti_ex (i + 1 : Int32)
  have e3 : z1.toInt = i.toInt + 1 := ti_addz h2 rfl rfl (by omega) (by omega)
  refine mp_t (s_iadd (v := z1) dL_law_345 h2) (mpp 346 rfl ?_)
  obtain ⟨w4, h5⟩ := ti_ex (xs.getD z1.toNatClampNeg 0)
  refine mp_sld (v := w4) (N := xs.length) dL_law_346 rfl (t_ix (by omega) (by omega)) h5 (mpp 347 rfl ?_)
  refine mp_a (a_aload_nT dL_law_347 rfl) (mpp 348 rfl ?_)
  refine mp_a (a_iload_n dL_law_348 rfl) (mpp 349 rfl ?_)
  refine mp_a (a_iconst (v := 2) dL_law_349 rfl) (mpp 350 rfl ?_)
  obtain ⟨z6, h7⟩ := ti_ex (i + 2 : Int32)
  have e8 : z6.toInt = i.toInt + 2 := ti_addz h7 rfl rfl (by omega) (by omega)
  refine mp_t (s_iadd (v := z6) dL_law_350 h7) (mpp 351 rfl ?_)
  obtain ⟨w9, h10⟩ := ti_ex (xs.getD z6.toNatClampNeg 0)
  refine mp_sld (v := w9) (N := xs.length) dL_law_351 rfl (t_ix (by omega) (by omega)) h10 (mpp 352 rfl ?_)
  refine mp_a (a_aload_nT dL_law_352 rfl) (mpp 353 rfl ?_)
  refine mp_a (a_iload_n dL_law_353 rfl) (mpp 354 rfl ?_)
  refine mp_a (a_iconst (v := 3) dL_law_354 rfl) (mpp 355 rfl ?_)
  obtain ⟨z11, h12⟩ := ti_ex (i + 3 : Int32)
  have e13 : z11.toInt = i.toInt + 3 := ti_addz h12 rfl rfl (by omega) (by omega)
  refine mp_t (s_iadd (v := z11) dL_law_355 h12) (mpp 356 rfl ?_)
  obtain ⟨w14, h15⟩ := ti_ex (xs.getD z11.toNatClampNeg 0)
  refine mp_sld (v := w14) (N := xs.length) dL_law_356 rfl (t_ix (by omega) (by omega)) h15 (mpp 357 rfl ?_)
  refine mt_callv (i := 36) (q' := q_36) (As := [.int w4, .int w9, .int w14]) (rest := []) hT dL_law_357 rfl qm_36 (by decide) rfl rl_0 (by decide) rfl (Nat.le_of_ble_eq_true rfl) rfl ⟨rfl, rfl⟩ ⟨Nat.le_of_ble_eq_true rfl, Nat.le_of_ble_eq_true rfl⟩ (EvP.mono (by decide) (c_F_join hT hX hJ )) (fun r17 P18 g16 => mpp 360 rfl ?_)
  obtain ⟨⟨x19, rfl, g20⟩, hT21, k22, J24, R23⟩ := g16
  have R25 : Rel P18 := Rel.kw hR k22 rfl
  have J26 : Inj P18 := J24
  have X27 : XR P18 := KW.xr k22 hX
  have Z28 : TK0 P18 := fun l hl => (congrArg Int32.toInt (KW.at k22 l rl_313 rfl)).trans (hZ l hl)
  replace g20 : KPX P P18 ∧ joinC P P18 x19.toInt w4.toInt w9.toInt w14.toInt := g20
  show MEvP _ _ lawq 360 [(3, .int i), (2, .ref 301), (1, .ref 0), (0, .long 0)] [.int x19] _ _ _ _
  refine mp_t (s_pop dL_law_360 rfl) (mpp 361 rfl ?_)
  refine mp_a (a_aload_n dL_law_361 rfl) (mpp 362 rfl ?_)
  refine mp_a (a_aload_nT dL_law_362 rfl) (mpp 363 rfl ?_)
  refine mp_a (a_iload_n dL_law_363 rfl) (mpp 364 rfl ?_)
  refine mp_a (a_iconst (v := 1) dL_law_364 rfl) (mpp 365 rfl ?_)
  refine mp_t (s_iadd (v := z1) dL_law_365 h2) (mpp 366 rfl ?_)
  refine mp_sld (v := w4) (N := xs.length) dL_law_366 rfl (t_ix (by omega) (by omega)) h5 (mpp 367 rfl ?_)
  refine mp_a (a_aload_nT dL_law_367 rfl) (mpp 368 rfl ?_)
  refine mp_a (a_iload_n dL_law_368 rfl) (mpp 369 rfl ?_)
  refine mp_a (a_iconst (v := 2) dL_law_369 rfl) (mpp 370 rfl ?_)
  refine mp_t (s_iadd (v := z6) dL_law_370 h7) (mpp 371 rfl ?_)
  refine mp_sld (v := w9) (N := xs.length) dL_law_371 rfl (t_ix (by omega) (by omega)) h10 (mpp 372 rfl ?_)
  refine mp_a (a_aload_nT dL_law_372 rfl) (mpp 373 rfl ?_)
  refine mp_a (a_iload_n dL_law_373 rfl) (mpp 374 rfl ?_)
  refine mp_a (a_iconst (v := 3) dL_law_374 rfl) (mpp 375 rfl ?_)
  refine mp_t (s_iadd (v := z11) dL_law_375 h12) (mpp 376 rfl ?_)
  refine mp_sld (v := w14) (N := xs.length) dL_law_376 rfl (t_ix (by omega) (by omega)) h15 (mpp 377 rfl ?_)
  refine mt_callv (i := 39) (q' := q_153) (As := [.int w4, .int w9, .int w14]) (rest := []) hT21 dL_law_377 rfl qm_153 (by decide) rfl rl_301 (by decide) rfl (Nat.le_of_ble_eq_true rfl) rfl ⟨rfl, rfl⟩ ⟨Nat.le_of_ble_eq_true rfl, Nat.le_of_ble_eq_true rfl⟩ (EvP.mono (by decide) (c_M_join hT21 R25 )) (fun r30 P31 g29 => mpp 380 rfl ?_)
  obtain ⟨⟨x32, rfl, g33⟩, hT34, k35, R36⟩ := g29
  have R38 : Rel P31 := R36
  have J39 : Inj P31 := Inj.kw J26 k35 rfl
  have X40 : XR P31 := KW.xr k35 X27
  have Z41 : TK0 P31 := fun l hl => (congrArg Int32.toInt (KW.at k35 l rl_313 rfl)).trans (Z28 l hl)
  replace g33 : TOPM P18 P31 x32.toInt ∧ joinsM (sr P18) (sr P31) x32.toInt w4.toInt w9.toInt w14.toInt := g33
  show MEvP _ _ lawq 380 [(3, .int i), (2, .ref 301), (1, .ref 0), (0, .long 0)] [.int x32] _ _ _ _
  refine mp_t (s_pop dL_law_380 rfl) (mpp 381 rfl ?_)
  refine mp_a (a_goto (t := 992) dL_law_381 (by decide)) ?_
  have m42h : ∀ a j : Nat, 301 ≤ a → a < 315 → fv P18 a j = fv P a j := fun a j h1 h2 => KW.high k22 hT hT21 (by decide) h1 h2 j
  have m42l : ∀ a j : Nat, a < 301 → fv P31 a j = fv P18 a j := fun a j h1 => KW.low k35 hT21 hT34 (by decide) h1 j
  have m42r : ∀ k : Nat, rv P31 2 k = rv P18 2 k := fun k => k35.2.2 rfl k
  have m42e : sr P18 = sr P := funext (fun j => m42h 302 j (by omega) (by omega))
  have m42m := g33.2
  rw [m42e] at m42m
  have s1 := hS.1
  have s6 := hS.2.2.2.2.2.1
  have m42o := join_core hT hJ s1 s6 g20.2 m42m
  exact kk _ ⟨hT34, R38, X40, J39, SIM.fin hS hT hT21 g20.1 m42h g33.1 m42l m42r m42o.1 m42o.2, Z41⟩

set_option maxHeartbeats 4000000 in
theorem law_c6 {xs : List Int32} (hn : xs.length ≤ 2048) {i : Int32} (h0 : 0 ≤ i.toInt) (h4 : i.toInt + 4 ≤ xs.length) {P : mP} (hT : Typ P) (hR : Rel P) (hX : XR P) (hJ : Inj P) (hS : SIM P) (hZ : TK0 P) (kk : ∀ P' : mP, LI P' → MEvP 15 (some xs) lawq 992 [(3, .int i), (2, .ref 301), (1, .ref 0), (0, .long 0)] [] P' 315 4038 (fun r _ => r = some (.int 1))) : MEvP 15 (some xs) lawq 384 [(3, .int i), (2, .ref 301), (1, .ref 0), (0, .long 0)] [] P 315 4038 (fun r _ => r = some (.int 1)) := by
  refine mp_a (a_aload_n dL_law_384 rfl) (mpp 385 rfl ?_)
  refine mp_a (a_aload_nT dL_law_385 rfl) (mpp 386 rfl ?_)
  refine mp_a (a_iload_n dL_law_386 rfl) (mpp 387 rfl ?_)
  refine mp_a (a_iconst (v := 1) dL_law_387 rfl) (mpp 388 rfl ?_)
  obtain ⟨z1, h2⟩ := ti_ex (i + 1 : Int32)
  have e3 : z1.toInt = i.toInt + 1 := ti_addz h2 rfl rfl (by omega) (by omega)
  refine mp_t (s_iadd (v := z1) dL_law_388 h2) (mpp 389 rfl ?_)
  obtain ⟨w4, h5⟩ := ti_ex (xs.getD z1.toNatClampNeg 0)
  refine mp_sld (v := w4) (N := xs.length) dL_law_389 rfl (t_ix (by omega) (by omega)) h5 (mpp 390 rfl ?_)
  refine mp_a (a_aload_nT dL_law_390 rfl) (mpp 391 rfl ?_)
  refine mp_a (a_iload_n dL_law_391 rfl) (mpp 392 rfl ?_)
  refine mp_a (a_iconst (v := 2) dL_law_392 rfl) (mpp 393 rfl ?_)
  obtain ⟨z6, h7⟩ := ti_ex (i + 2 : Int32)
  have e8 : z6.toInt = i.toInt + 2 := ti_addz h7 rfl rfl (by omega) (by omega)
  refine mp_t (s_iadd (v := z6) dL_law_393 h7) (mpp 394 rfl ?_)
  obtain ⟨w9, h10⟩ := ti_ex (xs.getD z6.toNatClampNeg 0)
  refine mp_sld (v := w9) (N := xs.length) dL_law_394 rfl (t_ix (by omega) (by omega)) h10 (mpp 395 rfl ?_)
  refine mt_callv (i := 40) (q' := q_39) (As := [.int w4, .int w9]) (rest := []) hT dL_law_395 rfl qm_39 (by decide) rfl rl_0 (by decide) rfl (Nat.le_of_ble_eq_true rfl) rfl ⟨rfl, rfl⟩ ⟨Nat.le_of_ble_eq_true rfl, Nat.le_of_ble_eq_true rfl⟩ (EvP.mono (by decide) (c_F_cut hT hX hJ )) (fun r12 P13 g11 => mpp 398 rfl ?_)
  obtain ⟨⟨x14, rfl, g15⟩, hT16, k17, J19, R18⟩ := g11
  have R20 : Rel P13 := Rel.kw hR k17 rfl
  have J21 : Inj P13 := J19
  have X22 : XR P13 := KW.xr k17 hX
  have Z23 : TK0 P13 := fun l hl => (congrArg Int32.toInt (KW.at k17 l rl_313 rfl)).trans (hZ l hl)
  replace g15 : KPX P P13 ∧ cutC P P13 x14.toInt w4.toInt w9.toInt := g15
  show MEvP _ _ lawq 398 [(3, .int i), (2, .ref 301), (1, .ref 0), (0, .long 0)] [.int x14] _ _ _ _
  refine mp_t (s_pop dL_law_398 rfl) (mpp 399 rfl ?_)
  refine mp_a (a_aload_n dL_law_399 rfl) (mpp 400 rfl ?_)
  refine mp_a (a_aload_nT dL_law_400 rfl) (mpp 401 rfl ?_)
  refine mp_a (a_iload_n dL_law_401 rfl) (mpp 402 rfl ?_)
  refine mp_a (a_iconst (v := 1) dL_law_402 rfl) (mpp 403 rfl ?_)
  refine mp_t (s_iadd (v := z1) dL_law_403 h2) (mpp 404 rfl ?_)
  refine mp_sld (v := w4) (N := xs.length) dL_law_404 rfl (t_ix (by omega) (by omega)) h5 (mpp 405 rfl ?_)
  refine mp_a (a_aload_nT dL_law_405 rfl) (mpp 406 rfl ?_)
  refine mp_a (a_iload_n dL_law_406 rfl) (mpp 407 rfl ?_)
  refine mp_a (a_iconst (v := 2) dL_law_407 rfl) (mpp 408 rfl ?_)
  refine mp_t (s_iadd (v := z6) dL_law_408 h7) (mpp 409 rfl ?_)
  refine mp_sld (v := w9) (N := xs.length) dL_law_409 rfl (t_ix (by omega) (by omega)) h10 (mpp 410 rfl ?_)
  refine mt_callv (i := 43) (q' := q_156) (As := [.int w4, .int w9]) (rest := []) hT16 dL_law_410 rfl qm_156 (by decide) rfl rl_301 (by decide) rfl (Nat.le_of_ble_eq_true rfl) rfl ⟨rfl, rfl⟩ ⟨Nat.le_of_ble_eq_true rfl, Nat.le_of_ble_eq_true rfl⟩ (EvP.mono (by decide) (c_M_cut hT16 R20 )) (fun r25 P26 g24 => mpp 413 rfl ?_)
  obtain ⟨⟨x27, rfl, g28⟩, hT29, k30, R31⟩ := g24
  have R33 : Rel P26 := R31
  have J34 : Inj P26 := Inj.kw J21 k30 rfl
  have X35 : XR P26 := KW.xr k30 X22
  have Z36 : TK0 P26 := fun l hl => (congrArg Int32.toInt (KW.at k30 l rl_313 rfl)).trans (Z23 l hl)
  replace g28 : TOPM P13 P26 x27.toInt ∧ cutsM (sr P13) (sr P26) x27.toInt w4.toInt w9.toInt := g28
  show MEvP _ _ lawq 413 [(3, .int i), (2, .ref 301), (1, .ref 0), (0, .long 0)] [.int x27] _ _ _ _
  refine mp_t (s_pop dL_law_413 rfl) (mpp 414 rfl ?_)
  refine mp_a (a_goto (t := 992) dL_law_414 (by decide)) ?_
  have m37h : ∀ a j : Nat, 301 ≤ a → a < 315 → fv P13 a j = fv P a j := fun a j h1 h2 => KW.high k17 hT hT16 (by decide) h1 h2 j
  have m37l : ∀ a j : Nat, a < 301 → fv P26 a j = fv P13 a j := fun a j h1 => KW.low k30 hT16 hT29 (by decide) h1 j
  have m37r : ∀ k : Nat, rv P26 2 k = rv P13 2 k := fun k => k30.2.2 rfl k
  have m37e : sr P13 = sr P := funext (fun j => m37h 302 j (by omega) (by omega))
  have m37m := g28.2
  rw [m37e] at m37m
  have s1 := hS.1
  have s6 := hS.2.2.2.2.2.1
  have m37o := cut_core hT hJ s1 s6 g15.2 m37m
  exact kk _ ⟨hT29, R33, X35, J34, SIM.fin hS hT hT16 g15.1 m37h g28.1 m37l m37r m37o.1 m37o.2, Z36⟩

set_option maxHeartbeats 4000000 in
theorem law_c7 {xs : List Int32} (hn : xs.length ≤ 2048) {i : Int32} (h0 : 0 ≤ i.toInt) (h4 : i.toInt + 4 ≤ xs.length) {P : mP} (hT : Typ P) (hR : Rel P) (hX : XR P) (hJ : Inj P) (hS : SIM P) (hZ : TK0 P) (kk : ∀ P' : mP, LI P' → MEvP 15 (some xs) lawq 992 [(3, .int i), (2, .ref 301), (1, .ref 0), (0, .long 0)] [] P' 315 4038 (fun r _ => r = some (.int 1))) : MEvP 15 (some xs) lawq 417 [(3, .int i), (2, .ref 301), (1, .ref 0), (0, .long 0)] [] P 315 4038 (fun r _ => r = some (.int 1)) := by
  refine mp_a (a_aload_n dL_law_417 rfl) (mpp 418 rfl ?_)
  refine mp_a (a_aload_nT dL_law_418 rfl) (mpp 419 rfl ?_)
  refine mp_a (a_iload_n dL_law_419 rfl) (mpp 420 rfl ?_)
  refine mp_a (a_iconst (v := 1) dL_law_420 rfl) (mpp 421 rfl ?_)
  obtain ⟨z1, h2⟩ := ti_ex (i + 1 : Int32)
  have e3 : z1.toInt = i.toInt + 1 := ti_addz h2 rfl rfl (by omega) (by omega)
  refine mp_t (s_iadd (v := z1) dL_law_421 h2) (mpp 422 rfl ?_)
  obtain ⟨w4, h5⟩ := ti_ex (xs.getD z1.toNatClampNeg 0)
  refine mp_sld (v := w4) (N := xs.length) dL_law_422 rfl (t_ix (by omega) (by omega)) h5 (mpp 423 rfl ?_)
  refine mt_callv (i := 44) (q' := q_41) (As := [.int w4]) (rest := []) hT dL_law_423 rfl qm_41 (by decide) rfl rl_0 (by decide) rfl (Nat.le_of_ble_eq_true rfl) rfl ⟨rfl, rfl⟩ ⟨Nat.le_of_ble_eq_true rfl, Nat.le_of_ble_eq_true rfl⟩ (EvP.mono (by decide) (c_F_fold hT hX hJ )) (fun r7 P8 g6 => mpp 426 rfl ?_)
  obtain ⟨⟨x9, rfl, g10⟩, hT11, k12, J14, R13⟩ := g6
  have R15 : Rel P8 := Rel.kw hR k12 rfl
  have J16 : Inj P8 := J14
  have X17 : XR P8 := KW.xr k12 hX
  have Z18 : TK0 P8 := fun l hl => (congrArg Int32.toInt (KW.at k12 l rl_313 rfl)).trans (hZ l hl)
  replace g10 : KPX P P8 ∧ foldC P P8 x9.toInt w4.toInt := g10
  show MEvP _ _ lawq 426 [(3, .int i), (2, .ref 301), (1, .ref 0), (0, .long 0)] [.int x9] _ _ _ _
  refine mp_t (s_pop dL_law_426 rfl) (mpp 427 rfl ?_)
  refine mp_a (a_aload_n dL_law_427 rfl) (mpp 428 rfl ?_)
  refine mp_a (a_aload_nT dL_law_428 rfl) (mpp 429 rfl ?_)
  refine mp_a (a_iload_n dL_law_429 rfl) (mpp 430 rfl ?_)
  refine mp_a (a_iconst (v := 1) dL_law_430 rfl) (mpp 431 rfl ?_)
  refine mp_t (s_iadd (v := z1) dL_law_431 h2) (mpp 432 rfl ?_)
  refine mp_sld (v := w4) (N := xs.length) dL_law_432 rfl (t_ix (by omega) (by omega)) h5 (mpp 433 rfl ?_)
  refine mt_callv (i := 47) (q' := q_187) (As := [.int w4]) (rest := []) hT11 dL_law_433 rfl qm_187 (by decide) rfl rl_301 (by decide) rfl (Nat.le_of_ble_eq_true rfl) rfl ⟨rfl, rfl⟩ ⟨Nat.le_of_ble_eq_true rfl, Nat.le_of_ble_eq_true rfl⟩ (EvP.mono (by decide) (c_M_fold hT11 R15 )) (fun r20 P21 g19 => mpp 436 rfl ?_)
  obtain ⟨⟨x22, rfl, g23⟩, hT24, k25, R26⟩ := g19
  have R28 : Rel P21 := R26
  have J29 : Inj P21 := Inj.kw J16 k25 rfl
  have X30 : XR P21 := KW.xr k25 X17
  have Z31 : TK0 P21 := fun l hl => (congrArg Int32.toInt (KW.at k25 l rl_313 rfl)).trans (Z18 l hl)
  replace g23 : TOPM P8 P21 x22.toInt ∧ foldsM (sr P8) (sr P21) x22.toInt w4.toInt := g23
  show MEvP _ _ lawq 436 [(3, .int i), (2, .ref 301), (1, .ref 0), (0, .long 0)] [.int x22] _ _ _ _
  refine mp_t (s_pop dL_law_436 rfl) (mpp 437 rfl ?_)
  refine mp_a (a_goto (t := 992) dL_law_437 (by decide)) ?_
  have m32h : ∀ a j : Nat, 301 ≤ a → a < 315 → fv P8 a j = fv P a j := fun a j h1 h2 => KW.high k12 hT hT11 (by decide) h1 h2 j
  have m32l : ∀ a j : Nat, a < 301 → fv P21 a j = fv P8 a j := fun a j h1 => KW.low k25 hT11 hT24 (by decide) h1 j
  have m32r : ∀ k : Nat, rv P21 2 k = rv P8 2 k := fun k => k25.2.2 rfl k
  have m32e : sr P8 = sr P := funext (fun j => m32h 302 j (by omega) (by omega))
  have m32m := g23.2
  rw [m32e] at m32m
  have s1 := hS.1
  have s6 := hS.2.2.2.2.2.1
  have m32o := fold_core hT hJ s1 s6 g10.2 m32m
  exact kk _ ⟨hT24, R28, X30, J29, SIM.fin hS hT hT11 g10.1 m32h g23.1 m32l m32r m32o.1 m32o.2, Z31⟩
