/-! the law, a call each (written by a program) -/
set_option maxHeartbeats 4000000 in
theorem law_c0 {xs : List Int32} (hn : xs.length ≤ 2048) {i : Int32} (h0 : 0 ≤ i.toInt) (h4 : i.toInt + 4 ≤ xs.length) {P : mP} (hT : Typ P) (hR : Rel P) (hL : (fv P 289 1).toInt = (fv P 301 23).toInt) (kk : ∀ P' : mP, LI P' → MEvP 15 (some xs) lawq 992 [(3, .int i), (2, .ref 301), (1, .ref 0), (0, .long 0)] [] P' 315 4038 (fun r _ => r = some (.int 1))) : MEvP 15 (some xs) lawq 176 [(3, .int i), (2, .ref 301), (1, .ref 0), (0, .long 0)] [] P 315 4038 (fun r _ => r = some (.int 1)) := by
  refine mp_a (a_aload_n dL_law_176 rfl) (mpp 177 rfl ?_)
  refine mp_a (a_aload_nT dL_law_177 rfl) (mpp 178 rfl ?_)
  refine mp_a (a_iload_n dL_law_178 rfl) (mpp 179 rfl ?_)
  refine mp_a (a_iconst (v := 1) dL_law_179 rfl) (mpp 180 rfl ?_)
  obtain ⟨z1, h2⟩ := ti_ex (i + 1 : Int32)
  have e3 : z1.toInt = i.toInt + 1 := ti_addz h2 rfl rfl (by omega) (by omega)
  refine mp_t (s_iadd (v := z1) dL_law_180 h2) (mpp 181 rfl ?_)
  obtain ⟨w4, h5⟩ := ti_ex (xs.getD z1.toNatClampNeg 0)
  refine mp_sld (v := w4) (N := xs.length) dL_law_181 rfl (t_ix (by omega) (by omega)) h5 (mpp 182 rfl ?_)
  refine mt_callv (i := 13) (q' := q_7) (As := [.int w4]) (rest := []) hT dL_law_182 rfl qm_7 (by decide) rfl rl_0 (by decide) rfl (Nat.le_of_ble_eq_true rfl) rfl ⟨rfl, rfl⟩ ⟨Nat.le_of_ble_eq_true rfl, Nat.le_of_ble_eq_true rfl⟩ (EvP.mono (by decide) (c_F_stage hT )) (fun r7 P8 g6 => mpp 185 rfl ?_)
  obtain ⟨⟨x9, rfl, g10⟩, hT11, k12, R13⟩ := g6
  have R14 := Rel.kw hR k12 rfl
  have t15 := kw_tie k12 1 rl_289 rfl
  have t16 := kw_tie k12 23 rl_301 rfl
  show MEvP _ _ lawq 185 [(3, .int i), (2, .ref 301), (1, .ref 0), (0, .long 0)] [.int x9] _ _ _ _
  refine mp_t (s_pop dL_law_185 rfl) (mpp 186 rfl ?_)
  refine mp_a (a_aload_n dL_law_186 rfl) (mpp 187 rfl ?_)
  refine mp_a (a_aload_nT dL_law_187 rfl) (mpp 188 rfl ?_)
  refine mp_a (a_iload_n dL_law_188 rfl) (mpp 189 rfl ?_)
  refine mp_a (a_iconst (v := 1) dL_law_189 rfl) (mpp 190 rfl ?_)
  refine mp_t (s_iadd (v := z1) dL_law_190 h2) (mpp 191 rfl ?_)
  refine mp_sld (v := w4) (N := xs.length) dL_law_191 rfl (t_ix (by omega) (by omega)) h5 (mpp 192 rfl ?_)
  refine mt_callv (i := 17) (q' := q_182) (As := [.int w4]) (rest := []) hT11 dL_law_192 rfl qm_182 (by decide) rfl rl_301 (by decide) rfl (Nat.le_of_ble_eq_true rfl) rfl ⟨rfl, rfl⟩ ⟨Nat.le_of_ble_eq_true rfl, Nat.le_of_ble_eq_true rfl⟩ (EvP.mono (by decide) (c_M_stage hT11 R14 )) (fun r18 P19 g17 => mpp 195 rfl ?_)
  obtain ⟨⟨x20, rfl, g21⟩, hT22, k23, R24⟩ := g17
  have t25 := kw_tie k23 1 rl_289 rfl
  have t26 := kw_tie k23 23 rl_301 rfl
  show MEvP _ _ lawq 195 [(3, .int i), (2, .ref 301), (1, .ref 0), (0, .long 0)] [.int x20] _ _ _ _
  refine mp_t (s_pop dL_law_195 rfl) (mpp 196 rfl ?_)
  refine mp_a (a_goto (t := 992) dL_law_196 (by decide)) ?_
  exact kk _ ⟨hT22, R24, by omega⟩

set_option maxHeartbeats 4000000 in
theorem law_c1 {xs : List Int32} (hn : xs.length ≤ 2048) {i : Int32} (h0 : 0 ≤ i.toInt) (h4 : i.toInt + 4 ≤ xs.length) {P : mP} (hT : Typ P) (hR : Rel P) (hL : (fv P 289 1).toInt = (fv P 301 23).toInt) (kk : ∀ P' : mP, LI P' → MEvP 15 (some xs) lawq 992 [(3, .int i), (2, .ref 301), (1, .ref 0), (0, .long 0)] [] P' 315 4038 (fun r _ => r = some (.int 1))) : MEvP 15 (some xs) lawq 199 [(3, .int i), (2, .ref 301), (1, .ref 0), (0, .long 0)] [] P 315 4038 (fun r _ => r = some (.int 1)) := by
  refine mp_a (a_aload_n dL_law_199 rfl) (mpp 200 rfl ?_)
  refine mp_a (a_aload_nT dL_law_200 rfl) (mpp 201 rfl ?_)
  refine mp_a (a_iload_n dL_law_201 rfl) (mpp 202 rfl ?_)
  refine mp_a (a_iconst (v := 1) dL_law_202 rfl) (mpp 203 rfl ?_)
  obtain ⟨z1, h2⟩ := ti_ex (i + 1 : Int32)
  have e3 : z1.toInt = i.toInt + 1 := ti_addz h2 rfl rfl (by omega) (by omega)
  refine mp_t (s_iadd (v := z1) dL_law_203 h2) (mpp 204 rfl ?_)
  obtain ⟨w4, h5⟩ := ti_ex (xs.getD z1.toNatClampNeg 0)
  refine mp_sld (v := w4) (N := xs.length) dL_law_204 rfl (t_ix (by omega) (by omega)) h5 (mpp 205 rfl ?_)
  refine mp_a (a_aload_nT dL_law_205 rfl) (mpp 206 rfl ?_)
  refine mp_a (a_iload_n dL_law_206 rfl) (mpp 207 rfl ?_)
  refine mp_a (a_iconst (v := 2) dL_law_207 rfl) (mpp 208 rfl ?_)
  obtain ⟨z6, h7⟩ := ti_ex (i + 2 : Int32)
  have e8 : z6.toInt = i.toInt + 2 := ti_addz h7 rfl rfl (by omega) (by omega)
  refine mp_t (s_iadd (v := z6) dL_law_208 h7) (mpp 209 rfl ?_)
  obtain ⟨w9, h10⟩ := ti_ex (xs.getD z6.toNatClampNeg 0)
  refine mp_sld (v := w9) (N := xs.length) dL_law_209 rfl (t_ix (by omega) (by omega)) h10 (mpp 210 rfl ?_)
  refine mp_a (a_aload_nT dL_law_210 rfl) (mpp 211 rfl ?_)
  refine mp_a (a_iload_n dL_law_211 rfl) (mpp 212 rfl ?_)
  refine mp_a (a_iconst (v := 3) dL_law_212 rfl) (mpp 213 rfl ?_)
  obtain ⟨z11, h12⟩ := ti_ex (i + 3 : Int32)
  have e13 : z11.toInt = i.toInt + 3 := ti_addz h12 rfl rfl (by omega) (by omega)
  refine mp_t (s_iadd (v := z11) dL_law_213 h12) (mpp 214 rfl ?_)
  obtain ⟨w14, h15⟩ := ti_ex (xs.getD z11.toNatClampNeg 0)
  refine mp_sld (v := w14) (N := xs.length) dL_law_214 rfl (t_ix (by omega) (by omega)) h15 (mpp 215 rfl ?_)
  refine mt_callv (i := 18) (q' := q_20) (As := [.int w4, .int w9, .int w14]) (rest := []) hT dL_law_215 rfl qm_20 (by decide) rfl rl_0 (by decide) rfl (Nat.le_of_ble_eq_true rfl) rfl ⟨rfl, rfl⟩ ⟨Nat.le_of_ble_eq_true rfl, Nat.le_of_ble_eq_true rfl⟩ (EvP.mono (by decide) (c_F_add hT )) (fun r17 P18 g16 => mpp 218 rfl ?_)
  obtain ⟨⟨x19, rfl, g20⟩, hT21, k22, R23⟩ := g16
  have R24 := Rel.kw hR k22 rfl
  have t25 := kw_tie k22 1 rl_289 rfl
  have t26 := kw_tie k22 23 rl_301 rfl
  show MEvP _ _ lawq 218 [(3, .int i), (2, .ref 301), (1, .ref 0), (0, .long 0)] [.int x19] _ _ _ _
  refine mp_t (s_pop dL_law_218 rfl) (mpp 219 rfl ?_)
  refine mp_a (a_aload_n dL_law_219 rfl) (mpp 220 rfl ?_)
  refine mp_a (a_aload_nT dL_law_220 rfl) (mpp 221 rfl ?_)
  refine mp_a (a_iload_n dL_law_221 rfl) (mpp 222 rfl ?_)
  refine mp_a (a_iconst (v := 1) dL_law_222 rfl) (mpp 223 rfl ?_)
  refine mp_t (s_iadd (v := z1) dL_law_223 h2) (mpp 224 rfl ?_)
  refine mp_sld (v := w4) (N := xs.length) dL_law_224 rfl (t_ix (by omega) (by omega)) h5 (mpp 225 rfl ?_)
  refine mp_a (a_aload_nT dL_law_225 rfl) (mpp 226 rfl ?_)
  refine mp_a (a_iload_n dL_law_226 rfl) (mpp 227 rfl ?_)
  refine mp_a (a_iconst (v := 2) dL_law_227 rfl) (mpp 228 rfl ?_)
  refine mp_t (s_iadd (v := z6) dL_law_228 h7) (mpp 229 rfl ?_)
  refine mp_sld (v := w9) (N := xs.length) dL_law_229 rfl (t_ix (by omega) (by omega)) h10 (mpp 230 rfl ?_)
  refine mp_a (a_aload_nT dL_law_230 rfl) (mpp 231 rfl ?_)
  refine mp_a (a_iload_n dL_law_231 rfl) (mpp 232 rfl ?_)
  refine mp_a (a_iconst (v := 3) dL_law_232 rfl) (mpp 233 rfl ?_)
  refine mp_t (s_iadd (v := z11) dL_law_233 h12) (mpp 234 rfl ?_)
  refine mp_sld (v := w14) (N := xs.length) dL_law_234 rfl (t_ix (by omega) (by omega)) h15 (mpp 235 rfl ?_)
  refine mt_callv (i := 22) (q' := q_123) (As := [.int w4, .int w9, .int w14]) (rest := []) hT21 dL_law_235 rfl qm_123 (by decide) rfl rl_301 (by decide) rfl (Nat.le_of_ble_eq_true rfl) rfl ⟨rfl, rfl⟩ ⟨Nat.le_of_ble_eq_true rfl, Nat.le_of_ble_eq_true rfl⟩ (EvP.mono (by decide) (c_M_add hT21 R24 )) (fun r28 P29 g27 => mpp 238 rfl ?_)
  obtain ⟨⟨x30, rfl, g31⟩, hT32, k33, R34⟩ := g27
  have t35 := kw_tie k33 1 rl_289 rfl
  have t36 := kw_tie k33 23 rl_301 rfl
  show MEvP _ _ lawq 238 [(3, .int i), (2, .ref 301), (1, .ref 0), (0, .long 0)] [.int x30] _ _ _ _
  refine mp_t (s_pop dL_law_238 rfl) (mpp 239 rfl ?_)
  refine mp_a (a_goto (t := 992) dL_law_239 (by decide)) ?_
  exact kk _ ⟨hT32, R34, by omega⟩

set_option maxHeartbeats 4000000 in
theorem law_c2 {xs : List Int32} (hn : xs.length ≤ 2048) {i : Int32} (h0 : 0 ≤ i.toInt) (h4 : i.toInt + 4 ≤ xs.length) {P : mP} (hT : Typ P) (hR : Rel P) (hL : (fv P 289 1).toInt = (fv P 301 23).toInt) (kk : ∀ P' : mP, LI P' → MEvP 15 (some xs) lawq 992 [(3, .int i), (2, .ref 301), (1, .ref 0), (0, .long 0)] [] P' 315 4038 (fun r _ => r = some (.int 1))) : MEvP 15 (some xs) lawq 242 [(3, .int i), (2, .ref 301), (1, .ref 0), (0, .long 0)] [] P 315 4038 (fun r _ => r = some (.int 1)) := by
  refine mp_a (a_aload_n dL_law_242 rfl) (mpp 243 rfl ?_)
  refine mp_a (a_aload_nT dL_law_243 rfl) (mpp 244 rfl ?_)
  refine mp_a (a_iload_n dL_law_244 rfl) (mpp 245 rfl ?_)
  refine mp_a (a_iconst (v := 1) dL_law_245 rfl) (mpp 246 rfl ?_)
  obtain ⟨z1, h2⟩ := ti_ex (i + 1 : Int32)
  have e3 : z1.toInt = i.toInt + 1 := ti_addz h2 rfl rfl (by omega) (by omega)
  refine mp_t (s_iadd (v := z1) dL_law_246 h2) (mpp 247 rfl ?_)
  obtain ⟨w4, h5⟩ := ti_ex (xs.getD z1.toNatClampNeg 0)
  refine mp_sld (v := w4) (N := xs.length) dL_law_247 rfl (t_ix (by omega) (by omega)) h5 (mpp 248 rfl ?_)
  refine mp_a (a_aload_nT dL_law_248 rfl) (mpp 249 rfl ?_)
  refine mp_a (a_iload_n dL_law_249 rfl) (mpp 250 rfl ?_)
  refine mp_a (a_iconst (v := 2) dL_law_250 rfl) (mpp 251 rfl ?_)
  obtain ⟨z6, h7⟩ := ti_ex (i + 2 : Int32)
  have e8 : z6.toInt = i.toInt + 2 := ti_addz h7 rfl rfl (by omega) (by omega)
  refine mp_t (s_iadd (v := z6) dL_law_251 h7) (mpp 252 rfl ?_)
  obtain ⟨w9, h10⟩ := ti_ex (xs.getD z6.toNatClampNeg 0)
  refine mp_sld (v := w9) (N := xs.length) dL_law_252 rfl (t_ix (by omega) (by omega)) h10 (mpp 253 rfl ?_)
  refine mp_a (a_aload_nT dL_law_253 rfl) (mpp 254 rfl ?_)
  refine mp_a (a_iload_n dL_law_254 rfl) (mpp 255 rfl ?_)
  refine mp_a (a_iconst (v := 3) dL_law_255 rfl) (mpp 256 rfl ?_)
  obtain ⟨z11, h12⟩ := ti_ex (i + 3 : Int32)
  have e13 : z11.toInt = i.toInt + 3 := ti_addz h12 rfl rfl (by omega) (by omega)
  refine mp_t (s_iadd (v := z11) dL_law_256 h12) (mpp 257 rfl ?_)
  obtain ⟨w14, h15⟩ := ti_ex (xs.getD z11.toNatClampNeg 0)
  refine mp_sld (v := w14) (N := xs.length) dL_law_257 rfl (t_ix (by omega) (by omega)) h15 (mpp 258 rfl ?_)
  refine mt_callv (i := 23) (q' := q_28) (As := [.int w4, .int w9, .int w14]) (rest := []) hT dL_law_258 rfl qm_28 (by decide) rfl rl_0 (by decide) rfl (Nat.le_of_ble_eq_true rfl) rfl ⟨rfl, rfl⟩ ⟨Nat.le_of_ble_eq_true rfl, Nat.le_of_ble_eq_true rfl⟩ (EvP.mono (by decide) (c_F_mark hT )) (fun r17 P18 g16 => mpp 261 rfl ?_)
  obtain ⟨⟨x19, rfl, g20⟩, hT21, k22, R23⟩ := g16
  have R24 := Rel.kw hR k22 rfl
  have t25 := kw_tie k22 1 rl_289 rfl
  have t26 := kw_tie k22 23 rl_301 rfl
  show MEvP _ _ lawq 261 [(3, .int i), (2, .ref 301), (1, .ref 0), (0, .long 0)] [.int x19] _ _ _ _
  refine mp_t (s_pop dL_law_261 rfl) (mpp 262 rfl ?_)
  refine mp_a (a_aload_n dL_law_262 rfl) (mpp 263 rfl ?_)
  refine mp_a (a_aload_nT dL_law_263 rfl) (mpp 264 rfl ?_)
  refine mp_a (a_iload_n dL_law_264 rfl) (mpp 265 rfl ?_)
  refine mp_a (a_iconst (v := 1) dL_law_265 rfl) (mpp 266 rfl ?_)
  refine mp_t (s_iadd (v := z1) dL_law_266 h2) (mpp 267 rfl ?_)
  refine mp_sld (v := w4) (N := xs.length) dL_law_267 rfl (t_ix (by omega) (by omega)) h5 (mpp 268 rfl ?_)
  refine mp_a (a_aload_nT dL_law_268 rfl) (mpp 269 rfl ?_)
  refine mp_a (a_iload_n dL_law_269 rfl) (mpp 270 rfl ?_)
  refine mp_a (a_iconst (v := 2) dL_law_270 rfl) (mpp 271 rfl ?_)
  refine mp_t (s_iadd (v := z6) dL_law_271 h7) (mpp 272 rfl ?_)
  refine mp_sld (v := w9) (N := xs.length) dL_law_272 rfl (t_ix (by omega) (by omega)) h10 (mpp 273 rfl ?_)
  refine mp_a (a_aload_nT dL_law_273 rfl) (mpp 274 rfl ?_)
  refine mp_a (a_iload_n dL_law_274 rfl) (mpp 275 rfl ?_)
  refine mp_a (a_iconst (v := 3) dL_law_275 rfl) (mpp 276 rfl ?_)
  refine mp_t (s_iadd (v := z11) dL_law_276 h12) (mpp 277 rfl ?_)
  refine mp_sld (v := w14) (N := xs.length) dL_law_277 rfl (t_ix (by omega) (by omega)) h15 (mpp 278 rfl ?_)
  refine mt_callv (i := 26) (q' := q_141) (As := [.int w4, .int w9, .int w14]) (rest := []) hT21 dL_law_278 rfl qm_141 (by decide) rfl rl_301 (by decide) rfl (Nat.le_of_ble_eq_true rfl) rfl ⟨rfl, rfl⟩ ⟨Nat.le_of_ble_eq_true rfl, Nat.le_of_ble_eq_true rfl⟩ (EvP.mono (by decide) (c_M_mark hT21 R24 )) (fun r28 P29 g27 => mpp 281 rfl ?_)
  obtain ⟨⟨x30, rfl, g31⟩, hT32, k33, R34⟩ := g27
  have t35 := kw_tie k33 1 rl_289 rfl
  have t36 := kw_tie k33 23 rl_301 rfl
  show MEvP _ _ lawq 281 [(3, .int i), (2, .ref 301), (1, .ref 0), (0, .long 0)] [.int x30] _ _ _ _
  refine mp_t (s_pop dL_law_281 rfl) (mpp 282 rfl ?_)
  refine mp_a (a_goto (t := 992) dL_law_282 (by decide)) ?_
  exact kk _ ⟨hT32, R34, by omega⟩

set_option maxHeartbeats 4000000 in
theorem law_c3 {xs : List Int32} (hn : xs.length ≤ 2048) {i : Int32} (h0 : 0 ≤ i.toInt) (h4 : i.toInt + 4 ≤ xs.length) {P : mP} (hT : Typ P) (hR : Rel P) (hL : (fv P 289 1).toInt = (fv P 301 23).toInt) (kk : ∀ P' : mP, LI P' → MEvP 15 (some xs) lawq 992 [(3, .int i), (2, .ref 301), (1, .ref 0), (0, .long 0)] [] P' 315 4038 (fun r _ => r = some (.int 1))) : MEvP 15 (some xs) lawq 285 [(3, .int i), (2, .ref 301), (1, .ref 0), (0, .long 0)] [] P 315 4038 (fun r _ => r = some (.int 1)) := by
  refine mp_a (a_aload_n dL_law_285 rfl) (mpp 286 rfl ?_)
  refine mp_a (a_aload_nT dL_law_286 rfl) (mpp 287 rfl ?_)
  refine mp_a (a_iload_n dL_law_287 rfl) (mpp 288 rfl ?_)
  refine mp_a (a_iconst (v := 1) dL_law_288 rfl) (mpp 289 rfl ?_)
  obtain ⟨z1, h2⟩ := ti_ex (i + 1 : Int32)
  have e3 : z1.toInt = i.toInt + 1 := ti_addz h2 rfl rfl (by omega) (by omega)
  refine mp_t (s_iadd (v := z1) dL_law_289 h2) (mpp 290 rfl ?_)
  obtain ⟨w4, h5⟩ := ti_ex (xs.getD z1.toNatClampNeg 0)
  refine mp_sld (v := w4) (N := xs.length) dL_law_290 rfl (t_ix (by omega) (by omega)) h5 (mpp 291 rfl ?_)
  refine mt_callv (i := 27) (q' := q_30) (As := [.int w4]) (rest := []) hT dL_law_291 rfl qm_30 (by decide) rfl rl_0 (by decide) rfl (Nat.le_of_ble_eq_true rfl) rfl ⟨rfl, rfl⟩ ⟨Nat.le_of_ble_eq_true rfl, Nat.le_of_ble_eq_true rfl⟩ (EvP.mono (by decide) (c_F_turn hT )) (fun r7 P8 g6 => mpp 294 rfl ?_)
  obtain ⟨⟨x9, rfl, g10⟩, hT11, k12, R13⟩ := g6
  have R14 := Rel.kw hR k12 rfl
  have t15 := kw_tie k12 1 rl_289 rfl
  have t16 := kw_tie k12 23 rl_301 rfl
  show MEvP _ _ lawq 294 [(3, .int i), (2, .ref 301), (1, .ref 0), (0, .long 0)] [.int x9] _ _ _ _
  refine mp_t (s_pop dL_law_294 rfl) (mpp 295 rfl ?_)
  refine mp_a (a_aload_n dL_law_295 rfl) (mpp 296 rfl ?_)
  refine mp_a (a_aload_nT dL_law_296 rfl) (mpp 297 rfl ?_)
  refine mp_a (a_iload_n dL_law_297 rfl) (mpp 298 rfl ?_)
  refine mp_a (a_iconst (v := 1) dL_law_298 rfl) (mpp 299 rfl ?_)
  refine mp_t (s_iadd (v := z1) dL_law_299 h2) (mpp 300 rfl ?_)
  refine mp_sld (v := w4) (N := xs.length) dL_law_300 rfl (t_ix (by omega) (by omega)) h5 (mpp 301 rfl ?_)
  refine mt_callv (i := 30) (q' := q_147) (As := [.int w4]) (rest := []) hT11 dL_law_301 rfl qm_147 (by decide) rfl rl_301 (by decide) rfl (Nat.le_of_ble_eq_true rfl) rfl ⟨rfl, rfl⟩ ⟨Nat.le_of_ble_eq_true rfl, Nat.le_of_ble_eq_true rfl⟩ (EvP.mono (by decide) (c_M_turn hT11 R14 )) (fun r18 P19 g17 => mpp 304 rfl ?_)
  obtain ⟨⟨x20, rfl, g21⟩, hT22, k23, R24⟩ := g17
  have t25 := kw_tie k23 1 rl_289 rfl
  have t26 := kw_tie k23 23 rl_301 rfl
  show MEvP _ _ lawq 304 [(3, .int i), (2, .ref 301), (1, .ref 0), (0, .long 0)] [.int x20] _ _ _ _
  refine mp_t (s_pop dL_law_304 rfl) (mpp 305 rfl ?_)
  refine mp_a (a_goto (t := 992) dL_law_305 (by decide)) ?_
  exact kk _ ⟨hT22, R24, by omega⟩

set_option maxHeartbeats 4000000 in
theorem law_c4 {xs : List Int32} (hn : xs.length ≤ 2048) {i : Int32} (h0 : 0 ≤ i.toInt) (h4 : i.toInt + 4 ≤ xs.length) {P : mP} (hT : Typ P) (hR : Rel P) (hL : (fv P 289 1).toInt = (fv P 301 23).toInt) (kk : ∀ P' : mP, LI P' → MEvP 15 (some xs) lawq 992 [(3, .int i), (2, .ref 301), (1, .ref 0), (0, .long 0)] [] P' 315 4038 (fun r _ => r = some (.int 1))) : MEvP 15 (some xs) lawq 308 [(3, .int i), (2, .ref 301), (1, .ref 0), (0, .long 0)] [] P 315 4038 (fun r _ => r = some (.int 1)) := by
  refine mp_a (a_aload_n dL_law_308 rfl) (mpp 309 rfl ?_)
  refine mp_a (a_aload_nT dL_law_309 rfl) (mpp 310 rfl ?_)
  refine mp_a (a_iload_n dL_law_310 rfl) (mpp 311 rfl ?_)
  refine mp_a (a_iconst (v := 1) dL_law_311 rfl) (mpp 312 rfl ?_)
  obtain ⟨z1, h2⟩ := ti_ex (i + 1 : Int32)
  have e3 : z1.toInt = i.toInt + 1 := ti_addz h2 rfl rfl (by omega) (by omega)
  refine mp_t (s_iadd (v := z1) dL_law_312 h2) (mpp 313 rfl ?_)
  obtain ⟨w4, h5⟩ := ti_ex (xs.getD z1.toNatClampNeg 0)
  refine mp_sld (v := w4) (N := xs.length) dL_law_313 rfl (t_ix (by omega) (by omega)) h5 (mpp 314 rfl ?_)
  refine mp_a (a_aload_nT dL_law_314 rfl) (mpp 315 rfl ?_)
  refine mp_a (a_iload_n dL_law_315 rfl) (mpp 316 rfl ?_)
  refine mp_a (a_iconst (v := 2) dL_law_316 rfl) (mpp 317 rfl ?_)
  obtain ⟨z6, h7⟩ := ti_ex (i + 2 : Int32)
  have e8 : z6.toInt = i.toInt + 2 := ti_addz h7 rfl rfl (by omega) (by omega)
  refine mp_t (s_iadd (v := z6) dL_law_317 h7) (mpp 318 rfl ?_)
  obtain ⟨w9, h10⟩ := ti_ex (xs.getD z6.toNatClampNeg 0)
  refine mp_sld (v := w9) (N := xs.length) dL_law_318 rfl (t_ix (by omega) (by omega)) h10 (mpp 319 rfl ?_)
  refine mt_callv (i := 31) (q' := q_33) (As := [.int w4, .int w9]) (rest := []) hT dL_law_319 rfl qm_33 (by decide) rfl rl_0 (by decide) rfl (Nat.le_of_ble_eq_true rfl) rfl ⟨rfl, rfl⟩ ⟨Nat.le_of_ble_eq_true rfl, Nat.le_of_ble_eq_true rfl⟩ (EvP.mono (by decide) (c_F_rotate hT )) (fun r12 P13 g11 => mpp 322 rfl ?_)
  obtain ⟨⟨x14, rfl, g15⟩, hT16, k17, R18⟩ := g11
  have R19 := Rel.kw hR k17 rfl
  have t20 := kw_tie k17 1 rl_289 rfl
  have t21 := kw_tie k17 23 rl_301 rfl
  show MEvP _ _ lawq 322 [(3, .int i), (2, .ref 301), (1, .ref 0), (0, .long 0)] [.int x14] _ _ _ _
  refine mp_t (s_pop dL_law_322 rfl) (mpp 323 rfl ?_)
  refine mp_a (a_aload_n dL_law_323 rfl) (mpp 324 rfl ?_)
  refine mp_a (a_aload_nT dL_law_324 rfl) (mpp 325 rfl ?_)
  refine mp_a (a_iload_n dL_law_325 rfl) (mpp 326 rfl ?_)
  refine mp_a (a_iconst (v := 1) dL_law_326 rfl) (mpp 327 rfl ?_)
  refine mp_t (s_iadd (v := z1) dL_law_327 h2) (mpp 328 rfl ?_)
  refine mp_sld (v := w4) (N := xs.length) dL_law_328 rfl (t_ix (by omega) (by omega)) h5 (mpp 329 rfl ?_)
  refine mp_a (a_aload_nT dL_law_329 rfl) (mpp 330 rfl ?_)
  refine mp_a (a_iload_n dL_law_330 rfl) (mpp 331 rfl ?_)
  refine mp_a (a_iconst (v := 2) dL_law_331 rfl) (mpp 332 rfl ?_)
  refine mp_t (s_iadd (v := z6) dL_law_332 h7) (mpp 333 rfl ?_)
  refine mp_sld (v := w9) (N := xs.length) dL_law_333 rfl (t_ix (by omega) (by omega)) h10 (mpp 334 rfl ?_)
  refine mt_callv (i := 35) (q' := q_150) (As := [.int w4, .int w9]) (rest := []) hT16 dL_law_334 rfl qm_150 (by decide) rfl rl_301 (by decide) rfl (Nat.le_of_ble_eq_true rfl) rfl ⟨rfl, rfl⟩ ⟨Nat.le_of_ble_eq_true rfl, Nat.le_of_ble_eq_true rfl⟩ (EvP.mono (by decide) (c_M_rotate hT16 R19 )) (fun r23 P24 g22 => mpp 337 rfl ?_)
  obtain ⟨⟨x25, rfl, g26⟩, hT27, k28, R29⟩ := g22
  have t30 := kw_tie k28 1 rl_289 rfl
  have t31 := kw_tie k28 23 rl_301 rfl
  show MEvP _ _ lawq 337 [(3, .int i), (2, .ref 301), (1, .ref 0), (0, .long 0)] [.int x25] _ _ _ _
  refine mp_t (s_pop dL_law_337 rfl) (mpp 338 rfl ?_)
  refine mp_a (a_goto (t := 992) dL_law_338 (by decide)) ?_
  exact kk _ ⟨hT27, R29, by omega⟩

set_option maxHeartbeats 4000000 in
theorem law_c5 {xs : List Int32} (hn : xs.length ≤ 2048) {i : Int32} (h0 : 0 ≤ i.toInt) (h4 : i.toInt + 4 ≤ xs.length) {P : mP} (hT : Typ P) (hR : Rel P) (hL : (fv P 289 1).toInt = (fv P 301 23).toInt) (kk : ∀ P' : mP, LI P' → MEvP 15 (some xs) lawq 992 [(3, .int i), (2, .ref 301), (1, .ref 0), (0, .long 0)] [] P' 315 4038 (fun r _ => r = some (.int 1))) : MEvP 15 (some xs) lawq 341 [(3, .int i), (2, .ref 301), (1, .ref 0), (0, .long 0)] [] P 315 4038 (fun r _ => r = some (.int 1)) := by
  refine mp_a (a_aload_n dL_law_341 rfl) (mpp 342 rfl ?_)
  refine mp_a (a_aload_nT dL_law_342 rfl) (mpp 343 rfl ?_)
  refine mp_a (a_iload_n dL_law_343 rfl) (mpp 344 rfl ?_)
  refine mp_a (a_iconst (v := 1) dL_law_344 rfl) (mpp 345 rfl ?_)
  obtain ⟨z1, h2⟩ := ti_ex (i + 1 : Int32)
  have e3 : z1.toInt = i.toInt + 1 := ti_addz h2 rfl rfl (by omega) (by omega)
  refine mp_t (s_iadd (v := z1) dL_law_345 h2) (mpp 346 rfl ?_)
  obtain ⟨w4, h5⟩ := ti_ex (xs.getD z1.toNatClampNeg 0)
  refine mp_sld (v := w4) (N := xs.length) dL_law_346 rfl (t_ix (by omega) (by omega)) h5 (mpp 347 rfl ?_)
  refine mp_a (a_aload_nT dL_law_347 rfl) (mpp 348 rfl ?_)
  refine mp_a (a_iload_n dL_law_348 rfl) (mpp 349 rfl ?_)
  refine mp_a (a_iconst (v := 2) dL_law_349 rfl) (mpp 350 rfl ?_)
  obtain ⟨z6, h7⟩ := ti_ex (i + 2 : Int32)
  have e8 : z6.toInt = i.toInt + 2 := ti_addz h7 rfl rfl (by omega) (by omega)
  refine mp_t (s_iadd (v := z6) dL_law_350 h7) (mpp 351 rfl ?_)
  obtain ⟨w9, h10⟩ := ti_ex (xs.getD z6.toNatClampNeg 0)
  refine mp_sld (v := w9) (N := xs.length) dL_law_351 rfl (t_ix (by omega) (by omega)) h10 (mpp 352 rfl ?_)
  refine mp_a (a_aload_nT dL_law_352 rfl) (mpp 353 rfl ?_)
  refine mp_a (a_iload_n dL_law_353 rfl) (mpp 354 rfl ?_)
  refine mp_a (a_iconst (v := 3) dL_law_354 rfl) (mpp 355 rfl ?_)
  obtain ⟨z11, h12⟩ := ti_ex (i + 3 : Int32)
  have e13 : z11.toInt = i.toInt + 3 := ti_addz h12 rfl rfl (by omega) (by omega)
  refine mp_t (s_iadd (v := z11) dL_law_355 h12) (mpp 356 rfl ?_)
  obtain ⟨w14, h15⟩ := ti_ex (xs.getD z11.toNatClampNeg 0)
  refine mp_sld (v := w14) (N := xs.length) dL_law_356 rfl (t_ix (by omega) (by omega)) h15 (mpp 357 rfl ?_)
  refine mt_callv (i := 36) (q' := q_36) (As := [.int w4, .int w9, .int w14]) (rest := []) hT dL_law_357 rfl qm_36 (by decide) rfl rl_0 (by decide) rfl (Nat.le_of_ble_eq_true rfl) rfl ⟨rfl, rfl⟩ ⟨Nat.le_of_ble_eq_true rfl, Nat.le_of_ble_eq_true rfl⟩ (EvP.mono (by decide) (c_F_join hT )) (fun r17 P18 g16 => mpp 360 rfl ?_)
  obtain ⟨⟨x19, rfl, g20⟩, hT21, k22, R23⟩ := g16
  have R24 := Rel.kw hR k22 rfl
  have t25 := kw_tie k22 1 rl_289 rfl
  have t26 := kw_tie k22 23 rl_301 rfl
  show MEvP _ _ lawq 360 [(3, .int i), (2, .ref 301), (1, .ref 0), (0, .long 0)] [.int x19] _ _ _ _
  refine mp_t (s_pop dL_law_360 rfl) (mpp 361 rfl ?_)
  refine mp_a (a_aload_n dL_law_361 rfl) (mpp 362 rfl ?_)
  refine mp_a (a_aload_nT dL_law_362 rfl) (mpp 363 rfl ?_)
  refine mp_a (a_iload_n dL_law_363 rfl) (mpp 364 rfl ?_)
  refine mp_a (a_iconst (v := 1) dL_law_364 rfl) (mpp 365 rfl ?_)
  refine mp_t (s_iadd (v := z1) dL_law_365 h2) (mpp 366 rfl ?_)
  refine mp_sld (v := w4) (N := xs.length) dL_law_366 rfl (t_ix (by omega) (by omega)) h5 (mpp 367 rfl ?_)
  refine mp_a (a_aload_nT dL_law_367 rfl) (mpp 368 rfl ?_)
  refine mp_a (a_iload_n dL_law_368 rfl) (mpp 369 rfl ?_)
  refine mp_a (a_iconst (v := 2) dL_law_369 rfl) (mpp 370 rfl ?_)
  refine mp_t (s_iadd (v := z6) dL_law_370 h7) (mpp 371 rfl ?_)
  refine mp_sld (v := w9) (N := xs.length) dL_law_371 rfl (t_ix (by omega) (by omega)) h10 (mpp 372 rfl ?_)
  refine mp_a (a_aload_nT dL_law_372 rfl) (mpp 373 rfl ?_)
  refine mp_a (a_iload_n dL_law_373 rfl) (mpp 374 rfl ?_)
  refine mp_a (a_iconst (v := 3) dL_law_374 rfl) (mpp 375 rfl ?_)
  refine mp_t (s_iadd (v := z11) dL_law_375 h12) (mpp 376 rfl ?_)
  refine mp_sld (v := w14) (N := xs.length) dL_law_376 rfl (t_ix (by omega) (by omega)) h15 (mpp 377 rfl ?_)
  refine mt_callv (i := 39) (q' := q_153) (As := [.int w4, .int w9, .int w14]) (rest := []) hT21 dL_law_377 rfl qm_153 (by decide) rfl rl_301 (by decide) rfl (Nat.le_of_ble_eq_true rfl) rfl ⟨rfl, rfl⟩ ⟨Nat.le_of_ble_eq_true rfl, Nat.le_of_ble_eq_true rfl⟩ (EvP.mono (by decide) (c_M_join hT21 R24 )) (fun r28 P29 g27 => mpp 380 rfl ?_)
  obtain ⟨⟨x30, rfl, g31⟩, hT32, k33, R34⟩ := g27
  have t35 := kw_tie k33 1 rl_289 rfl
  have t36 := kw_tie k33 23 rl_301 rfl
  show MEvP _ _ lawq 380 [(3, .int i), (2, .ref 301), (1, .ref 0), (0, .long 0)] [.int x30] _ _ _ _
  refine mp_t (s_pop dL_law_380 rfl) (mpp 381 rfl ?_)
  refine mp_a (a_goto (t := 992) dL_law_381 (by decide)) ?_
  exact kk _ ⟨hT32, R34, by omega⟩

set_option maxHeartbeats 4000000 in
theorem law_c6 {xs : List Int32} (hn : xs.length ≤ 2048) {i : Int32} (h0 : 0 ≤ i.toInt) (h4 : i.toInt + 4 ≤ xs.length) {P : mP} (hT : Typ P) (hR : Rel P) (hL : (fv P 289 1).toInt = (fv P 301 23).toInt) (kk : ∀ P' : mP, LI P' → MEvP 15 (some xs) lawq 992 [(3, .int i), (2, .ref 301), (1, .ref 0), (0, .long 0)] [] P' 315 4038 (fun r _ => r = some (.int 1))) : MEvP 15 (some xs) lawq 384 [(3, .int i), (2, .ref 301), (1, .ref 0), (0, .long 0)] [] P 315 4038 (fun r _ => r = some (.int 1)) := by
  refine mp_a (a_aload_n dL_law_384 rfl) (mpp 385 rfl ?_)
  refine mp_a (a_aload_nT dL_law_385 rfl) (mpp 386 rfl ?_)
  refine mp_a (a_iload_n dL_law_386 rfl) (mpp 387 rfl ?_)
  refine mp_a (a_iconst (v := 1) dL_law_387 rfl) (mpp 388 rfl ?_)
  obtain ⟨z1, h2⟩ := ti_ex (i + 1 : Int32)
  have e3 : z1.toInt = i.toInt + 1 := ti_addz h2 rfl rfl (by omega) (by omega)
  refine mp_t (s_iadd (v := z1) dL_law_388 h2) (mpp 389 rfl ?_)
  obtain ⟨w4, h5⟩ := ti_ex (xs.getD z1.toNatClampNeg 0)
  refine mp_sld (v := w4) (N := xs.length) dL_law_389 rfl (t_ix (by omega) (by omega)) h5 (mpp 390 rfl ?_)
  refine mp_a (a_aload_nT dL_law_390 rfl) (mpp 391 rfl ?_)
  refine mp_a (a_iload_n dL_law_391 rfl) (mpp 392 rfl ?_)
  refine mp_a (a_iconst (v := 2) dL_law_392 rfl) (mpp 393 rfl ?_)
  obtain ⟨z6, h7⟩ := ti_ex (i + 2 : Int32)
  have e8 : z6.toInt = i.toInt + 2 := ti_addz h7 rfl rfl (by omega) (by omega)
  refine mp_t (s_iadd (v := z6) dL_law_393 h7) (mpp 394 rfl ?_)
  obtain ⟨w9, h10⟩ := ti_ex (xs.getD z6.toNatClampNeg 0)
  refine mp_sld (v := w9) (N := xs.length) dL_law_394 rfl (t_ix (by omega) (by omega)) h10 (mpp 395 rfl ?_)
  refine mt_callv (i := 40) (q' := q_39) (As := [.int w4, .int w9]) (rest := []) hT dL_law_395 rfl qm_39 (by decide) rfl rl_0 (by decide) rfl (Nat.le_of_ble_eq_true rfl) rfl ⟨rfl, rfl⟩ ⟨Nat.le_of_ble_eq_true rfl, Nat.le_of_ble_eq_true rfl⟩ (EvP.mono (by decide) (c_F_cut hT )) (fun r12 P13 g11 => mpp 398 rfl ?_)
  obtain ⟨⟨x14, rfl, g15⟩, hT16, k17, R18⟩ := g11
  have R19 := Rel.kw hR k17 rfl
  have t20 := kw_tie k17 1 rl_289 rfl
  have t21 := kw_tie k17 23 rl_301 rfl
  show MEvP _ _ lawq 398 [(3, .int i), (2, .ref 301), (1, .ref 0), (0, .long 0)] [.int x14] _ _ _ _
  refine mp_t (s_pop dL_law_398 rfl) (mpp 399 rfl ?_)
  refine mp_a (a_aload_n dL_law_399 rfl) (mpp 400 rfl ?_)
  refine mp_a (a_aload_nT dL_law_400 rfl) (mpp 401 rfl ?_)
  refine mp_a (a_iload_n dL_law_401 rfl) (mpp 402 rfl ?_)
  refine mp_a (a_iconst (v := 1) dL_law_402 rfl) (mpp 403 rfl ?_)
  refine mp_t (s_iadd (v := z1) dL_law_403 h2) (mpp 404 rfl ?_)
  refine mp_sld (v := w4) (N := xs.length) dL_law_404 rfl (t_ix (by omega) (by omega)) h5 (mpp 405 rfl ?_)
  refine mp_a (a_aload_nT dL_law_405 rfl) (mpp 406 rfl ?_)
  refine mp_a (a_iload_n dL_law_406 rfl) (mpp 407 rfl ?_)
  refine mp_a (a_iconst (v := 2) dL_law_407 rfl) (mpp 408 rfl ?_)
  refine mp_t (s_iadd (v := z6) dL_law_408 h7) (mpp 409 rfl ?_)
  refine mp_sld (v := w9) (N := xs.length) dL_law_409 rfl (t_ix (by omega) (by omega)) h10 (mpp 410 rfl ?_)
  refine mt_callv (i := 43) (q' := q_156) (As := [.int w4, .int w9]) (rest := []) hT16 dL_law_410 rfl qm_156 (by decide) rfl rl_301 (by decide) rfl (Nat.le_of_ble_eq_true rfl) rfl ⟨rfl, rfl⟩ ⟨Nat.le_of_ble_eq_true rfl, Nat.le_of_ble_eq_true rfl⟩ (EvP.mono (by decide) (c_M_cut hT16 R19 )) (fun r23 P24 g22 => mpp 413 rfl ?_)
  obtain ⟨⟨x25, rfl, g26⟩, hT27, k28, R29⟩ := g22
  have t30 := kw_tie k28 1 rl_289 rfl
  have t31 := kw_tie k28 23 rl_301 rfl
  show MEvP _ _ lawq 413 [(3, .int i), (2, .ref 301), (1, .ref 0), (0, .long 0)] [.int x25] _ _ _ _
  refine mp_t (s_pop dL_law_413 rfl) (mpp 414 rfl ?_)
  refine mp_a (a_goto (t := 992) dL_law_414 (by decide)) ?_
  exact kk _ ⟨hT27, R29, by omega⟩

set_option maxHeartbeats 4000000 in
theorem law_c7 {xs : List Int32} (hn : xs.length ≤ 2048) {i : Int32} (h0 : 0 ≤ i.toInt) (h4 : i.toInt + 4 ≤ xs.length) {P : mP} (hT : Typ P) (hR : Rel P) (hL : (fv P 289 1).toInt = (fv P 301 23).toInt) (kk : ∀ P' : mP, LI P' → MEvP 15 (some xs) lawq 992 [(3, .int i), (2, .ref 301), (1, .ref 0), (0, .long 0)] [] P' 315 4038 (fun r _ => r = some (.int 1))) : MEvP 15 (some xs) lawq 417 [(3, .int i), (2, .ref 301), (1, .ref 0), (0, .long 0)] [] P 315 4038 (fun r _ => r = some (.int 1)) := by
  refine mp_a (a_aload_n dL_law_417 rfl) (mpp 418 rfl ?_)
  refine mp_a (a_aload_nT dL_law_418 rfl) (mpp 419 rfl ?_)
  refine mp_a (a_iload_n dL_law_419 rfl) (mpp 420 rfl ?_)
  refine mp_a (a_iconst (v := 1) dL_law_420 rfl) (mpp 421 rfl ?_)
  obtain ⟨z1, h2⟩ := ti_ex (i + 1 : Int32)
  have e3 : z1.toInt = i.toInt + 1 := ti_addz h2 rfl rfl (by omega) (by omega)
  refine mp_t (s_iadd (v := z1) dL_law_421 h2) (mpp 422 rfl ?_)
  obtain ⟨w4, h5⟩ := ti_ex (xs.getD z1.toNatClampNeg 0)
  refine mp_sld (v := w4) (N := xs.length) dL_law_422 rfl (t_ix (by omega) (by omega)) h5 (mpp 423 rfl ?_)
  refine mt_callv (i := 44) (q' := q_41) (As := [.int w4]) (rest := []) hT dL_law_423 rfl qm_41 (by decide) rfl rl_0 (by decide) rfl (Nat.le_of_ble_eq_true rfl) rfl ⟨rfl, rfl⟩ ⟨Nat.le_of_ble_eq_true rfl, Nat.le_of_ble_eq_true rfl⟩ (EvP.mono (by decide) (c_F_fold hT )) (fun r7 P8 g6 => mpp 426 rfl ?_)
  obtain ⟨⟨x9, rfl, g10⟩, hT11, k12, R13⟩ := g6
  have R14 := Rel.kw hR k12 rfl
  have t15 := kw_tie k12 1 rl_289 rfl
  have t16 := kw_tie k12 23 rl_301 rfl
  show MEvP _ _ lawq 426 [(3, .int i), (2, .ref 301), (1, .ref 0), (0, .long 0)] [.int x9] _ _ _ _
  refine mp_t (s_pop dL_law_426 rfl) (mpp 427 rfl ?_)
  refine mp_a (a_aload_n dL_law_427 rfl) (mpp 428 rfl ?_)
  refine mp_a (a_aload_nT dL_law_428 rfl) (mpp 429 rfl ?_)
  refine mp_a (a_iload_n dL_law_429 rfl) (mpp 430 rfl ?_)
  refine mp_a (a_iconst (v := 1) dL_law_430 rfl) (mpp 431 rfl ?_)
  refine mp_t (s_iadd (v := z1) dL_law_431 h2) (mpp 432 rfl ?_)
  refine mp_sld (v := w4) (N := xs.length) dL_law_432 rfl (t_ix (by omega) (by omega)) h5 (mpp 433 rfl ?_)
  refine mt_callv (i := 47) (q' := q_187) (As := [.int w4]) (rest := []) hT11 dL_law_433 rfl qm_187 (by decide) rfl rl_301 (by decide) rfl (Nat.le_of_ble_eq_true rfl) rfl ⟨rfl, rfl⟩ ⟨Nat.le_of_ble_eq_true rfl, Nat.le_of_ble_eq_true rfl⟩ (EvP.mono (by decide) (c_M_fold hT11 R14 )) (fun r18 P19 g17 => mpp 436 rfl ?_)
  obtain ⟨⟨x20, rfl, g21⟩, hT22, k23, R24⟩ := g17
  have t25 := kw_tie k23 1 rl_289 rfl
  have t26 := kw_tie k23 23 rl_301 rfl
  show MEvP _ _ lawq 436 [(3, .int i), (2, .ref 301), (1, .ref 0), (0, .long 0)] [.int x20] _ _ _ _
  refine mp_t (s_pop dL_law_436 rfl) (mpp 437 rfl ?_)
  refine mp_a (a_goto (t := 992) dL_law_437 (by decide)) ?_
  exact kk _ ⟨hT22, R24, by omega⟩

set_option maxHeartbeats 4000000 in
theorem law_c8 {xs : List Int32} (hn : xs.length ≤ 2048) {i : Int32} (h0 : 0 ≤ i.toInt) (h4 : i.toInt + 4 ≤ xs.length) {P : mP} (hT : Typ P) (hR : Rel P) (hL : (fv P 289 1).toInt = (fv P 301 23).toInt) (kk : ∀ P' : mP, LI P' → MEvP 15 (some xs) lawq 992 [(3, .int i), (2, .ref 301), (1, .ref 0), (0, .long 0)] [] P' 315 4038 (fun r _ => r = some (.int 1))) : MEvP 15 (some xs) lawq 440 [(3, .int i), (2, .ref 301), (1, .ref 0), (0, .long 0)] [] P 315 4038 (fun r _ => r = some (.int 1)) := by
  refine mp_a (a_aload_n dL_law_440 rfl) (mpp 441 rfl ?_)
  refine mp_a (a_aload_nT dL_law_441 rfl) (mpp 442 rfl ?_)
  refine mp_a (a_iload_n dL_law_442 rfl) (mpp 443 rfl ?_)
  refine mp_a (a_iconst (v := 1) dL_law_443 rfl) (mpp 444 rfl ?_)
  obtain ⟨z1, h2⟩ := ti_ex (i + 1 : Int32)
  have e3 : z1.toInt = i.toInt + 1 := ti_addz h2 rfl rfl (by omega) (by omega)
  refine mp_t (s_iadd (v := z1) dL_law_444 h2) (mpp 445 rfl ?_)
  obtain ⟨w4, h5⟩ := ti_ex (xs.getD z1.toNatClampNeg 0)
  refine mp_sld (v := w4) (N := xs.length) dL_law_445 rfl (t_ix (by omega) (by omega)) h5 (mpp 446 rfl ?_)
  refine mt_callv (i := 48) (q' := q_56) (As := [.int w4]) (rest := []) hT dL_law_446 rfl qm_56 (by decide) rfl rl_0 (by decide) rfl (Nat.le_of_ble_eq_true rfl) rfl ⟨rfl, rfl⟩ ⟨Nat.le_of_ble_eq_true rfl, Nat.le_of_ble_eq_true rfl⟩ (EvP.mono (by decide) (c_F_unfold hT )) (fun r7 P8 g6 => mpp 449 rfl ?_)
  obtain ⟨⟨x9, rfl, g10⟩, hT11, k12, R13⟩ := g6
  have R14 := Rel.kw hR k12 rfl
  have t15 := kw_tie k12 1 rl_289 rfl
  have t16 := kw_tie k12 23 rl_301 rfl
  show MEvP _ _ lawq 449 [(3, .int i), (2, .ref 301), (1, .ref 0), (0, .long 0)] [.int x9] _ _ _ _
  refine mp_t (s_pop dL_law_449 rfl) (mpp 450 rfl ?_)
  refine mp_a (a_aload_n dL_law_450 rfl) (mpp 451 rfl ?_)
  refine mp_a (a_aload_nT dL_law_451 rfl) (mpp 452 rfl ?_)
  refine mp_a (a_iload_n dL_law_452 rfl) (mpp 453 rfl ?_)
  refine mp_a (a_iconst (v := 1) dL_law_453 rfl) (mpp 454 rfl ?_)
  refine mp_t (s_iadd (v := z1) dL_law_454 h2) (mpp 455 rfl ?_)
  refine mp_sld (v := w4) (N := xs.length) dL_law_455 rfl (t_ix (by omega) (by omega)) h5 (mpp 456 rfl ?_)
  refine mt_callv (i := 51) (q' := q_190) (As := [.int w4]) (rest := []) hT11 dL_law_456 rfl qm_190 (by decide) rfl rl_301 (by decide) rfl (Nat.le_of_ble_eq_true rfl) rfl ⟨rfl, rfl⟩ ⟨Nat.le_of_ble_eq_true rfl, Nat.le_of_ble_eq_true rfl⟩ (EvP.mono (by decide) (c_M_unfold hT11 R14 )) (fun r18 P19 g17 => mpp 459 rfl ?_)
  obtain ⟨⟨x20, rfl, g21⟩, hT22, k23, R24⟩ := g17
  have t25 := kw_tie k23 1 rl_289 rfl
  have t26 := kw_tie k23 23 rl_301 rfl
  show MEvP _ _ lawq 459 [(3, .int i), (2, .ref 301), (1, .ref 0), (0, .long 0)] [.int x20] _ _ _ _
  refine mp_t (s_pop dL_law_459 rfl) (mpp 460 rfl ?_)
  refine mp_a (a_goto (t := 992) dL_law_460 (by decide)) ?_
  exact kk _ ⟨hT22, R24, by omega⟩

set_option maxHeartbeats 4000000 in
theorem law_c9 {xs : List Int32} (hn : xs.length ≤ 2048) {i : Int32} (h0 : 0 ≤ i.toInt) (h4 : i.toInt + 4 ≤ xs.length) {P : mP} (hT : Typ P) (hR : Rel P) (hL : (fv P 289 1).toInt = (fv P 301 23).toInt) (kk : ∀ P' : mP, LI P' → MEvP 15 (some xs) lawq 992 [(3, .int i), (2, .ref 301), (1, .ref 0), (0, .long 0)] [] P' 315 4038 (fun r _ => r = some (.int 1))) : MEvP 15 (some xs) lawq 463 [(3, .int i), (2, .ref 301), (1, .ref 0), (0, .long 0)] [] P 315 4038 (fun r _ => r = some (.int 1)) := by
  refine mp_a (a_aload_n dL_law_463 rfl) (mpp 464 rfl ?_)
  refine mp_a (a_aload_nT dL_law_464 rfl) (mpp 465 rfl ?_)
  refine mp_a (a_iload_n dL_law_465 rfl) (mpp 466 rfl ?_)
  refine mp_a (a_iconst (v := 1) dL_law_466 rfl) (mpp 467 rfl ?_)
  obtain ⟨z1, h2⟩ := ti_ex (i + 1 : Int32)
  have e3 : z1.toInt = i.toInt + 1 := ti_addz h2 rfl rfl (by omega) (by omega)
  refine mp_t (s_iadd (v := z1) dL_law_467 h2) (mpp 468 rfl ?_)
  obtain ⟨w4, h5⟩ := ti_ex (xs.getD z1.toNatClampNeg 0)
  refine mp_sld (v := w4) (N := xs.length) dL_law_468 rfl (t_ix (by omega) (by omega)) h5 (mpp 469 rfl ?_)
  refine mt_callv (i := 52) (q' := q_57) (As := [.int w4]) (rest := []) hT dL_law_469 rfl qm_57 (by decide) rfl rl_0 (by decide) rfl (Nat.le_of_ble_eq_true rfl) rfl ⟨rfl, rfl⟩ ⟨Nat.le_of_ble_eq_true rfl, Nat.le_of_ble_eq_true rfl⟩ (EvP.mono (by decide) (c_F_drop hT )) (fun r7 P8 g6 => mpp 472 rfl ?_)
  obtain ⟨⟨x9, rfl, g10⟩, hT11, k12, R13⟩ := g6
  have R14 := Rel.kw hR k12 rfl
  have t15 := kw_tie k12 1 rl_289 rfl
  have t16 := kw_tie k12 23 rl_301 rfl
  show MEvP _ _ lawq 472 [(3, .int i), (2, .ref 301), (1, .ref 0), (0, .long 0)] [.int x9] _ _ _ _
  refine mp_t (s_pop dL_law_472 rfl) (mpp 473 rfl ?_)
  refine mp_a (a_aload_n dL_law_473 rfl) (mpp 474 rfl ?_)
  refine mp_a (a_aload_nT dL_law_474 rfl) (mpp 475 rfl ?_)
  refine mp_a (a_iload_n dL_law_475 rfl) (mpp 476 rfl ?_)
  refine mp_a (a_iconst (v := 1) dL_law_476 rfl) (mpp 477 rfl ?_)
  refine mp_t (s_iadd (v := z1) dL_law_477 h2) (mpp 478 rfl ?_)
  refine mp_sld (v := w4) (N := xs.length) dL_law_478 rfl (t_ix (by omega) (by omega)) h5 (mpp 479 rfl ?_)
  refine mt_callv (i := 55) (q' := q_192) (As := [.int w4]) (rest := []) hT11 dL_law_479 rfl qm_192 (by decide) rfl rl_301 (by decide) rfl (Nat.le_of_ble_eq_true rfl) rfl ⟨rfl, rfl⟩ ⟨Nat.le_of_ble_eq_true rfl, Nat.le_of_ble_eq_true rfl⟩ (EvP.mono (by decide) (c_M_drop hT11 R14 )) (fun r18 P19 g17 => mpp 482 rfl ?_)
  obtain ⟨⟨x20, rfl, g21⟩, hT22, k23, R24⟩ := g17
  have t25 := kw_tie k23 1 rl_289 rfl
  have t26 := kw_tie k23 23 rl_301 rfl
  show MEvP _ _ lawq 482 [(3, .int i), (2, .ref 301), (1, .ref 0), (0, .long 0)] [.int x20] _ _ _ _
  refine mp_t (s_pop dL_law_482 rfl) (mpp 483 rfl ?_)
  refine mp_a (a_goto (t := 992) dL_law_483 (by decide)) ?_
  exact kk _ ⟨hT22, R24, by omega⟩

set_option maxHeartbeats 4000000 in
theorem law_c10 {xs : List Int32} (hn : xs.length ≤ 2048) {i : Int32} (h0 : 0 ≤ i.toInt) (h4 : i.toInt + 4 ≤ xs.length) {P : mP} (hT : Typ P) (hR : Rel P) (hL : (fv P 289 1).toInt = (fv P 301 23).toInt) (kk : ∀ P' : mP, LI P' → MEvP 15 (some xs) lawq 992 [(3, .int i), (2, .ref 301), (1, .ref 0), (0, .long 0)] [] P' 315 4038 (fun r _ => r = some (.int 1))) : MEvP 15 (some xs) lawq 486 [(3, .int i), (2, .ref 301), (1, .ref 0), (0, .long 0)] [] P 315 4038 (fun r _ => r = some (.int 1)) := by
  refine mp_a (a_aload_n dL_law_486 rfl) (mpp 487 rfl ?_)
  refine mp_a (a_aload_nT dL_law_487 rfl) (mpp 488 rfl ?_)
  refine mp_a (a_iload_n dL_law_488 rfl) (mpp 489 rfl ?_)
  refine mp_a (a_iconst (v := 1) dL_law_489 rfl) (mpp 490 rfl ?_)
  obtain ⟨z1, h2⟩ := ti_ex (i + 1 : Int32)
  have e3 : z1.toInt = i.toInt + 1 := ti_addz h2 rfl rfl (by omega) (by omega)
  refine mp_t (s_iadd (v := z1) dL_law_490 h2) (mpp 491 rfl ?_)
  obtain ⟨w4, h5⟩ := ti_ex (xs.getD z1.toNatClampNeg 0)
  refine mp_sld (v := w4) (N := xs.length) dL_law_491 rfl (t_ix (by omega) (by omega)) h5 (mpp 492 rfl ?_)
  refine mp_a (a_aload_nT dL_law_492 rfl) (mpp 493 rfl ?_)
  refine mp_a (a_iload_n dL_law_493 rfl) (mpp 494 rfl ?_)
  refine mp_a (a_iconst (v := 2) dL_law_494 rfl) (mpp 495 rfl ?_)
  obtain ⟨z6, h7⟩ := ti_ex (i + 2 : Int32)
  have e8 : z6.toInt = i.toInt + 2 := ti_addz h7 rfl rfl (by omega) (by omega)
  refine mp_t (s_iadd (v := z6) dL_law_495 h7) (mpp 496 rfl ?_)
  obtain ⟨w9, h10⟩ := ti_ex (xs.getD z6.toNatClampNeg 0)
  refine mp_sld (v := w9) (N := xs.length) dL_law_496 rfl (t_ix (by omega) (by omega)) h10 (mpp 497 rfl ?_)
  refine mt_callv (i := 56) (q' := q_58) (As := [.int w4, .int w9]) (rest := []) hT dL_law_497 rfl qm_58 (by decide) rfl rl_0 (by decide) rfl (Nat.le_of_ble_eq_true rfl) rfl ⟨rfl, rfl⟩ ⟨Nat.le_of_ble_eq_true rfl, Nat.le_of_ble_eq_true rfl⟩ (EvP.mono (by decide) (c_F_piece hT )) (fun r12 P13 g11 => mpp 500 rfl ?_)
  obtain ⟨⟨x14, rfl, g15⟩, e16⟩ := g11
  have e16 := e16.symm
  subst e16
  show MEvP _ _ lawq 500 [(3, .int i), (2, .ref 301), (1, .ref 0), (0, .long 0)] [.int x14] _ _ _ _
  refine mp_t (s_pop dL_law_500 rfl) (mpp 501 rfl ?_)
  refine mp_a (a_aload_n dL_law_501 rfl) (mpp 502 rfl ?_)
  refine mp_a (a_aload_nT dL_law_502 rfl) (mpp 503 rfl ?_)
  refine mp_a (a_iload_n dL_law_503 rfl) (mpp 504 rfl ?_)
  refine mp_a (a_iconst (v := 1) dL_law_504 rfl) (mpp 505 rfl ?_)
  refine mp_t (s_iadd (v := z1) dL_law_505 h2) (mpp 506 rfl ?_)
  refine mp_sld (v := w4) (N := xs.length) dL_law_506 rfl (t_ix (by omega) (by omega)) h5 (mpp 507 rfl ?_)
  refine mp_a (a_aload_nT dL_law_507 rfl) (mpp 508 rfl ?_)
  refine mp_a (a_iload_n dL_law_508 rfl) (mpp 509 rfl ?_)
  refine mp_a (a_iconst (v := 2) dL_law_509 rfl) (mpp 510 rfl ?_)
  refine mp_t (s_iadd (v := z6) dL_law_510 h7) (mpp 511 rfl ?_)
  refine mp_sld (v := w9) (N := xs.length) dL_law_511 rfl (t_ix (by omega) (by omega)) h10 (mpp 512 rfl ?_)
  refine mt_callv (i := 59) (q' := q_194) (As := [.int w4, .int w9]) (rest := []) hT dL_law_512 rfl qm_194 (by decide) rfl rl_301 (by decide) rfl (Nat.le_of_ble_eq_true rfl) rfl ⟨rfl, rfl⟩ ⟨Nat.le_of_ble_eq_true rfl, Nat.le_of_ble_eq_true rfl⟩ (EvP.mono (by decide) (c_M_piece hT )) (fun r18 P19 g17 => mpp 515 rfl ?_)
  obtain ⟨⟨x20, rfl, g21⟩, e22⟩ := g17
  have e22 := e22.symm
  subst e22
  show MEvP _ _ lawq 515 [(3, .int i), (2, .ref 301), (1, .ref 0), (0, .long 0)] [.int x20] _ _ _ _
  refine mp_t (s_pop dL_law_515 rfl) (mpp 516 rfl ?_)
  refine mp_a (a_goto (t := 992) dL_law_516 (by decide)) ?_
  exact kk _ ⟨hT, hR, by omega⟩

set_option maxHeartbeats 4000000 in
theorem law_c11 {xs : List Int32} (hn : xs.length ≤ 2048) {i : Int32} (h0 : 0 ≤ i.toInt) (h4 : i.toInt + 4 ≤ xs.length) {P : mP} (hT : Typ P) (hR : Rel P) (hL : (fv P 289 1).toInt = (fv P 301 23).toInt) (kk : ∀ P' : mP, LI P' → MEvP 15 (some xs) lawq 992 [(3, .int i), (2, .ref 301), (1, .ref 0), (0, .long 0)] [] P' 315 4038 (fun r _ => r = some (.int 1))) : MEvP 15 (some xs) lawq 519 [(3, .int i), (2, .ref 301), (1, .ref 0), (0, .long 0)] [] P 315 4038 (fun r _ => r = some (.int 1)) := by
  refine mp_a (a_aload_n dL_law_519 rfl) (mpp 520 rfl ?_)
  refine mp_a (a_aload_nT dL_law_520 rfl) (mpp 521 rfl ?_)
  refine mp_a (a_iload_n dL_law_521 rfl) (mpp 522 rfl ?_)
  refine mp_a (a_iconst (v := 1) dL_law_522 rfl) (mpp 523 rfl ?_)
  obtain ⟨z1, h2⟩ := ti_ex (i + 1 : Int32)
  have e3 : z1.toInt = i.toInt + 1 := ti_addz h2 rfl rfl (by omega) (by omega)
  refine mp_t (s_iadd (v := z1) dL_law_523 h2) (mpp 524 rfl ?_)
  obtain ⟨w4, h5⟩ := ti_ex (xs.getD z1.toNatClampNeg 0)
  refine mp_sld (v := w4) (N := xs.length) dL_law_524 rfl (t_ix (by omega) (by omega)) h5 (mpp 525 rfl ?_)
  refine mp_a (a_aload_nT dL_law_525 rfl) (mpp 526 rfl ?_)
  refine mp_a (a_iload_n dL_law_526 rfl) (mpp 527 rfl ?_)
  refine mp_a (a_iconst (v := 2) dL_law_527 rfl) (mpp 528 rfl ?_)
  obtain ⟨z6, h7⟩ := ti_ex (i + 2 : Int32)
  have e8 : z6.toInt = i.toInt + 2 := ti_addz h7 rfl rfl (by omega) (by omega)
  refine mp_t (s_iadd (v := z6) dL_law_528 h7) (mpp 529 rfl ?_)
  obtain ⟨w9, h10⟩ := ti_ex (xs.getD z6.toNatClampNeg 0)
  refine mp_sld (v := w9) (N := xs.length) dL_law_529 rfl (t_ix (by omega) (by omega)) h10 (mpp 530 rfl ?_)
  refine mt_callv (i := 60) (q' := q_59) (As := [.int w4, .int w9]) (rest := []) hT dL_law_530 rfl qm_59 (by decide) rfl rl_0 (by decide) rfl (Nat.le_of_ble_eq_true rfl) rfl ⟨rfl, rfl⟩ ⟨Nat.le_of_ble_eq_true rfl, Nat.le_of_ble_eq_true rfl⟩ (EvP.mono (by decide) (c_F_size hT )) (fun r12 P13 g11 => mpp 533 rfl ?_)
  obtain ⟨⟨x14, rfl, g15⟩, e16⟩ := g11
  have e16 := e16.symm
  subst e16
  show MEvP _ _ lawq 533 [(3, .int i), (2, .ref 301), (1, .ref 0), (0, .long 0)] [.int x14] _ _ _ _
  refine mp_t (s_pop dL_law_533 rfl) (mpp 534 rfl ?_)
  refine mp_a (a_aload_n dL_law_534 rfl) (mpp 535 rfl ?_)
  refine mp_a (a_aload_nT dL_law_535 rfl) (mpp 536 rfl ?_)
  refine mp_a (a_iload_n dL_law_536 rfl) (mpp 537 rfl ?_)
  refine mp_a (a_iconst (v := 1) dL_law_537 rfl) (mpp 538 rfl ?_)
  refine mp_t (s_iadd (v := z1) dL_law_538 h2) (mpp 539 rfl ?_)
  refine mp_sld (v := w4) (N := xs.length) dL_law_539 rfl (t_ix (by omega) (by omega)) h5 (mpp 540 rfl ?_)
  refine mp_a (a_aload_nT dL_law_540 rfl) (mpp 541 rfl ?_)
  refine mp_a (a_iload_n dL_law_541 rfl) (mpp 542 rfl ?_)
  refine mp_a (a_iconst (v := 2) dL_law_542 rfl) (mpp 543 rfl ?_)
  refine mp_t (s_iadd (v := z6) dL_law_543 h7) (mpp 544 rfl ?_)
  refine mp_sld (v := w9) (N := xs.length) dL_law_544 rfl (t_ix (by omega) (by omega)) h10 (mpp 545 rfl ?_)
  refine mt_callv (i := 63) (q' := q_196) (As := [.int w4, .int w9]) (rest := []) hT dL_law_545 rfl qm_196 (by decide) rfl rl_301 (by decide) rfl (Nat.le_of_ble_eq_true rfl) rfl ⟨rfl, rfl⟩ ⟨Nat.le_of_ble_eq_true rfl, Nat.le_of_ble_eq_true rfl⟩ (EvP.mono (by decide) (c_M_size hT )) (fun r18 P19 g17 => mpp 548 rfl ?_)
  obtain ⟨⟨x20, rfl, g21⟩, e22⟩ := g17
  have e22 := e22.symm
  subst e22
  show MEvP _ _ lawq 548 [(3, .int i), (2, .ref 301), (1, .ref 0), (0, .long 0)] [.int x20] _ _ _ _
  refine mp_t (s_pop dL_law_548 rfl) (mpp 549 rfl ?_)
  refine mp_a (a_goto (t := 992) dL_law_549 (by decide)) ?_
  exact kk _ ⟨hT, hR, by omega⟩

set_option maxHeartbeats 4000000 in
theorem law_c12 {xs : List Int32} (hn : xs.length ≤ 2048) {i : Int32} (h0 : 0 ≤ i.toInt) (h4 : i.toInt + 4 ≤ xs.length) {P : mP} (hT : Typ P) (hR : Rel P) (hL : (fv P 289 1).toInt = (fv P 301 23).toInt) (kk : ∀ P' : mP, LI P' → MEvP 15 (some xs) lawq 992 [(3, .int i), (2, .ref 301), (1, .ref 0), (0, .long 0)] [] P' 315 4038 (fun r _ => r = some (.int 1))) : MEvP 15 (some xs) lawq 552 [(3, .int i), (2, .ref 301), (1, .ref 0), (0, .long 0)] [] P 315 4038 (fun r _ => r = some (.int 1)) := by
  refine mp_a (a_aload_n dL_law_552 rfl) (mpp 553 rfl ?_)
  refine mp_a (a_aload_nT dL_law_553 rfl) (mpp 554 rfl ?_)
  refine mp_a (a_iload_n dL_law_554 rfl) (mpp 555 rfl ?_)
  refine mp_a (a_iconst (v := 1) dL_law_555 rfl) (mpp 556 rfl ?_)
  obtain ⟨z1, h2⟩ := ti_ex (i + 1 : Int32)
  have e3 : z1.toInt = i.toInt + 1 := ti_addz h2 rfl rfl (by omega) (by omega)
  refine mp_t (s_iadd (v := z1) dL_law_556 h2) (mpp 557 rfl ?_)
  obtain ⟨w4, h5⟩ := ti_ex (xs.getD z1.toNatClampNeg 0)
  refine mp_sld (v := w4) (N := xs.length) dL_law_557 rfl (t_ix (by omega) (by omega)) h5 (mpp 558 rfl ?_)
  refine mp_a (a_aload_nT dL_law_558 rfl) (mpp 559 rfl ?_)
  refine mp_a (a_iload_n dL_law_559 rfl) (mpp 560 rfl ?_)
  refine mp_a (a_iconst (v := 2) dL_law_560 rfl) (mpp 561 rfl ?_)
  obtain ⟨z6, h7⟩ := ti_ex (i + 2 : Int32)
  have e8 : z6.toInt = i.toInt + 2 := ti_addz h7 rfl rfl (by omega) (by omega)
  refine mp_t (s_iadd (v := z6) dL_law_561 h7) (mpp 562 rfl ?_)
  obtain ⟨w9, h10⟩ := ti_ex (xs.getD z6.toNatClampNeg 0)
  refine mp_sld (v := w9) (N := xs.length) dL_law_562 rfl (t_ix (by omega) (by omega)) h10 (mpp 563 rfl ?_)
  refine mt_callv (i := 64) (q' := q_60) (As := [.int w4, .int w9]) (rest := []) hT dL_law_563 rfl qm_60 (by decide) rfl rl_0 (by decide) rfl (Nat.le_of_ble_eq_true rfl) rfl ⟨rfl, rfl⟩ ⟨Nat.le_of_ble_eq_true rfl, Nat.le_of_ble_eq_true rfl⟩ (EvP.mono (by decide) (c_F_crease hT )) (fun r12 P13 g11 => mpp 566 rfl ?_)
  obtain ⟨⟨x14, rfl, g15⟩, e16⟩ := g11
  have e16 := e16.symm
  subst e16
  show MEvP _ _ lawq 566 [(3, .int i), (2, .ref 301), (1, .ref 0), (0, .long 0)] [.int x14] _ _ _ _
  refine mp_t (s_pop dL_law_566 rfl) (mpp 567 rfl ?_)
  refine mp_a (a_aload_n dL_law_567 rfl) (mpp 568 rfl ?_)
  refine mp_a (a_aload_nT dL_law_568 rfl) (mpp 569 rfl ?_)
  refine mp_a (a_iload_n dL_law_569 rfl) (mpp 570 rfl ?_)
  refine mp_a (a_iconst (v := 1) dL_law_570 rfl) (mpp 571 rfl ?_)
  refine mp_t (s_iadd (v := z1) dL_law_571 h2) (mpp 572 rfl ?_)
  refine mp_sld (v := w4) (N := xs.length) dL_law_572 rfl (t_ix (by omega) (by omega)) h5 (mpp 573 rfl ?_)
  refine mp_a (a_aload_nT dL_law_573 rfl) (mpp 574 rfl ?_)
  refine mp_a (a_iload_n dL_law_574 rfl) (mpp 575 rfl ?_)
  refine mp_a (a_iconst (v := 2) dL_law_575 rfl) (mpp 576 rfl ?_)
  refine mp_t (s_iadd (v := z6) dL_law_576 h7) (mpp 577 rfl ?_)
  refine mp_sld (v := w9) (N := xs.length) dL_law_577 rfl (t_ix (by omega) (by omega)) h10 (mpp 578 rfl ?_)
  refine mt_callv (i := 67) (q' := q_197) (As := [.int w4, .int w9]) (rest := []) hT dL_law_578 rfl qm_197 (by decide) rfl rl_301 (by decide) rfl (Nat.le_of_ble_eq_true rfl) rfl ⟨rfl, rfl⟩ ⟨Nat.le_of_ble_eq_true rfl, Nat.le_of_ble_eq_true rfl⟩ (EvP.mono (by decide) (c_M_crease hT )) (fun r18 P19 g17 => mpp 581 rfl ?_)
  obtain ⟨⟨x20, rfl, g21⟩, e22⟩ := g17
  have e22 := e22.symm
  subst e22
  show MEvP _ _ lawq 581 [(3, .int i), (2, .ref 301), (1, .ref 0), (0, .long 0)] [.int x20] _ _ _ _
  refine mp_t (s_pop dL_law_581 rfl) (mpp 582 rfl ?_)
  refine mp_a (a_goto (t := 992) dL_law_582 (by decide)) ?_
  exact kk _ ⟨hT, hR, by omega⟩

set_option maxHeartbeats 4000000 in
theorem law_c13 {xs : List Int32} (hn : xs.length ≤ 2048) {i : Int32} (h0 : 0 ≤ i.toInt) (h4 : i.toInt + 4 ≤ xs.length) {P : mP} (hT : Typ P) (hR : Rel P) (hL : (fv P 289 1).toInt = (fv P 301 23).toInt) (kk : ∀ P' : mP, LI P' → MEvP 15 (some xs) lawq 992 [(3, .int i), (2, .ref 301), (1, .ref 0), (0, .long 0)] [] P' 315 4038 (fun r _ => r = some (.int 1))) : MEvP 15 (some xs) lawq 585 [(3, .int i), (2, .ref 301), (1, .ref 0), (0, .long 0)] [] P 315 4038 (fun r _ => r = some (.int 1)) := by
  refine mp_a (a_aload_n dL_law_585 rfl) (mpp 586 rfl ?_)
  refine mp_a (a_aload_nT dL_law_586 rfl) (mpp 587 rfl ?_)
  refine mp_a (a_iload_n dL_law_587 rfl) (mpp 588 rfl ?_)
  refine mp_a (a_iconst (v := 1) dL_law_588 rfl) (mpp 589 rfl ?_)
  obtain ⟨z1, h2⟩ := ti_ex (i + 1 : Int32)
  have e3 : z1.toInt = i.toInt + 1 := ti_addz h2 rfl rfl (by omega) (by omega)
  refine mp_t (s_iadd (v := z1) dL_law_589 h2) (mpp 590 rfl ?_)
  obtain ⟨w4, h5⟩ := ti_ex (xs.getD z1.toNatClampNeg 0)
  refine mp_sld (v := w4) (N := xs.length) dL_law_590 rfl (t_ix (by omega) (by omega)) h5 (mpp 591 rfl ?_)
  refine mt_callv (i := 68) (q' := q_61) (As := [.int w4]) (rest := []) hT dL_law_591 rfl qm_61 (by decide) rfl rl_0 (by decide) rfl (Nat.le_of_ble_eq_true rfl) rfl ⟨rfl, rfl⟩ ⟨Nat.le_of_ble_eq_true rfl, Nat.le_of_ble_eq_true rfl⟩ (EvP.mono (by decide) (c_F_why hT )) (fun r7 P8 g6 => mpp 594 rfl ?_)
  obtain ⟨⟨x9, rfl, g10⟩, hT11, k12, R13⟩ := g6
  have R14 := Rel.kw hR k12 rfl
  have t15 := kw_tie k12 1 rl_289 rfl
  have t16 := kw_tie k12 23 rl_301 rfl
  show MEvP _ _ lawq 594 [(3, .int i), (2, .ref 301), (1, .ref 0), (0, .long 0)] [.int x9] _ _ _ _
  refine mp_t (s_pop dL_law_594 rfl) (mpp 595 rfl ?_)
  refine mp_a (a_aload_n dL_law_595 rfl) (mpp 596 rfl ?_)
  refine mp_a (a_aload_nT dL_law_596 rfl) (mpp 597 rfl ?_)
  refine mp_a (a_iload_n dL_law_597 rfl) (mpp 598 rfl ?_)
  refine mp_a (a_iconst (v := 1) dL_law_598 rfl) (mpp 599 rfl ?_)
  refine mp_t (s_iadd (v := z1) dL_law_599 h2) (mpp 600 rfl ?_)
  refine mp_sld (v := w4) (N := xs.length) dL_law_600 rfl (t_ix (by omega) (by omega)) h5 (mpp 601 rfl ?_)
  refine mt_callv (i := 71) (q' := q_159) (As := [.int w4]) (rest := []) hT11 dL_law_601 rfl qm_159 (by decide) rfl rl_301 (by decide) rfl (Nat.le_of_ble_eq_true rfl) rfl ⟨rfl, rfl⟩ ⟨Nat.le_of_ble_eq_true rfl, Nat.le_of_ble_eq_true rfl⟩ (EvP.mono (by decide) (c_M_why hT11 )) (fun r18 P19 g17 => mpp 604 rfl ?_)
  obtain ⟨⟨x20, rfl, g21⟩, hT22, k23, R24⟩ := g17
  have R25 := Rel.kw R14 k23 rfl
  have t26 := kw_tie k23 1 rl_289 rfl
  have t27 := kw_tie k23 23 rl_301 rfl
  show MEvP _ _ lawq 604 [(3, .int i), (2, .ref 301), (1, .ref 0), (0, .long 0)] [.int x20] _ _ _ _
  refine mp_t (s_pop dL_law_604 rfl) (mpp 605 rfl ?_)
  refine mp_a (a_goto (t := 992) dL_law_605 (by decide)) ?_
  exact kk _ ⟨hT22, R25, by omega⟩

set_option maxHeartbeats 4000000 in
theorem law_c14 {xs : List Int32} (hn : xs.length ≤ 2048) {i : Int32} (h0 : 0 ≤ i.toInt) (h4 : i.toInt + 4 ≤ xs.length) {P : mP} (hT : Typ P) (hR : Rel P) (hL : (fv P 289 1).toInt = (fv P 301 23).toInt) (kk : ∀ P' : mP, LI P' → MEvP 15 (some xs) lawq 992 [(3, .int i), (2, .ref 301), (1, .ref 0), (0, .long 0)] [] P' 315 4038 (fun r _ => r = some (.int 1))) : MEvP 15 (some xs) lawq 608 [(3, .int i), (2, .ref 301), (1, .ref 0), (0, .long 0)] [] P 315 4038 (fun r _ => r = some (.int 1)) := by
  refine mp_a (a_aload_n dL_law_608 rfl) (mpp 609 rfl ?_)
  refine mp_a (a_aload_nT dL_law_609 rfl) (mpp 610 rfl ?_)
  refine mp_a (a_iload_n dL_law_610 rfl) (mpp 611 rfl ?_)
  refine mp_a (a_iconst (v := 1) dL_law_611 rfl) (mpp 612 rfl ?_)
  obtain ⟨z1, h2⟩ := ti_ex (i + 1 : Int32)
  have e3 : z1.toInt = i.toInt + 1 := ti_addz h2 rfl rfl (by omega) (by omega)
  refine mp_t (s_iadd (v := z1) dL_law_612 h2) (mpp 613 rfl ?_)
  obtain ⟨w4, h5⟩ := ti_ex (xs.getD z1.toNatClampNeg 0)
  refine mp_sld (v := w4) (N := xs.length) dL_law_613 rfl (t_ix (by omega) (by omega)) h5 (mpp 614 rfl ?_)
  refine mt_callv (i := 72) (q' := q_62) (As := [.int w4]) (rest := []) hT dL_law_614 rfl qm_62 (by decide) rfl rl_0 (by decide) rfl (Nat.le_of_ble_eq_true rfl) rfl ⟨rfl, rfl⟩ ⟨Nat.le_of_ble_eq_true rfl, Nat.le_of_ble_eq_true rfl⟩ (EvP.mono (by decide) (c_F_foldsAgain hT )) (fun r7 P8 g6 => mpp 617 rfl ?_)
  obtain ⟨⟨x9, rfl, g10⟩, hT11, k12, R13⟩ := g6
  have R14 := Rel.kw hR k12 rfl
  have t15 := kw_tie k12 1 rl_289 rfl
  have t16 := kw_tie k12 23 rl_301 rfl
  show MEvP _ _ lawq 617 [(3, .int i), (2, .ref 301), (1, .ref 0), (0, .long 0)] [.int x9] _ _ _ _
  refine mp_t (s_pop dL_law_617 rfl) (mpp 618 rfl ?_)
  refine mp_a (a_aload_n dL_law_618 rfl) (mpp 619 rfl ?_)
  refine mp_a (a_aload_nT dL_law_619 rfl) (mpp 620 rfl ?_)
  refine mp_a (a_iload_n dL_law_620 rfl) (mpp 621 rfl ?_)
  refine mp_a (a_iconst (v := 1) dL_law_621 rfl) (mpp 622 rfl ?_)
  refine mp_t (s_iadd (v := z1) dL_law_622 h2) (mpp 623 rfl ?_)
  refine mp_sld (v := w4) (N := xs.length) dL_law_623 rfl (t_ix (by omega) (by omega)) h5 (mpp 624 rfl ?_)
  refine mt_callv (i := 75) (q' := q_198) (As := [.int w4]) (rest := []) hT11 dL_law_624 rfl qm_198 (by decide) rfl rl_301 (by decide) rfl (Nat.le_of_ble_eq_true rfl) rfl ⟨rfl, rfl⟩ ⟨Nat.le_of_ble_eq_true rfl, Nat.le_of_ble_eq_true rfl⟩ (EvP.mono (by decide) (c_M_foldsAgain hT11 R14 )) (fun r18 P19 g17 => mpp 627 rfl ?_)
  obtain ⟨⟨x20, rfl, g21⟩, hT22, k23, R24⟩ := g17
  have t25 := kw_tie k23 1 rl_289 rfl
  have t26 := kw_tie k23 23 rl_301 rfl
  show MEvP _ _ lawq 627 [(3, .int i), (2, .ref 301), (1, .ref 0), (0, .long 0)] [.int x20] _ _ _ _
  refine mp_t (s_pop dL_law_627 rfl) (mpp 628 rfl ?_)
  refine mp_a (a_goto (t := 992) dL_law_628 (by decide)) ?_
  exact kk _ ⟨hT22, R24, by omega⟩

set_option maxHeartbeats 4000000 in
theorem law_c15 {xs : List Int32} (hn : xs.length ≤ 2048) {i : Int32} (h0 : 0 ≤ i.toInt) (h4 : i.toInt + 4 ≤ xs.length) {P : mP} (hT : Typ P) (hR : Rel P) (hL : (fv P 289 1).toInt = (fv P 301 23).toInt) (kk : ∀ P' : mP, LI P' → MEvP 15 (some xs) lawq 992 [(3, .int i), (2, .ref 301), (1, .ref 0), (0, .long 0)] [] P' 315 4038 (fun r _ => r = some (.int 1))) : MEvP 15 (some xs) lawq 631 [(3, .int i), (2, .ref 301), (1, .ref 0), (0, .long 0)] [] P 315 4038 (fun r _ => r = some (.int 1)) := by
  refine mp_a (a_aload_n dL_law_631 rfl) (mpp 632 rfl ?_)
  refine mp_a (a_aload_nT dL_law_632 rfl) (mpp 633 rfl ?_)
  refine mp_a (a_iload_n dL_law_633 rfl) (mpp 634 rfl ?_)
  refine mp_a (a_iconst (v := 1) dL_law_634 rfl) (mpp 635 rfl ?_)
  obtain ⟨z1, h2⟩ := ti_ex (i + 1 : Int32)
  have e3 : z1.toInt = i.toInt + 1 := ti_addz h2 rfl rfl (by omega) (by omega)
  refine mp_t (s_iadd (v := z1) dL_law_635 h2) (mpp 636 rfl ?_)
  obtain ⟨w4, h5⟩ := ti_ex (xs.getD z1.toNatClampNeg 0)
  refine mp_sld (v := w4) (N := xs.length) dL_law_636 rfl (t_ix (by omega) (by omega)) h5 (mpp 637 rfl ?_)
  refine mt_callv (i := 76) (q' := q_73) (As := [.int w4]) (rest := []) hT dL_law_637 rfl qm_73 (by decide) rfl rl_0 (by decide) rfl (Nat.le_of_ble_eq_true rfl) rfl ⟨rfl, rfl⟩ ⟨Nat.le_of_ble_eq_true rfl, Nat.le_of_ble_eq_true rfl⟩ (EvP.mono (by decide) (c_F_step hT )) (fun r7 P8 g6 => mpp 640 rfl ?_)
  obtain ⟨⟨x9, rfl, g10⟩, hT11, k12, R13⟩ := g6
  have R14 := Rel.kw hR k12 rfl
  have t15 := kw_tie k12 1 rl_289 rfl
  have t16 := kw_tie k12 23 rl_301 rfl
  show MEvP _ _ lawq 640 [(3, .int i), (2, .ref 301), (1, .ref 0), (0, .long 0)] [.int x9] _ _ _ _
  refine mp_t (s_pop dL_law_640 rfl) (mpp 641 rfl ?_)
  refine mp_a (a_aload_n dL_law_641 rfl) (mpp 642 rfl ?_)
  refine mp_a (a_aload_nT dL_law_642 rfl) (mpp 643 rfl ?_)
  refine mp_a (a_iload_n dL_law_643 rfl) (mpp 644 rfl ?_)
  refine mp_a (a_iconst (v := 1) dL_law_644 rfl) (mpp 645 rfl ?_)
  refine mp_t (s_iadd (v := z1) dL_law_645 h2) (mpp 646 rfl ?_)
  refine mp_sld (v := w4) (N := xs.length) dL_law_646 rfl (t_ix (by omega) (by omega)) h5 (mpp 647 rfl ?_)
  refine mt_callv (i := 79) (q' := q_175) (As := [.int w4]) (rest := []) hT11 dL_law_647 rfl qm_175 (by decide) rfl rl_301 (by decide) rfl (Nat.le_of_ble_eq_true rfl) rfl ⟨rfl, rfl⟩ ⟨Nat.le_of_ble_eq_true rfl, Nat.le_of_ble_eq_true rfl⟩ (EvP.mono (by decide) (c_M_step hT11 )) (fun r18 P19 g17 => mpp 650 rfl ?_)
  obtain ⟨⟨x20, rfl, g21⟩, hT22, k23, R24⟩ := g17
  have R25 := Rel.kw R14 k23 rfl
  have t26 := kw_tie k23 1 rl_289 rfl
  have t27 := kw_tie k23 23 rl_301 rfl
  show MEvP _ _ lawq 650 [(3, .int i), (2, .ref 301), (1, .ref 0), (0, .long 0)] [.int x20] _ _ _ _
  refine mp_t (s_pop dL_law_650 rfl) (mpp 651 rfl ?_)
  refine mp_a (a_goto (t := 992) dL_law_651 (by decide)) ?_
  exact kk _ ⟨hT22, R25, by omega⟩

set_option maxHeartbeats 4000000 in
theorem law_c16 {xs : List Int32} (hn : xs.length ≤ 2048) {i : Int32} (h0 : 0 ≤ i.toInt) (h4 : i.toInt + 4 ≤ xs.length) {P : mP} (hT : Typ P) (hR : Rel P) (hL : (fv P 289 1).toInt = (fv P 301 23).toInt) (kk : ∀ P' : mP, LI P' → MEvP 15 (some xs) lawq 992 [(3, .int i), (2, .ref 301), (1, .ref 0), (0, .long 0)] [] P' 315 4038 (fun r _ => r = some (.int 1))) : MEvP 15 (some xs) lawq 654 [(3, .int i), (2, .ref 301), (1, .ref 0), (0, .long 0)] [] P 315 4038 (fun r _ => r = some (.int 1)) := by
  refine mp_a (a_aload_n dL_law_654 rfl) (mpp 655 rfl ?_)
  refine mp_a (a_aload_nT dL_law_655 rfl) (mpp 656 rfl ?_)
  refine mp_a (a_iload_n dL_law_656 rfl) (mpp 657 rfl ?_)
  refine mp_a (a_iconst (v := 1) dL_law_657 rfl) (mpp 658 rfl ?_)
  obtain ⟨z1, h2⟩ := ti_ex (i + 1 : Int32)
  have e3 : z1.toInt = i.toInt + 1 := ti_addz h2 rfl rfl (by omega) (by omega)
  refine mp_t (s_iadd (v := z1) dL_law_658 h2) (mpp 659 rfl ?_)
  obtain ⟨w4, h5⟩ := ti_ex (xs.getD z1.toNatClampNeg 0)
  refine mp_sld (v := w4) (N := xs.length) dL_law_659 rfl (t_ix (by omega) (by omega)) h5 (mpp 660 rfl ?_)
  refine mt_callv (i := 80) (q' := q_74) (As := [.int w4]) (rest := []) hT dL_law_660 rfl qm_74 (by decide) rfl rl_0 (by decide) rfl (Nat.le_of_ble_eq_true rfl) rfl ⟨rfl, rfl⟩ ⟨Nat.le_of_ble_eq_true rfl, Nat.le_of_ble_eq_true rfl⟩ (EvP.mono (by decide) (c_F_steps hT )) (fun r7 P8 g6 => mpp 663 rfl ?_)
  obtain ⟨⟨x9, rfl, g10⟩, hT11, k12, R13⟩ := g6
  have R14 := Rel.kw hR k12 rfl
  have t15 := kw_tie k12 1 rl_289 rfl
  have t16 := kw_tie k12 23 rl_301 rfl
  show MEvP _ _ lawq 663 [(3, .int i), (2, .ref 301), (1, .ref 0), (0, .long 0)] [.int x9] _ _ _ _
  refine mp_t (s_pop dL_law_663 rfl) (mpp 664 rfl ?_)
  refine mp_a (a_aload_n dL_law_664 rfl) (mpp 665 rfl ?_)
  refine mp_a (a_aload_nT dL_law_665 rfl) (mpp 666 rfl ?_)
  refine mp_a (a_iload_n dL_law_666 rfl) (mpp 667 rfl ?_)
  refine mp_a (a_iconst (v := 1) dL_law_667 rfl) (mpp 668 rfl ?_)
  refine mp_t (s_iadd (v := z1) dL_law_668 h2) (mpp 669 rfl ?_)
  refine mp_sld (v := w4) (N := xs.length) dL_law_669 rfl (t_ix (by omega) (by omega)) h5 (mpp 670 rfl ?_)
  refine mt_callv (i := 83) (q' := q_176) (As := [.int w4]) (rest := []) hT11 dL_law_670 rfl qm_176 (by decide) rfl rl_301 (by decide) rfl (Nat.le_of_ble_eq_true rfl) rfl ⟨rfl, rfl⟩ ⟨Nat.le_of_ble_eq_true rfl, Nat.le_of_ble_eq_true rfl⟩ (EvP.mono (by decide) (c_M_steps hT11 )) (fun r18 P19 g17 => mpp 673 rfl ?_)
  obtain ⟨⟨x20, rfl, g21⟩, hT22, k23, R24⟩ := g17
  have R25 := Rel.kw R14 k23 rfl
  have t26 := kw_tie k23 1 rl_289 rfl
  have t27 := kw_tie k23 23 rl_301 rfl
  show MEvP _ _ lawq 673 [(3, .int i), (2, .ref 301), (1, .ref 0), (0, .long 0)] [.int x20] _ _ _ _
  refine mp_t (s_pop dL_law_673 rfl) (mpp 674 rfl ?_)
  refine mp_a (a_goto (t := 992) dL_law_674 (by decide)) ?_
  exact kk _ ⟨hT22, R25, by omega⟩

set_option maxHeartbeats 4000000 in
theorem law_c17 {xs : List Int32} (hn : xs.length ≤ 2048) {i : Int32} (h0 : 0 ≤ i.toInt) (h4 : i.toInt + 4 ≤ xs.length) {P : mP} (hT : Typ P) (hR : Rel P) (hL : (fv P 289 1).toInt = (fv P 301 23).toInt) (kk : ∀ P' : mP, LI P' → MEvP 15 (some xs) lawq 992 [(3, .int i), (2, .ref 301), (1, .ref 0), (0, .long 0)] [] P' 315 4038 (fun r _ => r = some (.int 1))) : MEvP 15 (some xs) lawq 677 [(3, .int i), (2, .ref 301), (1, .ref 0), (0, .long 0)] [] P 315 4038 (fun r _ => r = some (.int 1)) := by
  refine mp_a (a_aload_n dL_law_677 rfl) (mpp 678 rfl ?_)
  refine mp_a (a_aload_nT dL_law_678 rfl) (mpp 679 rfl ?_)
  refine mp_a (a_iload_n dL_law_679 rfl) (mpp 680 rfl ?_)
  refine mp_a (a_iconst (v := 1) dL_law_680 rfl) (mpp 681 rfl ?_)
  obtain ⟨z1, h2⟩ := ti_ex (i + 1 : Int32)
  have e3 : z1.toInt = i.toInt + 1 := ti_addz h2 rfl rfl (by omega) (by omega)
  refine mp_t (s_iadd (v := z1) dL_law_681 h2) (mpp 682 rfl ?_)
  obtain ⟨w4, h5⟩ := ti_ex (xs.getD z1.toNatClampNeg 0)
  refine mp_sld (v := w4) (N := xs.length) dL_law_682 rfl (t_ix (by omega) (by omega)) h5 (mpp 683 rfl ?_)
  refine mt_callv (i := 84) (q' := q_75) (As := [.int w4]) (rest := []) hT dL_law_683 rfl qm_75 (by decide) rfl rl_0 (by decide) rfl (Nat.le_of_ble_eq_true rfl) rfl ⟨rfl, rfl⟩ ⟨Nat.le_of_ble_eq_true rfl, Nat.le_of_ble_eq_true rfl⟩ (EvP.mono (by decide) (c_F_ways hT )) (fun r7 P8 g6 => mpp 686 rfl ?_)
  obtain ⟨⟨x9, rfl, g10⟩, hT11, k12, R13⟩ := g6
  have R14 := Rel.kw hR k12 rfl
  have t15 := kw_tie k12 1 rl_289 rfl
  have t16 := kw_tie k12 23 rl_301 rfl
  show MEvP _ _ lawq 686 [(3, .int i), (2, .ref 301), (1, .ref 0), (0, .long 0)] [.int x9] _ _ _ _
  refine mp_t (s_pop dL_law_686 rfl) (mpp 687 rfl ?_)
  refine mp_a (a_aload_n dL_law_687 rfl) (mpp 688 rfl ?_)
  refine mp_a (a_aload_nT dL_law_688 rfl) (mpp 689 rfl ?_)
  refine mp_a (a_iload_n dL_law_689 rfl) (mpp 690 rfl ?_)
  refine mp_a (a_iconst (v := 1) dL_law_690 rfl) (mpp 691 rfl ?_)
  refine mp_t (s_iadd (v := z1) dL_law_691 h2) (mpp 692 rfl ?_)
  refine mp_sld (v := w4) (N := xs.length) dL_law_692 rfl (t_ix (by omega) (by omega)) h5 (mpp 693 rfl ?_)
  refine mt_callv (i := 87) (q' := q_177) (As := [.int w4]) (rest := []) hT11 dL_law_693 rfl qm_177 (by decide) rfl rl_301 (by decide) rfl (Nat.le_of_ble_eq_true rfl) rfl ⟨rfl, rfl⟩ ⟨Nat.le_of_ble_eq_true rfl, Nat.le_of_ble_eq_true rfl⟩ (EvP.mono (by decide) (c_M_ways hT11 )) (fun r18 P19 g17 => mpp 696 rfl ?_)
  obtain ⟨⟨x20, rfl, g21⟩, hT22, k23, R24⟩ := g17
  have R25 := Rel.kw R14 k23 rfl
  have t26 := kw_tie k23 1 rl_289 rfl
  have t27 := kw_tie k23 23 rl_301 rfl
  show MEvP _ _ lawq 696 [(3, .int i), (2, .ref 301), (1, .ref 0), (0, .long 0)] [.int x20] _ _ _ _
  refine mp_t (s_pop dL_law_696 rfl) (mpp 697 rfl ?_)
  refine mp_a (a_goto (t := 992) dL_law_697 (by decide)) ?_
  exact kk _ ⟨hT22, R25, by omega⟩

set_option maxHeartbeats 4000000 in
theorem law_c18 {xs : List Int32} (hn : xs.length ≤ 2048) {i : Int32} (h0 : 0 ≤ i.toInt) (h4 : i.toInt + 4 ≤ xs.length) {P : mP} (hT : Typ P) (hR : Rel P) (hL : (fv P 289 1).toInt = (fv P 301 23).toInt) (kk : ∀ P' : mP, LI P' → MEvP 15 (some xs) lawq 992 [(3, .int i), (2, .ref 301), (1, .ref 0), (0, .long 0)] [] P' 315 4038 (fun r _ => r = some (.int 1))) : MEvP 15 (some xs) lawq 700 [(3, .int i), (2, .ref 301), (1, .ref 0), (0, .long 0)] [] P 315 4038 (fun r _ => r = some (.int 1)) := by
  refine mp_a (a_aload_n dL_law_700 rfl) (mpp 701 rfl ?_)
  refine mp_a (a_aload_nT dL_law_701 rfl) (mpp 702 rfl ?_)
  refine mp_a (a_iload_n dL_law_702 rfl) (mpp 703 rfl ?_)
  refine mp_a (a_iconst (v := 1) dL_law_703 rfl) (mpp 704 rfl ?_)
  obtain ⟨z1, h2⟩ := ti_ex (i + 1 : Int32)
  have e3 : z1.toInt = i.toInt + 1 := ti_addz h2 rfl rfl (by omega) (by omega)
  refine mp_t (s_iadd (v := z1) dL_law_704 h2) (mpp 705 rfl ?_)
  obtain ⟨w4, h5⟩ := ti_ex (xs.getD z1.toNatClampNeg 0)
  refine mp_sld (v := w4) (N := xs.length) dL_law_705 rfl (t_ix (by omega) (by omega)) h5 (mpp 706 rfl ?_)
  refine mt_callv (i := 88) (q' := q_80) (As := [.int w4]) (rest := []) hT dL_law_706 rfl qm_80 (by decide) rfl rl_0 (by decide) rfl (Nat.le_of_ble_eq_true rfl) rfl ⟨rfl, rfl⟩ ⟨Nat.le_of_ble_eq_true rfl, Nat.le_of_ble_eq_true rfl⟩ (EvP.mono (by decide) (c_F_fewest hT )) (fun r7 P8 g6 => mpp 709 rfl ?_)
  obtain ⟨⟨x9, rfl, g10⟩, hT11, k12, R13⟩ := g6
  have R14 := Rel.kw hR k12 rfl
  have t15 := kw_tie k12 1 rl_289 rfl
  have t16 := kw_tie k12 23 rl_301 rfl
  show MEvP _ _ lawq 709 [(3, .int i), (2, .ref 301), (1, .ref 0), (0, .long 0)] [.int x9] _ _ _ _
  refine mp_t (s_pop dL_law_709 rfl) (mpp 710 rfl ?_)
  refine mp_a (a_aload_n dL_law_710 rfl) (mpp 711 rfl ?_)
  refine mp_a (a_aload_nT dL_law_711 rfl) (mpp 712 rfl ?_)
  refine mp_a (a_iload_n dL_law_712 rfl) (mpp 713 rfl ?_)
  refine mp_a (a_iconst (v := 1) dL_law_713 rfl) (mpp 714 rfl ?_)
  refine mp_t (s_iadd (v := z1) dL_law_714 h2) (mpp 715 rfl ?_)
  refine mp_sld (v := w4) (N := xs.length) dL_law_715 rfl (t_ix (by omega) (by omega)) h5 (mpp 716 rfl ?_)
  refine mt_callv (i := 91) (q' := q_181) (As := [.int w4]) (rest := []) hT11 dL_law_716 rfl qm_181 (by decide) rfl rl_301 (by decide) rfl (Nat.le_of_ble_eq_true rfl) rfl ⟨rfl, rfl⟩ ⟨Nat.le_of_ble_eq_true rfl, Nat.le_of_ble_eq_true rfl⟩ (EvP.mono (by decide) (c_M_fewest hT11 )) (fun r18 P19 g17 => mpp 719 rfl ?_)
  obtain ⟨⟨x20, rfl, g21⟩, hT22, k23, R24⟩ := g17
  have R25 := Rel.kw R14 k23 rfl
  have t26 := kw_tie k23 1 rl_289 rfl
  have t27 := kw_tie k23 23 rl_301 rfl
  show MEvP _ _ lawq 719 [(3, .int i), (2, .ref 301), (1, .ref 0), (0, .long 0)] [.int x20] _ _ _ _
  refine mp_t (s_pop dL_law_719 rfl) (mpp 720 rfl ?_)
  refine mp_a (a_goto (t := 992) dL_law_720 (by decide)) ?_
  exact kk _ ⟨hT22, R25, by omega⟩

set_option maxHeartbeats 4000000 in
theorem law_c19 {xs : List Int32} (hn : xs.length ≤ 2048) {i : Int32} (h0 : 0 ≤ i.toInt) (h4 : i.toInt + 4 ≤ xs.length) {P : mP} (hT : Typ P) (hR : Rel P) (hL : (fv P 289 1).toInt = (fv P 301 23).toInt) (kk : ∀ P' : mP, LI P' → MEvP 15 (some xs) lawq 992 [(3, .int i), (2, .ref 301), (1, .ref 0), (0, .long 0)] [] P' 315 4038 (fun r _ => r = some (.int 1))) : MEvP 15 (some xs) lawq 723 [(3, .int i), (2, .ref 301), (1, .ref 0), (0, .long 0)] [] P 315 4038 (fun r _ => r = some (.int 1)) := by
  refine mp_a (a_aload_n dL_law_723 rfl) (mpp 724 rfl ?_)
  refine mp_a (a_aload_nT dL_law_724 rfl) (mpp 725 rfl ?_)
  refine mp_a (a_iload_n dL_law_725 rfl) (mpp 726 rfl ?_)
  refine mp_a (a_iconst (v := 1) dL_law_726 rfl) (mpp 727 rfl ?_)
  obtain ⟨z1, h2⟩ := ti_ex (i + 1 : Int32)
  have e3 : z1.toInt = i.toInt + 1 := ti_addz h2 rfl rfl (by omega) (by omega)
  refine mp_t (s_iadd (v := z1) dL_law_727 h2) (mpp 728 rfl ?_)
  obtain ⟨w4, h5⟩ := ti_ex (xs.getD z1.toNatClampNeg 0)
  refine mp_sld (v := w4) (N := xs.length) dL_law_728 rfl (t_ix (by omega) (by omega)) h5 (mpp 729 rfl ?_)
  refine mp_a (a_aload_nT dL_law_729 rfl) (mpp 730 rfl ?_)
  refine mp_a (a_iload_n dL_law_730 rfl) (mpp 731 rfl ?_)
  refine mp_a (a_iconst (v := 2) dL_law_731 rfl) (mpp 732 rfl ?_)
  obtain ⟨z6, h7⟩ := ti_ex (i + 2 : Int32)
  have e8 : z6.toInt = i.toInt + 2 := ti_addz h7 rfl rfl (by omega) (by omega)
  refine mp_t (s_iadd (v := z6) dL_law_732 h7) (mpp 733 rfl ?_)
  obtain ⟨w9, h10⟩ := ti_ex (xs.getD z6.toNatClampNeg 0)
  refine mp_sld (v := w9) (N := xs.length) dL_law_733 rfl (t_ix (by omega) (by omega)) h10 (mpp 734 rfl ?_)
  refine mt_callv (i := 92) (q' := q_82) (As := [.int w4, .int w9]) (rest := []) hT dL_law_734 rfl qm_82 (by decide) rfl rl_0 (by decide) rfl (Nat.le_of_ble_eq_true rfl) rfl ⟨rfl, rfl⟩ ⟨Nat.le_of_ble_eq_true rfl, Nat.le_of_ble_eq_true rfl⟩ (EvP.mono (by decide) (c_F_place hT )) (fun r12 P13 g11 => mpp 737 rfl ?_)
  obtain ⟨⟨x14, rfl, g15⟩, e16⟩ := g11
  have e16 := e16.symm
  subst e16
  show MEvP _ _ lawq 737 [(3, .int i), (2, .ref 301), (1, .ref 0), (0, .long 0)] [.int x14] _ _ _ _
  refine mp_t (s_pop dL_law_737 rfl) (mpp 738 rfl ?_)
  refine mp_a (a_aload_n dL_law_738 rfl) (mpp 739 rfl ?_)
  refine mp_a (a_aload_nT dL_law_739 rfl) (mpp 740 rfl ?_)
  refine mp_a (a_iload_n dL_law_740 rfl) (mpp 741 rfl ?_)
  refine mp_a (a_iconst (v := 1) dL_law_741 rfl) (mpp 742 rfl ?_)
  refine mp_t (s_iadd (v := z1) dL_law_742 h2) (mpp 743 rfl ?_)
  refine mp_sld (v := w4) (N := xs.length) dL_law_743 rfl (t_ix (by omega) (by omega)) h5 (mpp 744 rfl ?_)
  refine mp_a (a_aload_nT dL_law_744 rfl) (mpp 745 rfl ?_)
  refine mp_a (a_iload_n dL_law_745 rfl) (mpp 746 rfl ?_)
  refine mp_a (a_iconst (v := 2) dL_law_746 rfl) (mpp 747 rfl ?_)
  refine mp_t (s_iadd (v := z6) dL_law_747 h7) (mpp 748 rfl ?_)
  refine mp_sld (v := w9) (N := xs.length) dL_law_748 rfl (t_ix (by omega) (by omega)) h10 (mpp 749 rfl ?_)
  refine mt_callv (i := 95) (q' := q_210) (As := [.int w4, .int w9]) (rest := []) hT dL_law_749 rfl qm_210 (by decide) rfl rl_301 (by decide) rfl (Nat.le_of_ble_eq_true rfl) rfl ⟨rfl, rfl⟩ ⟨Nat.le_of_ble_eq_true rfl, Nat.le_of_ble_eq_true rfl⟩ (EvP.mono (by decide) (c_M_place hT )) (fun r18 P19 g17 => mpp 752 rfl ?_)
  obtain ⟨⟨x20, rfl, g21⟩, e22⟩ := g17
  have e22 := e22.symm
  subst e22
  show MEvP _ _ lawq 752 [(3, .int i), (2, .ref 301), (1, .ref 0), (0, .long 0)] [.int x20] _ _ _ _
  refine mp_t (s_pop dL_law_752 rfl) (mpp 753 rfl ?_)
  refine mp_a (a_goto (t := 992) dL_law_753 (by decide)) ?_
  exact kk _ ⟨hT, hR, by omega⟩

set_option maxHeartbeats 4000000 in
theorem law_c20 {xs : List Int32} (hn : xs.length ≤ 2048) {i : Int32} (h0 : 0 ≤ i.toInt) (h4 : i.toInt + 4 ≤ xs.length) {P : mP} (hT : Typ P) (hR : Rel P) (hL : (fv P 289 1).toInt = (fv P 301 23).toInt) (kk : ∀ P' : mP, LI P' → MEvP 15 (some xs) lawq 992 [(3, .int i), (2, .ref 301), (1, .ref 0), (0, .long 0)] [] P' 315 4038 (fun r _ => r = some (.int 1))) : MEvP 15 (some xs) lawq 756 [(3, .int i), (2, .ref 301), (1, .ref 0), (0, .long 0)] [] P 315 4038 (fun r _ => r = some (.int 1)) := by
  refine mp_a (a_aload_n dL_law_756 rfl) (mpp 757 rfl ?_)
  refine mp_a (a_aload_nT dL_law_757 rfl) (mpp 758 rfl ?_)
  refine mp_a (a_iload_n dL_law_758 rfl) (mpp 759 rfl ?_)
  refine mp_a (a_iconst (v := 1) dL_law_759 rfl) (mpp 760 rfl ?_)
  obtain ⟨z1, h2⟩ := ti_ex (i + 1 : Int32)
  have e3 : z1.toInt = i.toInt + 1 := ti_addz h2 rfl rfl (by omega) (by omega)
  refine mp_t (s_iadd (v := z1) dL_law_760 h2) (mpp 761 rfl ?_)
  obtain ⟨w4, h5⟩ := ti_ex (xs.getD z1.toNatClampNeg 0)
  refine mp_sld (v := w4) (N := xs.length) dL_law_761 rfl (t_ix (by omega) (by omega)) h5 (mpp 762 rfl ?_)
  refine mp_a (a_aload_nT dL_law_762 rfl) (mpp 763 rfl ?_)
  refine mp_a (a_iload_n dL_law_763 rfl) (mpp 764 rfl ?_)
  refine mp_a (a_iconst (v := 2) dL_law_764 rfl) (mpp 765 rfl ?_)
  obtain ⟨z6, h7⟩ := ti_ex (i + 2 : Int32)
  have e8 : z6.toInt = i.toInt + 2 := ti_addz h7 rfl rfl (by omega) (by omega)
  refine mp_t (s_iadd (v := z6) dL_law_765 h7) (mpp 766 rfl ?_)
  obtain ⟨w9, h10⟩ := ti_ex (xs.getD z6.toNatClampNeg 0)
  refine mp_sld (v := w9) (N := xs.length) dL_law_766 rfl (t_ix (by omega) (by omega)) h10 (mpp 767 rfl ?_)
  refine mt_callv (i := 96) (q' := q_83) (As := [.int w4, .int w9]) (rest := []) hT dL_law_767 rfl qm_83 (by decide) rfl rl_0 (by decide) rfl (Nat.le_of_ble_eq_true rfl) rfl ⟨rfl, rfl⟩ ⟨Nat.le_of_ble_eq_true rfl, Nat.le_of_ble_eq_true rfl⟩ (EvP.mono (by decide) (c_F_layer hT )) (fun r12 P13 g11 => mpp 770 rfl ?_)
  obtain ⟨⟨x14, rfl, g15⟩, hT16, k17, R18⟩ := g11
  have R19 := Rel.kw hR k17 rfl
  have t20 := kw_tie k17 1 rl_289 rfl
  have t21 := kw_tie k17 23 rl_301 rfl
  show MEvP _ _ lawq 770 [(3, .int i), (2, .ref 301), (1, .ref 0), (0, .long 0)] [.int x14] _ _ _ _
  refine mp_t (s_pop dL_law_770 rfl) (mpp 771 rfl ?_)
  refine mp_a (a_aload_n dL_law_771 rfl) (mpp 772 rfl ?_)
  refine mp_a (a_aload_nT dL_law_772 rfl) (mpp 773 rfl ?_)
  refine mp_a (a_iload_n dL_law_773 rfl) (mpp 774 rfl ?_)
  refine mp_a (a_iconst (v := 1) dL_law_774 rfl) (mpp 775 rfl ?_)
  refine mp_t (s_iadd (v := z1) dL_law_775 h2) (mpp 776 rfl ?_)
  refine mp_sld (v := w4) (N := xs.length) dL_law_776 rfl (t_ix (by omega) (by omega)) h5 (mpp 777 rfl ?_)
  refine mp_a (a_aload_nT dL_law_777 rfl) (mpp 778 rfl ?_)
  refine mp_a (a_iload_n dL_law_778 rfl) (mpp 779 rfl ?_)
  refine mp_a (a_iconst (v := 2) dL_law_779 rfl) (mpp 780 rfl ?_)
  refine mp_t (s_iadd (v := z6) dL_law_780 h7) (mpp 781 rfl ?_)
  refine mp_sld (v := w9) (N := xs.length) dL_law_781 rfl (t_ix (by omega) (by omega)) h10 (mpp 782 rfl ?_)
  refine mt_callv (i := 99) (q' := q_208) (As := [.int w4, .int w9]) (rest := []) hT16 dL_law_782 rfl qm_208 (by decide) rfl rl_301 (by decide) rfl (Nat.le_of_ble_eq_true rfl) rfl ⟨rfl, rfl⟩ ⟨Nat.le_of_ble_eq_true rfl, Nat.le_of_ble_eq_true rfl⟩ (EvP.mono (by decide) (c_M_layer hT16 R19 )) (fun r23 P24 g22 => mpp 785 rfl ?_)
  obtain ⟨⟨x25, rfl, g26⟩, hT27, k28, R29⟩ := g22
  have t30 := kw_tie k28 1 rl_289 rfl
  have t31 := kw_tie k28 23 rl_301 rfl
  show MEvP _ _ lawq 785 [(3, .int i), (2, .ref 301), (1, .ref 0), (0, .long 0)] [.int x25] _ _ _ _
  refine mp_t (s_pop dL_law_785 rfl) (mpp 786 rfl ?_)
  refine mp_a (a_goto (t := 992) dL_law_786 (by decide)) ?_
  exact kk _ ⟨hT27, R29, by omega⟩

set_option maxHeartbeats 4000000 in
theorem law_c21 {xs : List Int32} (hn : xs.length ≤ 2048) {i : Int32} (h0 : 0 ≤ i.toInt) (h4 : i.toInt + 4 ≤ xs.length) {P : mP} (hT : Typ P) (hR : Rel P) (hL : (fv P 289 1).toInt = (fv P 301 23).toInt) (kk : ∀ P' : mP, LI P' → MEvP 15 (some xs) lawq 992 [(3, .int i), (2, .ref 301), (1, .ref 0), (0, .long 0)] [] P' 315 4038 (fun r _ => r = some (.int 1))) : MEvP 15 (some xs) lawq 789 [(3, .int i), (2, .ref 301), (1, .ref 0), (0, .long 0)] [] P 315 4038 (fun r _ => r = some (.int 1)) := by
  refine mp_a (a_aload_n dL_law_789 rfl) (mpp 790 rfl ?_)
  refine mp_a (a_aload_nT dL_law_790 rfl) (mpp 791 rfl ?_)
  refine mp_a (a_iload_n dL_law_791 rfl) (mpp 792 rfl ?_)
  refine mp_a (a_iconst (v := 1) dL_law_792 rfl) (mpp 793 rfl ?_)
  obtain ⟨z1, h2⟩ := ti_ex (i + 1 : Int32)
  have e3 : z1.toInt = i.toInt + 1 := ti_addz h2 rfl rfl (by omega) (by omega)
  refine mp_t (s_iadd (v := z1) dL_law_793 h2) (mpp 794 rfl ?_)
  obtain ⟨w4, h5⟩ := ti_ex (xs.getD z1.toNatClampNeg 0)
  refine mp_sld (v := w4) (N := xs.length) dL_law_794 rfl (t_ix (by omega) (by omega)) h5 (mpp 795 rfl ?_)
  refine mt_callv (i := 100) (q' := q_84) (As := [.int w4]) (rest := []) hT dL_law_795 rfl qm_84 (by decide) rfl rl_0 (by decide) rfl (Nat.le_of_ble_eq_true rfl) rfl ⟨rfl, rfl⟩ ⟨Nat.le_of_ble_eq_true rfl, Nat.le_of_ble_eq_true rfl⟩ (EvP.mono (by decide) (c_F_orders hT )) (fun r7 P8 g6 => mpp 798 rfl ?_)
  obtain ⟨⟨x9, rfl, g10⟩, hT11, k12, R13⟩ := g6
  have R14 := Rel.kw hR k12 rfl
  have t15 := kw_tie k12 1 rl_289 rfl
  have t16 := kw_tie k12 23 rl_301 rfl
  show MEvP _ _ lawq 798 [(3, .int i), (2, .ref 301), (1, .ref 0), (0, .long 0)] [.int x9] _ _ _ _
  refine mp_t (s_pop dL_law_798 rfl) (mpp 799 rfl ?_)
  refine mp_a (a_aload_n dL_law_799 rfl) (mpp 800 rfl ?_)
  refine mp_a (a_aload_nT dL_law_800 rfl) (mpp 801 rfl ?_)
  refine mp_a (a_iload_n dL_law_801 rfl) (mpp 802 rfl ?_)
  refine mp_a (a_iconst (v := 1) dL_law_802 rfl) (mpp 803 rfl ?_)
  refine mp_t (s_iadd (v := z1) dL_law_803 h2) (mpp 804 rfl ?_)
  refine mp_sld (v := w4) (N := xs.length) dL_law_804 rfl (t_ix (by omega) (by omega)) h5 (mpp 805 rfl ?_)
  refine mt_callv (i := 103) (q' := q_207) (As := [.int w4]) (rest := []) hT11 dL_law_805 rfl qm_207 (by decide) rfl rl_301 (by decide) rfl (Nat.le_of_ble_eq_true rfl) rfl ⟨rfl, rfl⟩ ⟨Nat.le_of_ble_eq_true rfl, Nat.le_of_ble_eq_true rfl⟩ (EvP.mono (by decide) (c_M_orders hT11 R14 )) (fun r18 P19 g17 => mpp 808 rfl ?_)
  obtain ⟨⟨x20, rfl, g21⟩, hT22, k23, R24⟩ := g17
  have t25 := kw_tie k23 1 rl_289 rfl
  have t26 := kw_tie k23 23 rl_301 rfl
  show MEvP _ _ lawq 808 [(3, .int i), (2, .ref 301), (1, .ref 0), (0, .long 0)] [.int x20] _ _ _ _
  refine mp_t (s_pop dL_law_808 rfl) (mpp 809 rfl ?_)
  refine mp_a (a_goto (t := 992) dL_law_809 (by decide)) ?_
  exact kk _ ⟨hT22, R24, by omega⟩

set_option maxHeartbeats 4000000 in
theorem law_c22 {xs : List Int32} (hn : xs.length ≤ 2048) {i : Int32} (h0 : 0 ≤ i.toInt) (h4 : i.toInt + 4 ≤ xs.length) {P : mP} (hT : Typ P) (hR : Rel P) (hL : (fv P 289 1).toInt = (fv P 301 23).toInt) (kk : ∀ P' : mP, LI P' → MEvP 15 (some xs) lawq 992 [(3, .int i), (2, .ref 301), (1, .ref 0), (0, .long 0)] [] P' 315 4038 (fun r _ => r = some (.int 1))) : MEvP 15 (some xs) lawq 812 [(3, .int i), (2, .ref 301), (1, .ref 0), (0, .long 0)] [] P 315 4038 (fun r _ => r = some (.int 1)) := by
  refine mp_a (a_aload_n dL_law_812 rfl) (mpp 813 rfl ?_)
  refine mp_a (a_aload_nT dL_law_813 rfl) (mpp 814 rfl ?_)
  refine mp_a (a_iload_n dL_law_814 rfl) (mpp 815 rfl ?_)
  refine mp_a (a_iconst (v := 1) dL_law_815 rfl) (mpp 816 rfl ?_)
  obtain ⟨z1, h2⟩ := ti_ex (i + 1 : Int32)
  have e3 : z1.toInt = i.toInt + 1 := ti_addz h2 rfl rfl (by omega) (by omega)
  refine mp_t (s_iadd (v := z1) dL_law_816 h2) (mpp 817 rfl ?_)
  obtain ⟨w4, h5⟩ := ti_ex (xs.getD z1.toNatClampNeg 0)
  refine mp_sld (v := w4) (N := xs.length) dL_law_817 rfl (t_ix (by omega) (by omega)) h5 (mpp 818 rfl ?_)
  refine mt_callv (i := 104) (q' := q_85) (As := [.int w4]) (rest := []) hT dL_law_818 rfl qm_85 (by decide) rfl rl_0 (by decide) rfl (Nat.le_of_ble_eq_true rfl) rfl ⟨rfl, rfl⟩ ⟨Nat.le_of_ble_eq_true rfl, Nat.le_of_ble_eq_true rfl⟩ (EvP.mono (by decide) (c_F_thickest hT )) (fun r7 P8 g6 => mpp 821 rfl ?_)
  obtain ⟨⟨x9, rfl, g10⟩, e11⟩ := g6
  have e11 := e11.symm
  subst e11
  show MEvP _ _ lawq 821 [(3, .int i), (2, .ref 301), (1, .ref 0), (0, .long 0)] [.int x9] _ _ _ _
  refine mp_t (s_pop dL_law_821 rfl) (mpp 822 rfl ?_)
  refine mp_a (a_aload_n dL_law_822 rfl) (mpp 823 rfl ?_)
  refine mp_a (a_aload_nT dL_law_823 rfl) (mpp 824 rfl ?_)
  refine mp_a (a_iload_n dL_law_824 rfl) (mpp 825 rfl ?_)
  refine mp_a (a_iconst (v := 1) dL_law_825 rfl) (mpp 826 rfl ?_)
  refine mp_t (s_iadd (v := z1) dL_law_826 h2) (mpp 827 rfl ?_)
  refine mp_sld (v := w4) (N := xs.length) dL_law_827 rfl (t_ix (by omega) (by omega)) h5 (mpp 828 rfl ?_)
  refine mt_callv (i := 107) (q' := q_211) (As := [.int w4]) (rest := []) hT dL_law_828 rfl qm_211 (by decide) rfl rl_301 (by decide) rfl (Nat.le_of_ble_eq_true rfl) rfl ⟨rfl, rfl⟩ ⟨Nat.le_of_ble_eq_true rfl, Nat.le_of_ble_eq_true rfl⟩ (EvP.mono (by decide) (c_M_thickest hT )) (fun r13 P14 g12 => mpp 831 rfl ?_)
  obtain ⟨⟨x15, rfl, g16⟩, e17⟩ := g12
  have e17 := e17.symm
  subst e17
  show MEvP _ _ lawq 831 [(3, .int i), (2, .ref 301), (1, .ref 0), (0, .long 0)] [.int x15] _ _ _ _
  refine mp_t (s_pop dL_law_831 rfl) (mpp 832 rfl ?_)
  refine mp_a (a_goto (t := 992) dL_law_832 (by decide)) ?_
  exact kk _ ⟨hT, hR, by omega⟩

set_option maxHeartbeats 4000000 in
theorem law_c23 {xs : List Int32} (hn : xs.length ≤ 2048) {i : Int32} (h0 : 0 ≤ i.toInt) (h4 : i.toInt + 4 ≤ xs.length) {P : mP} (hT : Typ P) (hR : Rel P) (hL : (fv P 289 1).toInt = (fv P 301 23).toInt) (kk : ∀ P' : mP, LI P' → MEvP 15 (some xs) lawq 992 [(3, .int i), (2, .ref 301), (1, .ref 0), (0, .long 0)] [] P' 315 4038 (fun r _ => r = some (.int 1))) : MEvP 15 (some xs) lawq 835 [(3, .int i), (2, .ref 301), (1, .ref 0), (0, .long 0)] [] P 315 4038 (fun r _ => r = some (.int 1)) := by
  refine mp_a (a_aload_n dL_law_835 rfl) (mpp 836 rfl ?_)
  refine mp_a (a_aload_nT dL_law_836 rfl) (mpp 837 rfl ?_)
  refine mp_a (a_iload_n dL_law_837 rfl) (mpp 838 rfl ?_)
  refine mp_a (a_iconst (v := 1) dL_law_838 rfl) (mpp 839 rfl ?_)
  obtain ⟨z1, h2⟩ := ti_ex (i + 1 : Int32)
  have e3 : z1.toInt = i.toInt + 1 := ti_addz h2 rfl rfl (by omega) (by omega)
  refine mp_t (s_iadd (v := z1) dL_law_839 h2) (mpp 840 rfl ?_)
  obtain ⟨w4, h5⟩ := ti_ex (xs.getD z1.toNatClampNeg 0)
  refine mp_sld (v := w4) (N := xs.length) dL_law_840 rfl (t_ix (by omega) (by omega)) h5 (mpp 841 rfl ?_)
  refine mt_callv (i := 108) (q' := q_90) (As := [.int w4]) (rest := []) hT dL_law_841 rfl qm_90 (by decide) rfl rl_0 (by decide) rfl (Nat.le_of_ble_eq_true rfl) rfl ⟨rfl, rfl⟩ ⟨Nat.le_of_ble_eq_true rfl, Nat.le_of_ble_eq_true rfl⟩ (EvP.mono (by decide) (c_F_reflected hT )) (fun r7 P8 g6 => mpp 844 rfl ?_)
  obtain ⟨⟨x9, rfl, g10⟩, e11⟩ := g6
  have e11 := e11.symm
  subst e11
  show MEvP _ _ lawq 844 [(3, .int i), (2, .ref 301), (1, .ref 0), (0, .long 0)] [.int x9] _ _ _ _
  refine mp_t (s_pop dL_law_844 rfl) (mpp 845 rfl ?_)
  refine mp_a (a_aload_n dL_law_845 rfl) (mpp 846 rfl ?_)
  refine mp_a (a_aload_nT dL_law_846 rfl) (mpp 847 rfl ?_)
  refine mp_a (a_iload_n dL_law_847 rfl) (mpp 848 rfl ?_)
  refine mp_a (a_iconst (v := 1) dL_law_848 rfl) (mpp 849 rfl ?_)
  refine mp_t (s_iadd (v := z1) dL_law_849 h2) (mpp 850 rfl ?_)
  refine mp_sld (v := w4) (N := xs.length) dL_law_850 rfl (t_ix (by omega) (by omega)) h5 (mpp 851 rfl ?_)
  refine mt_callv (i := 111) (q' := q_213) (As := [.int w4]) (rest := []) hT dL_law_851 rfl qm_213 (by decide) rfl rl_301 (by decide) rfl (Nat.le_of_ble_eq_true rfl) rfl ⟨rfl, rfl⟩ ⟨Nat.le_of_ble_eq_true rfl, Nat.le_of_ble_eq_true rfl⟩ (EvP.mono (by decide) (c_M_reflected hT )) (fun r13 P14 g12 => mpp 854 rfl ?_)
  obtain ⟨⟨x15, rfl, g16⟩, e17⟩ := g12
  have e17 := e17.symm
  subst e17
  show MEvP _ _ lawq 854 [(3, .int i), (2, .ref 301), (1, .ref 0), (0, .long 0)] [.int x15] _ _ _ _
  refine mp_t (s_pop dL_law_854 rfl) (mpp 855 rfl ?_)
  refine mp_a (a_goto (t := 992) dL_law_855 (by decide)) ?_
  exact kk _ ⟨hT, hR, by omega⟩

set_option maxHeartbeats 4000000 in
theorem law_c24 {xs : List Int32} (hn : xs.length ≤ 2048) {i : Int32} (h0 : 0 ≤ i.toInt) (h4 : i.toInt + 4 ≤ xs.length) {P : mP} (hT : Typ P) (hR : Rel P) (hL : (fv P 289 1).toInt = (fv P 301 23).toInt) (kk : ∀ P' : mP, LI P' → MEvP 15 (some xs) lawq 992 [(3, .int i), (2, .ref 301), (1, .ref 0), (0, .long 0)] [] P' 315 4038 (fun r _ => r = some (.int 1))) : MEvP 15 (some xs) lawq 858 [(3, .int i), (2, .ref 301), (1, .ref 0), (0, .long 0)] [] P 315 4038 (fun r _ => r = some (.int 1)) := by
  refine mp_a (a_aload_n dL_law_858 rfl) (mpp 859 rfl ?_)
  refine mp_a (a_aload_nT dL_law_859 rfl) (mpp 860 rfl ?_)
  refine mp_a (a_iload_n dL_law_860 rfl) (mpp 861 rfl ?_)
  refine mp_a (a_iconst (v := 1) dL_law_861 rfl) (mpp 862 rfl ?_)
  obtain ⟨z1, h2⟩ := ti_ex (i + 1 : Int32)
  have e3 : z1.toInt = i.toInt + 1 := ti_addz h2 rfl rfl (by omega) (by omega)
  refine mp_t (s_iadd (v := z1) dL_law_862 h2) (mpp 863 rfl ?_)
  obtain ⟨w4, h5⟩ := ti_ex (xs.getD z1.toNatClampNeg 0)
  refine mp_sld (v := w4) (N := xs.length) dL_law_863 rfl (t_ix (by omega) (by omega)) h5 (mpp 864 rfl ?_)
  refine mt_callv (i := 112) (q' := q_92) (As := [.int w4]) (rest := []) hT dL_law_864 rfl qm_92 (by decide) rfl rl_0 (by decide) rfl (Nat.le_of_ble_eq_true rfl) rfl ⟨rfl, rfl⟩ ⟨Nat.le_of_ble_eq_true rfl, Nat.le_of_ble_eq_true rfl⟩ (EvP.mono (by decide) (c_F_append hT )) (fun r7 P8 g6 => mpp 867 rfl ?_)
  obtain ⟨⟨x9, rfl, g10⟩, hT11, k12, R13⟩ := g6
  have R14 := Rel.kw hR k12 rfl
  have t15 := kw_tie k12 23 rl_301 rfl
  have g10 : (x9.toInt = -1002 ∧ (w4.toInt < 32 ∨ 126 < w4.toInt ∨ 80 ≤ (fv P 289 1).toInt) ∧ (fv P8 289 1).toInt = (fv P 289 1).toInt) ∨ (x9.toInt = (fv P 289 1).toInt + 1 ∧ 32 ≤ w4.toInt ∧ w4.toInt ≤ 126 ∧ (fv P 289 1).toInt < 80 ∧ (fv P8 289 1).toInt = (fv P 289 1).toInt + 1) := g10
  show MEvP _ _ lawq 867 [(3, .int i), (2, .ref 301), (1, .ref 0), (0, .long 0)] [.int x9] _ _ _ _
  refine mp_a (a_aload_n dL_law_867 rfl) (mpp 868 rfl ?_)
  refine mp_a (a_aload_nT dL_law_868 rfl) (mpp 869 rfl ?_)
  refine mp_a (a_iload_n dL_law_869 rfl) (mpp 870 rfl ?_)
  refine mp_a (a_iconst (v := 1) dL_law_870 rfl) (mpp 871 rfl ?_)
  refine mp_t (s_iadd (v := z1) dL_law_871 h2) (mpp 872 rfl ?_)
  refine mp_sld (v := w4) (N := xs.length) dL_law_872 rfl (t_ix (by omega) (by omega)) h5 (mpp 873 rfl ?_)
  refine mt_callv (i := 115) (q' := q_214) (As := [.int w4]) (rest := [.int x9]) hT11 dL_law_873 rfl qm_214 (by decide) rfl rl_301 (by decide) rfl (Nat.le_of_ble_eq_true rfl) rfl ⟨rfl, rfl⟩ ⟨Nat.le_of_ble_eq_true rfl, Nat.le_of_ble_eq_true rfl⟩ (EvP.mono (by decide) (c_M_append hT11 )) (fun r17 P18 g16 => mpp 876 rfl ?_)
  obtain ⟨⟨x19, rfl, g20⟩, hT21, k22, R23⟩ := g16
  have R24 := Rel.kw R14 k22 rfl
  have t25 := kw_tie k22 1 rl_289 rfl
  have g20 : (x19.toInt = -1002 ∧ (w4.toInt < 32 ∨ 126 < w4.toInt ∨ 80 ≤ (fv P8 301 23).toInt) ∧ (fv P18 301 23).toInt = (fv P8 301 23).toInt) ∨ (x19.toInt = (fv P8 301 23).toInt + 1 ∧ 32 ≤ w4.toInt ∧ w4.toInt ≤ 126 ∧ (fv P8 301 23).toInt < 80 ∧ (fv P18 301 23).toInt = (fv P8 301 23).toInt + 1) := g20
  show MEvP _ _ lawq 876 [(3, .int i), (2, .ref 301), (1, .ref 0), (0, .long 0)] [.int x19, .int x9] _ _ _ _
  have e26 : x9 = x19 := Int32.toInt_inj.mp (by omega)
  refine mp_Tt (t := 992) (j_icmp_eq dL_law_876) e26 (by decide) ?_
  exact kk _ ⟨hT21, R24, by omega⟩

set_option maxHeartbeats 4000000 in
theorem law_c25 {xs : List Int32} (hn : xs.length ≤ 2048) {i : Int32} (h0 : 0 ≤ i.toInt) (h4 : i.toInt + 4 ≤ xs.length) {P : mP} (hT : Typ P) (hR : Rel P) (hL : (fv P 289 1).toInt = (fv P 301 23).toInt) (kk : ∀ P' : mP, LI P' → MEvP 15 (some xs) lawq 992 [(3, .int i), (2, .ref 301), (1, .ref 0), (0, .long 0)] [] P' 315 4038 (fun r _ => r = some (.int 1))) : MEvP 15 (some xs) lawq 881 [(3, .int i), (2, .ref 301), (1, .ref 0), (0, .long 0)] [] P 315 4038 (fun r _ => r = some (.int 1)) := by
  refine mp_a (a_aload_n dL_law_881 rfl) (mpp 882 rfl ?_)
  refine mt_callv (i := 116) (q' := q_94) (As := []) (rest := []) hT dL_law_882 rfl qm_94 (by decide) rfl rl_0 (by decide) rfl (Nat.le_of_ble_eq_true rfl) rfl ⟨rfl, rfl⟩ ⟨Nat.le_of_ble_eq_true rfl, Nat.le_of_ble_eq_true rfl⟩ (EvP.mono (by decide) (c_F_read hT )) (fun r2 P3 g1 => mpp 885 rfl ?_)
  obtain ⟨⟨x4, rfl, g5⟩, hT6, k7, R8⟩ := g1
  have R9 := Rel.kw hR k7 rfl
  have t10 := kw_tie k7 23 rl_301 rfl
  have g5 : (fv P3 289 1).toInt = 0 := g5
  show MEvP _ _ lawq 885 [(3, .int i), (2, .ref 301), (1, .ref 0), (0, .long 0)] [.int x4] _ _ _ _
  refine mp_t (s_pop dL_law_885 rfl) (mpp 886 rfl ?_)
  refine mp_a (a_aload_n dL_law_886 rfl) (mpp 887 rfl ?_)
  refine mt_callv (i := 120) (q' := q_215) (As := []) (rest := []) hT6 dL_law_887 rfl qm_215 (by decide) rfl rl_301 (by decide) rfl (Nat.le_of_ble_eq_true rfl) rfl ⟨rfl, rfl⟩ ⟨Nat.le_of_ble_eq_true rfl, Nat.le_of_ble_eq_true rfl⟩ (EvP.mono (by decide) (c_M_read hT6 R9 )) (fun r12 P13 g11 => mpp 890 rfl ?_)
  obtain ⟨⟨x14, rfl, g15⟩, hT16, k17, R18⟩ := g11
  have t19 := kw_tie k17 1 rl_289 rfl
  have g15 : (fv P13 301 23).toInt = 0 := g15
  show MEvP _ _ lawq 890 [(3, .int i), (2, .ref 301), (1, .ref 0), (0, .long 0)] [.int x14] _ _ _ _
  refine mp_t (s_pop dL_law_890 rfl) (mpp 891 rfl ?_)
  refine mp_a (a_goto (t := 992) dL_law_891 (by decide)) ?_
  exact kk _ ⟨hT16, R18, by omega⟩

set_option maxHeartbeats 4000000 in
theorem law_c26 {xs : List Int32} (hn : xs.length ≤ 2048) {i : Int32} (h0 : 0 ≤ i.toInt) (h4 : i.toInt + 4 ≤ xs.length) {P : mP} (hT : Typ P) (hR : Rel P) (hL : (fv P 289 1).toInt = (fv P 301 23).toInt) (kk : ∀ P' : mP, LI P' → MEvP 15 (some xs) lawq 992 [(3, .int i), (2, .ref 301), (1, .ref 0), (0, .long 0)] [] P' 315 4038 (fun r _ => r = some (.int 1))) : MEvP 15 (some xs) lawq 894 [(3, .int i), (2, .ref 301), (1, .ref 0), (0, .long 0)] [] P 315 4038 (fun r _ => r = some (.int 1)) := by
  refine mp_a (a_aload_n dL_law_894 rfl) (mpp 895 rfl ?_)
  refine mp_a (a_aload_nT dL_law_895 rfl) (mpp 896 rfl ?_)
  refine mp_a (a_iload_n dL_law_896 rfl) (mpp 897 rfl ?_)
  refine mp_a (a_iconst (v := 1) dL_law_897 rfl) (mpp 898 rfl ?_)
  obtain ⟨z1, h2⟩ := ti_ex (i + 1 : Int32)
  have e3 : z1.toInt = i.toInt + 1 := ti_addz h2 rfl rfl (by omega) (by omega)
  refine mp_t (s_iadd (v := z1) dL_law_898 h2) (mpp 899 rfl ?_)
  obtain ⟨w4, h5⟩ := ti_ex (xs.getD z1.toNatClampNeg 0)
  refine mp_sld (v := w4) (N := xs.length) dL_law_899 rfl (t_ix (by omega) (by omega)) h5 (mpp 900 rfl ?_)
  refine mt_callv (i := 121) (q' := q_109) (As := [.int w4]) (rest := []) hT dL_law_900 rfl qm_109 (by decide) rfl rl_0 (by decide) rfl (Nat.le_of_ble_eq_true rfl) rfl ⟨rfl, rfl⟩ ⟨Nat.le_of_ble_eq_true rfl, Nat.le_of_ble_eq_true rfl⟩ (EvP.mono (by decide) (c_F_refusal hT )) (fun r7 P8 g6 => mpp 903 rfl ?_)
  obtain ⟨⟨x9, rfl, g10⟩, e11⟩ := g6
  have e11 := e11.symm
  subst e11
  show MEvP _ _ lawq 903 [(3, .int i), (2, .ref 301), (1, .ref 0), (0, .long 0)] [.int x9] _ _ _ _
  refine mp_t (s_pop dL_law_903 rfl) (mpp 904 rfl ?_)
  refine mp_a (a_aload_n dL_law_904 rfl) (mpp 905 rfl ?_)
  refine mp_a (a_aload_nT dL_law_905 rfl) (mpp 906 rfl ?_)
  refine mp_a (a_iload_n dL_law_906 rfl) (mpp 907 rfl ?_)
  refine mp_a (a_iconst (v := 1) dL_law_907 rfl) (mpp 908 rfl ?_)
  refine mp_t (s_iadd (v := z1) dL_law_908 h2) (mpp 909 rfl ?_)
  refine mp_sld (v := w4) (N := xs.length) dL_law_909 rfl (t_ix (by omega) (by omega)) h5 (mpp 910 rfl ?_)
  refine mt_callv (i := 124) (q' := q_228) (As := [.int w4]) (rest := []) hT dL_law_910 rfl qm_228 (by decide) rfl rl_301 (by decide) rfl (Nat.le_of_ble_eq_true rfl) rfl ⟨rfl, rfl⟩ ⟨Nat.le_of_ble_eq_true rfl, Nat.le_of_ble_eq_true rfl⟩ (EvP.mono (by decide) (c_M_refusal hT )) (fun r13 P14 g12 => mpp 913 rfl ?_)
  obtain ⟨⟨x15, rfl, g16⟩, e17⟩ := g12
  have e17 := e17.symm
  subst e17
  show MEvP _ _ lawq 913 [(3, .int i), (2, .ref 301), (1, .ref 0), (0, .long 0)] [.int x15] _ _ _ _
  refine mp_t (s_pop dL_law_913 rfl) (mpp 914 rfl ?_)
  refine mp_a (a_goto (t := 992) dL_law_914 (by decide)) ?_
  exact kk _ ⟨hT, hR, by omega⟩

set_option maxHeartbeats 4000000 in
theorem law_c27 {xs : List Int32} (hn : xs.length ≤ 2048) {i : Int32} (h0 : 0 ≤ i.toInt) (h4 : i.toInt + 4 ≤ xs.length) {P : mP} (hT : Typ P) (hR : Rel P) (hL : (fv P 289 1).toInt = (fv P 301 23).toInt) (kk : ∀ P' : mP, LI P' → MEvP 15 (some xs) lawq 992 [(3, .int i), (2, .ref 301), (1, .ref 0), (0, .long 0)] [] P' 315 4038 (fun r _ => r = some (.int 1))) : MEvP 15 (some xs) lawq 917 [(3, .int i), (2, .ref 301), (1, .ref 0), (0, .long 0)] [] P 315 4038 (fun r _ => r = some (.int 1)) := by
  refine mp_a (a_aload_n dL_law_917 rfl) (mpp 918 rfl ?_)
  refine mp_a (a_aload_nT dL_law_918 rfl) (mpp 919 rfl ?_)
  refine mp_a (a_iload_n dL_law_919 rfl) (mpp 920 rfl ?_)
  refine mp_a (a_iconst (v := 1) dL_law_920 rfl) (mpp 921 rfl ?_)
  obtain ⟨z1, h2⟩ := ti_ex (i + 1 : Int32)
  have e3 : z1.toInt = i.toInt + 1 := ti_addz h2 rfl rfl (by omega) (by omega)
  refine mp_t (s_iadd (v := z1) dL_law_921 h2) (mpp 922 rfl ?_)
  obtain ⟨w4, h5⟩ := ti_ex (xs.getD z1.toNatClampNeg 0)
  refine mp_sld (v := w4) (N := xs.length) dL_law_922 rfl (t_ix (by omega) (by omega)) h5 (mpp 923 rfl ?_)
  refine mt_callv (i := 125) (q' := q_110) (As := [.int w4]) (rest := []) hT dL_law_923 rfl qm_110 (by decide) rfl rl_0 (by decide) rfl (Nat.le_of_ble_eq_true rfl) rfl ⟨rfl, rfl⟩ ⟨Nat.le_of_ble_eq_true rfl, Nat.le_of_ble_eq_true rfl⟩ (EvP.mono (by decide) (c_F_account hT )) (fun r7 P8 g6 => mpp 926 rfl ?_)
  obtain ⟨⟨x9, rfl, g10⟩, e11⟩ := g6
  have e11 := e11.symm
  subst e11
  show MEvP _ _ lawq 926 [(3, .int i), (2, .ref 301), (1, .ref 0), (0, .long 0)] [.int x9] _ _ _ _
  refine mp_t (s_pop dL_law_926 rfl) (mpp 927 rfl ?_)
  refine mp_a (a_aload_n dL_law_927 rfl) (mpp 928 rfl ?_)
  refine mp_a (a_aload_nT dL_law_928 rfl) (mpp 929 rfl ?_)
  refine mp_a (a_iload_n dL_law_929 rfl) (mpp 930 rfl ?_)
  refine mp_a (a_iconst (v := 1) dL_law_930 rfl) (mpp 931 rfl ?_)
  refine mp_t (s_iadd (v := z1) dL_law_931 h2) (mpp 932 rfl ?_)
  refine mp_sld (v := w4) (N := xs.length) dL_law_932 rfl (t_ix (by omega) (by omega)) h5 (mpp 933 rfl ?_)
  refine mt_callv (i := 128) (q' := q_229) (As := [.int w4]) (rest := []) hT dL_law_933 rfl qm_229 (by decide) rfl rl_301 (by decide) rfl (Nat.le_of_ble_eq_true rfl) rfl ⟨rfl, rfl⟩ ⟨Nat.le_of_ble_eq_true rfl, Nat.le_of_ble_eq_true rfl⟩ (EvP.mono (by decide) (c_M_account hT hR )) (fun r13 P14 g12 => mpp 936 rfl ?_)
  obtain ⟨⟨x15, rfl, g16⟩, e17⟩ := g12
  have e17 := e17.symm
  subst e17
  show MEvP _ _ lawq 936 [(3, .int i), (2, .ref 301), (1, .ref 0), (0, .long 0)] [.int x15] _ _ _ _
  refine mp_t (s_pop dL_law_936 rfl) (mpp 937 rfl ?_)
  refine mp_a (a_goto (t := 992) dL_law_937 (by decide)) ?_
  exact kk _ ⟨hT, hR, by omega⟩

set_option maxHeartbeats 4000000 in
theorem law_c28 {xs : List Int32} (hn : xs.length ≤ 2048) {i : Int32} (h0 : 0 ≤ i.toInt) (h4 : i.toInt + 4 ≤ xs.length) {P : mP} (hT : Typ P) (hR : Rel P) (hL : (fv P 289 1).toInt = (fv P 301 23).toInt) (kk : ∀ P' : mP, LI P' → MEvP 15 (some xs) lawq 992 [(3, .int i), (2, .ref 301), (1, .ref 0), (0, .long 0)] [] P' 315 4038 (fun r _ => r = some (.int 1))) : MEvP 15 (some xs) lawq 940 [(3, .int i), (2, .ref 301), (1, .ref 0), (0, .long 0)] [] P 315 4038 (fun r _ => r = some (.int 1)) := by
  refine mp_a (a_aload_n dL_law_940 rfl) (mpp 941 rfl ?_)
  refine mt_callv (i := 129) (q' := q_115) (As := []) (rest := []) hT dL_law_941 rfl qm_115 (by decide) rfl rl_0 (by decide) rfl (Nat.le_of_ble_eq_true rfl) rfl ⟨rfl, rfl⟩ ⟨Nat.le_of_ble_eq_true rfl, Nat.le_of_ble_eq_true rfl⟩ (EvP.mono (by decide) (c_F_share hT )) (fun r2 P3 g1 => mpp 944 rfl ?_)
  obtain ⟨⟨x4, rfl, g5⟩, e6⟩ := g1
  have e6 := e6.symm
  subst e6
  show MEvP _ _ lawq 944 [(3, .int i), (2, .ref 301), (1, .ref 0), (0, .long 0)] [.int x4] _ _ _ _
  refine mp_t (s_pop dL_law_944 rfl) (mpp 945 rfl ?_)
  refine mp_a (a_aload_n dL_law_945 rfl) (mpp 946 rfl ?_)
  refine mt_callv (i := 132) (q' := q_232) (As := []) (rest := []) hT dL_law_946 rfl qm_232 (by decide) rfl rl_301 (by decide) rfl (Nat.le_of_ble_eq_true rfl) rfl ⟨rfl, rfl⟩ ⟨Nat.le_of_ble_eq_true rfl, Nat.le_of_ble_eq_true rfl⟩ (EvP.mono (by decide) (c_M_share hT hR )) (fun r8 P9 g7 => mpp 949 rfl ?_)
  obtain ⟨⟨x10, rfl, g11⟩, e12⟩ := g7
  have e12 := e12.symm
  subst e12
  show MEvP _ _ lawq 949 [(3, .int i), (2, .ref 301), (1, .ref 0), (0, .long 0)] [.int x10] _ _ _ _
  refine mp_t (s_pop dL_law_949 rfl) (mpp 950 rfl ?_)
  refine mp_a (a_goto (t := 992) dL_law_950 (by decide)) ?_
  exact kk _ ⟨hT, hR, by omega⟩

set_option maxHeartbeats 4000000 in
theorem law_c29 {xs : List Int32} (hn : xs.length ≤ 2048) {i : Int32} (h0 : 0 ≤ i.toInt) (h4 : i.toInt + 4 ≤ xs.length) {P : mP} (hT : Typ P) (hR : Rel P) (hL : (fv P 289 1).toInt = (fv P 301 23).toInt) (kk : ∀ P' : mP, LI P' → MEvP 15 (some xs) lawq 992 [(3, .int i), (2, .ref 301), (1, .ref 0), (0, .long 0)] [] P' 315 4038 (fun r _ => r = some (.int 1))) : MEvP 15 (some xs) lawq 953 [(3, .int i), (2, .ref 301), (1, .ref 0), (0, .long 0)] [] P 315 4038 (fun r _ => r = some (.int 1)) := by
  refine mp_a (a_aload_n dL_law_953 rfl) (mpp 954 rfl ?_)
  refine mt_callv (i := 133) (q' := q_117) (As := []) (rest := []) hT dL_law_954 rfl qm_117 (by decide) rfl rl_0 (by decide) rfl (Nat.le_of_ble_eq_true rfl) rfl ⟨rfl, rfl⟩ ⟨Nat.le_of_ble_eq_true rfl, Nat.le_of_ble_eq_true rfl⟩ (EvP.mono (by decide) (c_F_undo hT )) (fun r2 P3 g1 => mpp 957 rfl ?_)
  obtain ⟨⟨x4, rfl, g5⟩, hT6, k7, R8⟩ := g1
  have R9 := Rel.kw hR k7 rfl
  have t10 := kw_tie k7 1 rl_289 rfl
  have t11 := kw_tie k7 23 rl_301 rfl
  show MEvP _ _ lawq 957 [(3, .int i), (2, .ref 301), (1, .ref 0), (0, .long 0)] [.int x4] _ _ _ _
  refine mp_t (s_pop dL_law_957 rfl) (mpp 958 rfl ?_)
  refine mp_a (a_aload_n dL_law_958 rfl) (mpp 959 rfl ?_)
  refine mt_callv (i := 136) (q' := q_233) (As := []) (rest := []) hT6 dL_law_959 rfl qm_233 (by decide) rfl rl_301 (by decide) rfl (Nat.le_of_ble_eq_true rfl) rfl ⟨rfl, rfl⟩ ⟨Nat.le_of_ble_eq_true rfl, Nat.le_of_ble_eq_true rfl⟩ (EvP.mono (by decide) (c_M_undo hT6 R9 )) (fun r13 P14 g12 => mpp 962 rfl ?_)
  obtain ⟨⟨x15, rfl, g16⟩, hT17, k18, R19⟩ := g12
  have t20 := kw_tie k18 1 rl_289 rfl
  have t21 := kw_tie k18 23 rl_301 rfl
  show MEvP _ _ lawq 962 [(3, .int i), (2, .ref 301), (1, .ref 0), (0, .long 0)] [.int x15] _ _ _ _
  refine mp_t (s_pop dL_law_962 rfl) (mpp 963 rfl ?_)
  refine mp_a (a_goto (t := 992) dL_law_963 (by decide)) ?_
  exact kk _ ⟨hT17, R19, by omega⟩

set_option maxHeartbeats 4000000 in
theorem law_c30 {xs : List Int32} (hn : xs.length ≤ 2048) {i : Int32} (h0 : 0 ≤ i.toInt) (h4 : i.toInt + 4 ≤ xs.length) {P : mP} (hT : Typ P) (hR : Rel P) (hL : (fv P 289 1).toInt = (fv P 301 23).toInt) (kk : ∀ P' : mP, LI P' → MEvP 15 (some xs) lawq 992 [(3, .int i), (2, .ref 301), (1, .ref 0), (0, .long 0)] [] P' 315 4038 (fun r _ => r = some (.int 1))) : MEvP 15 (some xs) lawq 966 [(3, .int i), (2, .ref 301), (1, .ref 0), (0, .long 0)] [] P 315 4038 (fun r _ => r = some (.int 1)) := by
  refine mp_a (a_aload_n dL_law_966 rfl) (mpp 967 rfl ?_)
  refine mt_callv (i := 137) (q' := q_119) (As := []) (rest := []) hT dL_law_967 rfl qm_119 (by decide) rfl rl_0 (by decide) rfl (Nat.le_of_ble_eq_true rfl) rfl ⟨rfl, rfl⟩ ⟨Nat.le_of_ble_eq_true rfl, Nat.le_of_ble_eq_true rfl⟩ (EvP.mono (by decide) (c_F_save hT )) (fun r2 P3 g1 => mpp 970 rfl ?_)
  obtain ⟨⟨x4, rfl, g5⟩, hT6, k7, R8⟩ := g1
  have R9 := Rel.kw hR k7 rfl
  have t10 := kw_tie k7 1 rl_289 rfl
  have t11 := kw_tie k7 23 rl_301 rfl
  show MEvP _ _ lawq 970 [(3, .int i), (2, .ref 301), (1, .ref 0), (0, .long 0)] [.int x4] _ _ _ _
  refine mp_t (s_pop dL_law_970 rfl) (mpp 971 rfl ?_)
  refine mp_a (a_aload_n dL_law_971 rfl) (mpp 972 rfl ?_)
  refine mt_callv (i := 140) (q' := q_234) (As := []) (rest := []) hT6 dL_law_972 rfl qm_234 (by decide) rfl rl_301 (by decide) rfl (Nat.le_of_ble_eq_true rfl) rfl ⟨rfl, rfl⟩ ⟨Nat.le_of_ble_eq_true rfl, Nat.le_of_ble_eq_true rfl⟩ (EvP.mono (by decide) (c_M_save hT6 R9 )) (fun r13 P14 g12 => mpp 975 rfl ?_)
  obtain ⟨⟨x15, rfl, g16⟩, hT17, k18, R19⟩ := g12
  have t20 := kw_tie k18 1 rl_289 rfl
  have t21 := kw_tie k18 23 rl_301 rfl
  show MEvP _ _ lawq 975 [(3, .int i), (2, .ref 301), (1, .ref 0), (0, .long 0)] [.int x15] _ _ _ _
  refine mp_t (s_pop dL_law_975 rfl) (mpp 976 rfl ?_)
  refine mp_a (a_goto (t := 992) dL_law_976 (by decide)) ?_
  exact kk _ ⟨hT17, R19, by omega⟩

set_option maxHeartbeats 4000000 in
theorem law_c31 {xs : List Int32} (hn : xs.length ≤ 2048) {i : Int32} (h0 : 0 ≤ i.toInt) (h4 : i.toInt + 4 ≤ xs.length) {P : mP} (hT : Typ P) (hR : Rel P) (hL : (fv P 289 1).toInt = (fv P 301 23).toInt) (kk : ∀ P' : mP, LI P' → MEvP 15 (some xs) lawq 992 [(3, .int i), (2, .ref 301), (1, .ref 0), (0, .long 0)] [] P' 315 4038 (fun r _ => r = some (.int 1))) : MEvP 15 (some xs) lawq 979 [(3, .int i), (2, .ref 301), (1, .ref 0), (0, .long 0)] [] P 315 4038 (fun r _ => r = some (.int 1)) := by
  refine mp_a (a_aload_n dL_law_979 rfl) (mpp 980 rfl ?_)
  refine mt_callv (i := 141) (q' := q_120) (As := []) (rest := []) hT dL_law_980 rfl qm_120 (by decide) rfl rl_0 (by decide) rfl (Nat.le_of_ble_eq_true rfl) rfl ⟨rfl, rfl⟩ ⟨Nat.le_of_ble_eq_true rfl, Nat.le_of_ble_eq_true rfl⟩ (EvP.mono (by decide) (c_F_restore hT )) (fun r2 P3 g1 => mpp 983 rfl ?_)
  obtain ⟨⟨x4, rfl, g5⟩, hT6, k7, R8⟩ := g1
  have R9 := Rel.kw hR k7 rfl
  have t10 := kw_tie k7 1 rl_289 rfl
  have t11 := kw_tie k7 23 rl_301 rfl
  show MEvP _ _ lawq 983 [(3, .int i), (2, .ref 301), (1, .ref 0), (0, .long 0)] [.int x4] _ _ _ _
  refine mp_t (s_pop dL_law_983 rfl) (mpp 984 rfl ?_)
  refine mp_a (a_aload_n dL_law_984 rfl) (mpp 985 rfl ?_)
  refine mt_callv (i := 144) (q' := q_235) (As := []) (rest := []) hT6 dL_law_985 rfl qm_235 (by decide) rfl rl_301 (by decide) rfl (Nat.le_of_ble_eq_true rfl) rfl ⟨rfl, rfl⟩ ⟨Nat.le_of_ble_eq_true rfl, Nat.le_of_ble_eq_true rfl⟩ (EvP.mono (by decide) (c_M_restore hT6 R9 )) (fun r13 P14 g12 => mpp 988 rfl ?_)
  obtain ⟨⟨x15, rfl, g16⟩, hT17, k18, R19⟩ := g12
  have t20 := kw_tie k18 1 rl_289 rfl
  have t21 := kw_tie k18 23 rl_301 rfl
  show MEvP _ _ lawq 988 [(3, .int i), (2, .ref 301), (1, .ref 0), (0, .long 0)] [.int x15] _ _ _ _
  refine mp_t (s_pop dL_law_988 rfl) (mpp 989 rfl ?_)
  refine mp_a (a_goto (t := 992) dL_law_989 (by decide)) ?_
  exact kk _ ⟨hT17, R19, by omega⟩
