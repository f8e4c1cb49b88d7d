/-! the law, a call each (written by a program) -/
set_option maxHeartbeats 4000000 in
theorem law_c8 {xs : List Int32} (hn : xs.length ≤ 2048) {i : Int32} (h0 : 0 ≤ i.toInt) (h4 : i.toInt + 4 ≤ xs.length) {P : mP} (hT : Typ P) (hR : Rel P) (hX : XR P) (hJ : Inj P) (hS : SIM P) (hZ : TK0 P) (kk : ∀ P' : mP, LI P' → MEvP 15 (some xs) lawq 992 [(3, .int i), (2, .ref 301), (1, .ref 0), (0, .long 0)] [] P' 315 4038 (fun r _ => r = some (.int 1))) : MEvP 15 (some xs) lawq 440 [(3, .int i), (2, .ref 301), (1, .ref 0), (0, .long 0)] [] P 315 4038 (fun r _ => r = some (.int 1)) := by
  refine mp_a (a_aload_n dL_law_440 rfl) (mpp 441 rfl ?_)
  refine mp_a (a_aload_nT dL_law_441 rfl) (mpp 442 rfl ?_)
  refine mp_a (a_iload_n dL_law_442 rfl) (mpp 443 rfl ?_)
  refine mp_a (a_iconst (v := 1) dL_law_443 rfl) (mpp 444 rfl ?_)
  obtain ⟨z1, h2⟩ := ti_ex (i + 1 : Int32)
  have e3 : z1.toInt = i.toInt + 1 := ti_addz h2 rfl rfl (by omega) (by omega)
  refine mp_t (s_iadd (v := z1) dL_law_444 h2) (mpp 445 rfl ?_)
  obtain ⟨w4, h5⟩ := ti_ex (xs.getD z1.toNatClampNeg 0)
  refine mp_sld (v := w4) (N := xs.length) dL_law_445 rfl (t_ix (by omega) (by omega)) h5 (mpp 446 rfl ?_)
  refine mt_callv (i := 48) (q' := q_56) (As := [.int w4]) (rest := []) hT dL_law_446 rfl qm_56 (by decide) rfl rl_0 (by decide) rfl (Nat.le_of_ble_eq_true rfl) rfl ⟨rfl, rfl⟩ ⟨Nat.le_of_ble_eq_true rfl, Nat.le_of_ble_eq_true rfl⟩ (EvP.mono (by decide) (c_F_unfold hT hX hJ )) (fun r7 P8 g6 => mpp 449 rfl ?_)
  obtain ⟨⟨x9, rfl, g10⟩, hT11, k12, J14, R13⟩ := g6
  have R15 : Rel P8 := Rel.kw hR k12 rfl
  have J16 : Inj P8 := J14
  have X17 : XR P8 := KW.xr k12 hX
  have Z18 : TK0 P8 := fun l hl => (congrArg Int32.toInt (KW.at k12 l rl_313 rfl)).trans (hZ l hl)
  replace g10 : KPX P P8 ∧ unfoldC P P8 x9.toInt w4.toInt := g10
  show MEvP _ _ lawq 449 [(3, .int i), (2, .ref 301), (1, .ref 0), (0, .long 0)] [.int x9] _ _ _ _
  refine mp_t (s_pop dL_law_449 rfl) (mpp 450 rfl ?_)
  refine mp_a (a_aload_n dL_law_450 rfl) (mpp 451 rfl ?_)
  refine mp_a (a_aload_nT dL_law_451 rfl) (mpp 452 rfl ?_)
  refine mp_a (a_iload_n dL_law_452 rfl) (mpp 453 rfl ?_)
  refine mp_a (a_iconst (v := 1) dL_law_453 rfl) (mpp 454 rfl ?_)
  refine mp_t (s_iadd (v := z1) dL_law_454 h2) (mpp 455 rfl ?_)
  refine mp_sld (v := w4) (N := xs.length) dL_law_455 rfl (t_ix (by omega) (by omega)) h5 (mpp 456 rfl ?_)
  refine mt_callv (i := 51) (q' := q_190) (As := [.int w4]) (rest := []) hT11 dL_law_456 rfl qm_190 (by decide) rfl rl_301 (by decide) rfl (Nat.le_of_ble_eq_true rfl) rfl ⟨rfl, rfl⟩ ⟨Nat.le_of_ble_eq_true rfl, Nat.le_of_ble_eq_true rfl⟩ (EvP.mono (by decide) (c_M_unfold hT11 R15 )) (fun r20 P21 g19 => mpp 459 rfl ?_)
  obtain ⟨⟨x22, rfl, g23⟩, hT24, k25, R26⟩ := g19
  have R28 : Rel P21 := R26
  have J29 : Inj P21 := Inj.kw J16 k25 rfl
  have X30 : XR P21 := KW.xr k25 X17
  have Z31 : TK0 P21 := fun l hl => (congrArg Int32.toInt (KW.at k25 l rl_313 rfl)).trans (Z18 l hl)
  replace g23 : TOPM P8 P21 x22.toInt ∧ unfoldsM (sr P8) (sr P21) x22.toInt w4.toInt := g23
  show MEvP _ _ lawq 459 [(3, .int i), (2, .ref 301), (1, .ref 0), (0, .long 0)] [.int x22] _ _ _ _
  refine mp_t (s_pop dL_law_459 rfl) (mpp 460 rfl ?_)
  refine mp_a (a_goto (t := 992) dL_law_460 (by decide)) ?_
  have m32h : ∀ a j : Nat, 301 ≤ a → a < 315 → fv P8 a j = fv P a j := fun a j h1 h2 => KW.high k12 hT hT11 (by decide) h1 h2 j
  have m32l : ∀ a j : Nat, a < 301 → fv P21 a j = fv P8 a j := fun a j h1 => KW.low k25 hT11 hT24 (by decide) h1 j
  have m32r : ∀ k : Nat, rv P21 2 k = rv P8 2 k := fun k => k25.2.2 rfl k
  have m32e : sr P8 = sr P := funext (fun j => m32h 302 j (by omega) (by omega))
  have m32m := g23.2
  rw [m32e] at m32m
  have s1 := hS.1
  have s6 := hS.2.2.2.2.2.1
  have m32o := unfold_core hT hJ s1 s6 g10.2 m32m
  exact kk _ ⟨hT24, R28, X30, J29, SIM.fin hS hT hT11 g10.1 m32h g23.1 m32l m32r m32o.1 m32o.2, Z31⟩

set_option maxHeartbeats 4000000 in
theorem law_c9 {xs : List Int32} (hn : xs.length ≤ 2048) {i : Int32} (h0 : 0 ≤ i.toInt) (h4 : i.toInt + 4 ≤ xs.length) {P : mP} (hT : Typ P) (hR : Rel P) (hX : XR P) (hJ : Inj P) (hS : SIM P) (hZ : TK0 P) (kk : ∀ P' : mP, LI P' → MEvP 15 (some xs) lawq 992 [(3, .int i), (2, .ref 301), (1, .ref 0), (0, .long 0)] [] P' 315 4038 (fun r _ => r = some (.int 1))) : MEvP 15 (some xs) lawq 463 [(3, .int i), (2, .ref 301), (1, .ref 0), (0, .long 0)] [] P 315 4038 (fun r _ => r = some (.int 1)) := by
  refine mp_a (a_aload_n dL_law_463 rfl) (mpp 464 rfl ?_)
  refine mp_a (a_aload_nT dL_law_464 rfl) (mpp 465 rfl ?_)
  refine mp_a (a_iload_n dL_law_465 rfl) (mpp 466 rfl ?_)
  refine mp_a (a_iconst (v := 1) dL_law_466 rfl) (mpp 467 rfl ?_)
  obtain ⟨z1, h2⟩ := ti_ex (i + 1 : Int32)
  have e3 : z1.toInt = i.toInt + 1 := ti_addz h2 rfl rfl (by omega) (by omega)
  refine mp_t (s_iadd (v := z1) dL_law_467 h2) (mpp 468 rfl ?_)
  obtain ⟨w4, h5⟩ := ti_ex (xs.getD z1.toNatClampNeg 0)
  refine mp_sld (v := w4) (N := xs.length) dL_law_468 rfl (t_ix (by omega) (by omega)) h5 (mpp 469 rfl ?_)
  refine mt_callv (i := 52) (q' := q_57) (As := [.int w4]) (rest := []) hT dL_law_469 rfl qm_57 (by decide) rfl rl_0 (by decide) rfl (Nat.le_of_ble_eq_true rfl) rfl ⟨rfl, rfl⟩ ⟨Nat.le_of_ble_eq_true rfl, Nat.le_of_ble_eq_true rfl⟩ (EvP.mono (by decide) (c_F_drop hT hX hJ )) (fun r7 P8 g6 => mpp 472 rfl ?_)
  obtain ⟨⟨x9, rfl, g10⟩, hT11, k12, J14, R13⟩ := g6
  have R15 : Rel P8 := Rel.kw hR k12 rfl
  have J16 : Inj P8 := J14
  have X17 : XR P8 := KW.xr k12 hX
  have Z18 : TK0 P8 := fun l hl => (congrArg Int32.toInt (KW.at k12 l rl_313 rfl)).trans (hZ l hl)
  replace g10 : KPX P P8 ∧ dropC P P8 x9.toInt w4.toInt := g10
  show MEvP _ _ lawq 472 [(3, .int i), (2, .ref 301), (1, .ref 0), (0, .long 0)] [.int x9] _ _ _ _
  refine mp_t (s_pop dL_law_472 rfl) (mpp 473 rfl ?_)
  refine mp_a (a_aload_n dL_law_473 rfl) (mpp 474 rfl ?_)
  refine mp_a (a_aload_nT dL_law_474 rfl) (mpp 475 rfl ?_)
  refine mp_a (a_iload_n dL_law_475 rfl) (mpp 476 rfl ?_)
  refine mp_a (a_iconst (v := 1) dL_law_476 rfl) (mpp 477 rfl ?_)
  refine mp_t (s_iadd (v := z1) dL_law_477 h2) (mpp 478 rfl ?_)
  refine mp_sld (v := w4) (N := xs.length) dL_law_478 rfl (t_ix (by omega) (by omega)) h5 (mpp 479 rfl ?_)
  refine mt_callv (i := 55) (q' := q_192) (As := [.int w4]) (rest := []) hT11 dL_law_479 rfl qm_192 (by decide) rfl rl_301 (by decide) rfl (Nat.le_of_ble_eq_true rfl) rfl ⟨rfl, rfl⟩ ⟨Nat.le_of_ble_eq_true rfl, Nat.le_of_ble_eq_true rfl⟩ (EvP.mono (by decide) (c_M_drop hT11 R15 )) (fun r20 P21 g19 => mpp 482 rfl ?_)
  obtain ⟨⟨x22, rfl, g23⟩, hT24, k25, R26⟩ := g19
  have R28 : Rel P21 := R26
  have J29 : Inj P21 := Inj.kw J16 k25 rfl
  have X30 : XR P21 := KW.xr k25 X17
  have Z31 : TK0 P21 := fun l hl => (congrArg Int32.toInt (KW.at k25 l rl_313 rfl)).trans (Z18 l hl)
  replace g23 : TOPM P8 P21 x22.toInt ∧ dropsM (sr P8) (sr P21) x22.toInt w4.toInt := g23
  show MEvP _ _ lawq 482 [(3, .int i), (2, .ref 301), (1, .ref 0), (0, .long 0)] [.int x22] _ _ _ _
  refine mp_t (s_pop dL_law_482 rfl) (mpp 483 rfl ?_)
  refine mp_a (a_goto (t := 992) dL_law_483 (by decide)) ?_
  have m32h : ∀ a j : Nat, 301 ≤ a → a < 315 → fv P8 a j = fv P a j := fun a j h1 h2 => KW.high k12 hT hT11 (by decide) h1 h2 j
  have m32l : ∀ a j : Nat, a < 301 → fv P21 a j = fv P8 a j := fun a j h1 => KW.low k25 hT11 hT24 (by decide) h1 j
  have m32r : ∀ k : Nat, rv P21 2 k = rv P8 2 k := fun k => k25.2.2 rfl k
  have m32e : sr P8 = sr P := funext (fun j => m32h 302 j (by omega) (by omega))
  have m32m := g23.2
  rw [m32e] at m32m
  have s1 := hS.1
  have s6 := hS.2.2.2.2.2.1
  have m32o := drop_core hT s1 s6 g10.2 m32m
  exact kk _ ⟨hT24, R28, X30, J29, SIM.fin hS hT hT11 g10.1 m32h g23.1 m32l m32r m32o.1 m32o.2, Z31⟩

set_option maxHeartbeats 4000000 in
theorem law_c10 {xs : List Int32} (hn : xs.length ≤ 2048) {i : Int32} (h0 : 0 ≤ i.toInt) (h4 : i.toInt + 4 ≤ xs.length) {P : mP} (hT : Typ P) (hR : Rel P) (hX : XR P) (hJ : Inj P) (hS : SIM P) (hZ : TK0 P) (kk : ∀ P' : mP, LI P' → MEvP 15 (some xs) lawq 992 [(3, .int i), (2, .ref 301), (1, .ref 0), (0, .long 0)] [] P' 315 4038 (fun r _ => r = some (.int 1))) : MEvP 15 (some xs) lawq 486 [(3, .int i), (2, .ref 301), (1, .ref 0), (0, .long 0)] [] P 315 4038 (fun r _ => r = some (.int 1)) := by
  refine mp_a (a_aload_n dL_law_486 rfl) (mpp 487 rfl ?_)
  refine mp_a (a_aload_nT dL_law_487 rfl) (mpp 488 rfl ?_)
  refine mp_a (a_iload_n dL_law_488 rfl) (mpp 489 rfl ?_)
  refine mp_a (a_iconst (v := 1) dL_law_489 rfl) (mpp 490 rfl ?_)
  obtain ⟨z1, h2⟩ := ti_ex (i + 1 : Int32)
  have e3 : z1.toInt = i.toInt + 1 := ti_addz h2 rfl rfl (by omega) (by omega)
  refine mp_t (s_iadd (v := z1) dL_law_490 h2) (mpp 491 rfl ?_)
  obtain ⟨w4, h5⟩ := ti_ex (xs.getD z1.toNatClampNeg 0)
  refine mp_sld (v := w4) (N := xs.length) dL_law_491 rfl (t_ix (by omega) (by omega)) h5 (mpp 492 rfl ?_)
  refine mp_a (a_aload_nT dL_law_492 rfl) (mpp 493 rfl ?_)
  refine mp_a (a_iload_n dL_law_493 rfl) (mpp 494 rfl ?_)
  refine mp_a (a_iconst (v := 2) dL_law_494 rfl) (mpp 495 rfl ?_)
  obtain ⟨z6, h7⟩ := ti_ex (i + 2 : Int32)
  have e8 : z6.toInt = i.toInt + 2 := ti_addz h7 rfl rfl (by omega) (by omega)
  refine mp_t (s_iadd (v := z6) dL_law_495 h7) (mpp 496 rfl ?_)
  obtain ⟨w9, h10⟩ := ti_ex (xs.getD z6.toNatClampNeg 0)
  refine mp_sld (v := w9) (N := xs.length) dL_law_496 rfl (t_ix (by omega) (by omega)) h10 (mpp 497 rfl ?_)
  refine mt_callv (i := 56) (q' := q_58) (As := [.int w4, .int w9]) (rest := []) hT dL_law_497 rfl qm_58 (by decide) rfl rl_0 (by decide) rfl (Nat.le_of_ble_eq_true rfl) rfl ⟨rfl, rfl⟩ ⟨Nat.le_of_ble_eq_true rfl, Nat.le_of_ble_eq_true rfl⟩ (EvP.mono (by decide) (c_F_piece hT hX )) (fun r12 P13 g11 => mpp 500 rfl ?_)
  obtain ⟨⟨x14, rfl, g15⟩, e16⟩ := g11
  have e16 := e16.symm
  subst e16
  replace g15 : pieceC P x14.toInt w4.toInt w9.toInt := g15
  show MEvP _ _ lawq 500 [(3, .int i), (2, .ref 301), (1, .ref 0), (0, .long 0)] [.int x14] _ _ _ _
  refine mp_t (s_pop dL_law_500 rfl) (mpp 501 rfl ?_)
  refine mp_a (a_aload_n dL_law_501 rfl) (mpp 502 rfl ?_)
  refine mp_a (a_aload_nT dL_law_502 rfl) (mpp 503 rfl ?_)
  refine mp_a (a_iload_n dL_law_503 rfl) (mpp 504 rfl ?_)
  refine mp_a (a_iconst (v := 1) dL_law_504 rfl) (mpp 505 rfl ?_)
  refine mp_t (s_iadd (v := z1) dL_law_505 h2) (mpp 506 rfl ?_)
  refine mp_sld (v := w4) (N := xs.length) dL_law_506 rfl (t_ix (by omega) (by omega)) h5 (mpp 507 rfl ?_)
  refine mp_a (a_aload_nT dL_law_507 rfl) (mpp 508 rfl ?_)
  refine mp_a (a_iload_n dL_law_508 rfl) (mpp 509 rfl ?_)
  refine mp_a (a_iconst (v := 2) dL_law_509 rfl) (mpp 510 rfl ?_)
  refine mp_t (s_iadd (v := z6) dL_law_510 h7) (mpp 511 rfl ?_)
  refine mp_sld (v := w9) (N := xs.length) dL_law_511 rfl (t_ix (by omega) (by omega)) h10 (mpp 512 rfl ?_)
  refine mt_callv (i := 59) (q' := q_194) (As := [.int w4, .int w9]) (rest := []) hT dL_law_512 rfl qm_194 (by decide) rfl rl_301 (by decide) rfl (Nat.le_of_ble_eq_true rfl) rfl ⟨rfl, rfl⟩ ⟨Nat.le_of_ble_eq_true rfl, Nat.le_of_ble_eq_true rfl⟩ (EvP.mono (by decide) (c_M_piece hT )) (fun r18 P19 g17 => mpp 515 rfl ?_)
  obtain ⟨⟨x20, rfl, g21⟩, e22⟩ := g17
  have e22 := e22.symm
  subst e22
  replace g21 : pieceM (sr P) x20.toInt w4.toInt w9.toInt := g21
  show MEvP _ _ lawq 515 [(3, .int i), (2, .ref 301), (1, .ref 0), (0, .long 0)] [.int x20] _ _ _ _
  refine mp_t (s_pop dL_law_515 rfl) (mpp 516 rfl ?_)
  refine mp_a (a_goto (t := 992) dL_law_516 (by decide)) ?_
  have m23h : ∀ a j : Nat, 301 ≤ a → a < 315 → fv P a j = fv P a j := fun _ _ _ _ => rfl
  have m23l : ∀ a j : Nat, a < 301 → fv P a j = fv P a j := fun _ _ _ => rfl
  have m23r : ∀ k : Nat, rv P 2 k = rv P 2 k := fun _ => rfl
  exact kk _ ⟨hT, hR, hX, hJ, SIM.same hS hT (fun x j h1 h2 => (m23l x j (by omega)).trans (rfl)) (fun k => (m23r k).trans ((fun _ => rfl) k)) ((m23l 0 8 (by omega)).trans rfl) (fun j => m23h 302 j (by omega) (by omega)) (m23h 301 4 (by omega) (by omega)) (m23h 301 8 (by omega) (by omega)) (m23h 301 23 (by omega) (by omega)) (fun j => m23h 304 j (by omega) (by omega)) (fun j => m23h 305 j (by omega) (by omega)) (fun j => m23h 314 j (by omega) (by omega)), hZ⟩

set_option maxHeartbeats 4000000 in
theorem law_c11 {xs : List Int32} (hn : xs.length ≤ 2048) {i : Int32} (h0 : 0 ≤ i.toInt) (h4 : i.toInt + 4 ≤ xs.length) {P : mP} (hT : Typ P) (hR : Rel P) (hX : XR P) (hJ : Inj P) (hS : SIM P) (hZ : TK0 P) (kk : ∀ P' : mP, LI P' → MEvP 15 (some xs) lawq 992 [(3, .int i), (2, .ref 301), (1, .ref 0), (0, .long 0)] [] P' 315 4038 (fun r _ => r = some (.int 1))) : MEvP 15 (some xs) lawq 519 [(3, .int i), (2, .ref 301), (1, .ref 0), (0, .long 0)] [] P 315 4038 (fun r _ => r = some (.int 1)) := by
  refine mp_a (a_aload_n dL_law_519 rfl) (mpp 520 rfl ?_)
  refine mp_a (a_aload_nT dL_law_520 rfl) (mpp 521 rfl ?_)
  refine mp_a (a_iload_n dL_law_521 rfl) (mpp 522 rfl ?_)
  refine mp_a (a_iconst (v := 1) dL_law_522 rfl) (mpp 523 rfl ?_)
  obtain ⟨z1, h2⟩ := ti_ex (i + 1 : Int32)
  have e3 : z1.toInt = i.toInt + 1 := ti_addz h2 rfl rfl (by omega) (by omega)
  refine mp_t (s_iadd (v := z1) dL_law_523 h2) (mpp 524 rfl ?_)
  obtain ⟨w4, h5⟩ := ti_ex (xs.getD z1.toNatClampNeg 0)
  refine mp_sld (v := w4) (N := xs.length) dL_law_524 rfl (t_ix (by omega) (by omega)) h5 (mpp 525 rfl ?_)
  refine mp_a (a_aload_nT dL_law_525 rfl) (mpp 526 rfl ?_)
  refine mp_a (a_iload_n dL_law_526 rfl) (mpp 527 rfl ?_)
  refine mp_a (a_iconst (v := 2) dL_law_527 rfl) (mpp 528 rfl ?_)
  obtain ⟨z6, h7⟩ := ti_ex (i + 2 : Int32)
  have e8 : z6.toInt = i.toInt + 2 := ti_addz h7 rfl rfl (by omega) (by omega)
  refine mp_t (s_iadd (v := z6) dL_law_528 h7) (mpp 529 rfl ?_)
  obtain ⟨w9, h10⟩ := ti_ex (xs.getD z6.toNatClampNeg 0)
  refine mp_sld (v := w9) (N := xs.length) dL_law_529 rfl (t_ix (by omega) (by omega)) h10 (mpp 530 rfl ?_)
  refine mt_callv (i := 60) (q' := q_59) (As := [.int w4, .int w9]) (rest := []) hT dL_law_530 rfl qm_59 (by decide) rfl rl_0 (by decide) rfl (Nat.le_of_ble_eq_true rfl) rfl ⟨rfl, rfl⟩ ⟨Nat.le_of_ble_eq_true rfl, Nat.le_of_ble_eq_true rfl⟩ (EvP.mono (by decide) (c_F_size hT hX )) (fun r12 P13 g11 => mpp 533 rfl ?_)
  obtain ⟨⟨x14, rfl, g15⟩, e16⟩ := g11
  have e16 := e16.symm
  subst e16
  replace g15 : sizeC P x14.toInt w4.toInt w9.toInt := g15
  show MEvP _ _ lawq 533 [(3, .int i), (2, .ref 301), (1, .ref 0), (0, .long 0)] [.int x14] _ _ _ _
  refine mp_t (s_pop dL_law_533 rfl) (mpp 534 rfl ?_)
  refine mp_a (a_aload_n dL_law_534 rfl) (mpp 535 rfl ?_)
  refine mp_a (a_aload_nT dL_law_535 rfl) (mpp 536 rfl ?_)
  refine mp_a (a_iload_n dL_law_536 rfl) (mpp 537 rfl ?_)
  refine mp_a (a_iconst (v := 1) dL_law_537 rfl) (mpp 538 rfl ?_)
  refine mp_t (s_iadd (v := z1) dL_law_538 h2) (mpp 539 rfl ?_)
  refine mp_sld (v := w4) (N := xs.length) dL_law_539 rfl (t_ix (by omega) (by omega)) h5 (mpp 540 rfl ?_)
  refine mp_a (a_aload_nT dL_law_540 rfl) (mpp 541 rfl ?_)
  refine mp_a (a_iload_n dL_law_541 rfl) (mpp 542 rfl ?_)
  refine mp_a (a_iconst (v := 2) dL_law_542 rfl) (mpp 543 rfl ?_)
  refine mp_t (s_iadd (v := z6) dL_law_543 h7) (mpp 544 rfl ?_)
  refine mp_sld (v := w9) (N := xs.length) dL_law_544 rfl (t_ix (by omega) (by omega)) h10 (mpp 545 rfl ?_)
  refine mt_callv (i := 63) (q' := q_196) (As := [.int w4, .int w9]) (rest := []) hT dL_law_545 rfl qm_196 (by decide) rfl rl_301 (by decide) rfl (Nat.le_of_ble_eq_true rfl) rfl ⟨rfl, rfl⟩ ⟨Nat.le_of_ble_eq_true rfl, Nat.le_of_ble_eq_true rfl⟩ (EvP.mono (by decide) (c_M_size hT )) (fun r18 P19 g17 => mpp 548 rfl ?_)
  obtain ⟨⟨x20, rfl, g21⟩, e22⟩ := g17
  have e22 := e22.symm
  subst e22
  replace g21 : sizeM (sr P) x20.toInt w4.toInt w9.toInt := g21
  show MEvP _ _ lawq 548 [(3, .int i), (2, .ref 301), (1, .ref 0), (0, .long 0)] [.int x20] _ _ _ _
  refine mp_t (s_pop dL_law_548 rfl) (mpp 549 rfl ?_)
  refine mp_a (a_goto (t := 992) dL_law_549 (by decide)) ?_
  have m23h : ∀ a j : Nat, 301 ≤ a → a < 315 → fv P a j = fv P a j := fun _ _ _ _ => rfl
  have m23l : ∀ a j : Nat, a < 301 → fv P a j = fv P a j := fun _ _ _ => rfl
  have m23r : ∀ k : Nat, rv P 2 k = rv P 2 k := fun _ => rfl
  exact kk _ ⟨hT, hR, hX, hJ, SIM.same hS hT (fun x j h1 h2 => (m23l x j (by omega)).trans (rfl)) (fun k => (m23r k).trans ((fun _ => rfl) k)) ((m23l 0 8 (by omega)).trans rfl) (fun j => m23h 302 j (by omega) (by omega)) (m23h 301 4 (by omega) (by omega)) (m23h 301 8 (by omega) (by omega)) (m23h 301 23 (by omega) (by omega)) (fun j => m23h 304 j (by omega) (by omega)) (fun j => m23h 305 j (by omega) (by omega)) (fun j => m23h 314 j (by omega) (by omega)), hZ⟩

set_option maxHeartbeats 4000000 in
theorem law_c12 {xs : List Int32} (hn : xs.length ≤ 2048) {i : Int32} (h0 : 0 ≤ i.toInt) (h4 : i.toInt + 4 ≤ xs.length) {P : mP} (hT : Typ P) (hR : Rel P) (hX : XR P) (hJ : Inj P) (hS : SIM P) (hZ : TK0 P) (kk : ∀ P' : mP, LI P' → MEvP 15 (some xs) lawq 992 [(3, .int i), (2, .ref 301), (1, .ref 0), (0, .long 0)] [] P' 315 4038 (fun r _ => r = some (.int 1))) : MEvP 15 (some xs) lawq 552 [(3, .int i), (2, .ref 301), (1, .ref 0), (0, .long 0)] [] P 315 4038 (fun r _ => r = some (.int 1)) := by
  refine mp_a (a_aload_n dL_law_552 rfl) (mpp 553 rfl ?_)
  refine mp_a (a_aload_nT dL_law_553 rfl) (mpp 554 rfl ?_)
  refine mp_a (a_iload_n dL_law_554 rfl) (mpp 555 rfl ?_)
  refine mp_a (a_iconst (v := 1) dL_law_555 rfl) (mpp 556 rfl ?_)
  obtain ⟨z1, h2⟩ := ti_ex (i + 1 : Int32)
  have e3 : z1.toInt = i.toInt + 1 := ti_addz h2 rfl rfl (by omega) (by omega)
  refine mp_t (s_iadd (v := z1) dL_law_556 h2) (mpp 557 rfl ?_)
  obtain ⟨w4, h5⟩ := ti_ex (xs.getD z1.toNatClampNeg 0)
  refine mp_sld (v := w4) (N := xs.length) dL_law_557 rfl (t_ix (by omega) (by omega)) h5 (mpp 558 rfl ?_)
  refine mp_a (a_aload_nT dL_law_558 rfl) (mpp 559 rfl ?_)
  refine mp_a (a_iload_n dL_law_559 rfl) (mpp 560 rfl ?_)
  refine mp_a (a_iconst (v := 2) dL_law_560 rfl) (mpp 561 rfl ?_)
  obtain ⟨z6, h7⟩ := ti_ex (i + 2 : Int32)
  have e8 : z6.toInt = i.toInt + 2 := ti_addz h7 rfl rfl (by omega) (by omega)
  refine mp_t (s_iadd (v := z6) dL_law_561 h7) (mpp 562 rfl ?_)
  obtain ⟨w9, h10⟩ := ti_ex (xs.getD z6.toNatClampNeg 0)
  refine mp_sld (v := w9) (N := xs.length) dL_law_562 rfl (t_ix (by omega) (by omega)) h10 (mpp 563 rfl ?_)
  refine mt_callv (i := 64) (q' := q_60) (As := [.int w4, .int w9]) (rest := []) hT dL_law_563 rfl qm_60 (by decide) rfl rl_0 (by decide) rfl (Nat.le_of_ble_eq_true rfl) rfl ⟨rfl, rfl⟩ ⟨Nat.le_of_ble_eq_true rfl, Nat.le_of_ble_eq_true rfl⟩ (EvP.mono (by decide) (c_F_crease hT hX )) (fun r12 P13 g11 => mpp 566 rfl ?_)
  obtain ⟨⟨x14, rfl, g15⟩, e16⟩ := g11
  have e16 := e16.symm
  subst e16
  replace g15 : creaseC P x14.toInt w4.toInt w9.toInt := g15
  show MEvP _ _ lawq 566 [(3, .int i), (2, .ref 301), (1, .ref 0), (0, .long 0)] [.int x14] _ _ _ _
  refine mp_t (s_pop dL_law_566 rfl) (mpp 567 rfl ?_)
  refine mp_a (a_aload_n dL_law_567 rfl) (mpp 568 rfl ?_)
  refine mp_a (a_aload_nT dL_law_568 rfl) (mpp 569 rfl ?_)
  refine mp_a (a_iload_n dL_law_569 rfl) (mpp 570 rfl ?_)
  refine mp_a (a_iconst (v := 1) dL_law_570 rfl) (mpp 571 rfl ?_)
  refine mp_t (s_iadd (v := z1) dL_law_571 h2) (mpp 572 rfl ?_)
  refine mp_sld (v := w4) (N := xs.length) dL_law_572 rfl (t_ix (by omega) (by omega)) h5 (mpp 573 rfl ?_)
  refine mp_a (a_aload_nT dL_law_573 rfl) (mpp 574 rfl ?_)
  refine mp_a (a_iload_n dL_law_574 rfl) (mpp 575 rfl ?_)
  refine mp_a (a_iconst (v := 2) dL_law_575 rfl) (mpp 576 rfl ?_)
  refine mp_t (s_iadd (v := z6) dL_law_576 h7) (mpp 577 rfl ?_)
  refine mp_sld (v := w9) (N := xs.length) dL_law_577 rfl (t_ix (by omega) (by omega)) h10 (mpp 578 rfl ?_)
  refine mt_callv (i := 67) (q' := q_197) (As := [.int w4, .int w9]) (rest := []) hT dL_law_578 rfl qm_197 (by decide) rfl rl_301 (by decide) rfl (Nat.le_of_ble_eq_true rfl) rfl ⟨rfl, rfl⟩ ⟨Nat.le_of_ble_eq_true rfl, Nat.le_of_ble_eq_true rfl⟩ (EvP.mono (by decide) (c_M_crease hT )) (fun r18 P19 g17 => mpp 581 rfl ?_)
  obtain ⟨⟨x20, rfl, g21⟩, e22⟩ := g17
  have e22 := e22.symm
  subst e22
  replace g21 : creaseM (sr P) x20.toInt w4.toInt w9.toInt := g21
  show MEvP _ _ lawq 581 [(3, .int i), (2, .ref 301), (1, .ref 0), (0, .long 0)] [.int x20] _ _ _ _
  refine mp_t (s_pop dL_law_581 rfl) (mpp 582 rfl ?_)
  refine mp_a (a_goto (t := 992) dL_law_582 (by decide)) ?_
  have m23h : ∀ a j : Nat, 301 ≤ a → a < 315 → fv P a j = fv P a j := fun _ _ _ _ => rfl
  have m23l : ∀ a j : Nat, a < 301 → fv P a j = fv P a j := fun _ _ _ => rfl
  have m23r : ∀ k : Nat, rv P 2 k = rv P 2 k := fun _ => rfl
  exact kk _ ⟨hT, hR, hX, hJ, SIM.same hS hT (fun x j h1 h2 => (m23l x j (by omega)).trans (rfl)) (fun k => (m23r k).trans ((fun _ => rfl) k)) ((m23l 0 8 (by omega)).trans rfl) (fun j => m23h 302 j (by omega) (by omega)) (m23h 301 4 (by omega) (by omega)) (m23h 301 8 (by omega) (by omega)) (m23h 301 23 (by omega) (by omega)) (fun j => m23h 304 j (by omega) (by omega)) (fun j => m23h 305 j (by omega) (by omega)) (fun j => m23h 314 j (by omega) (by omega)), hZ⟩

set_option maxHeartbeats 4000000 in
theorem law_c13 {xs : List Int32} (hn : xs.length ≤ 2048) {i : Int32} (h0 : 0 ≤ i.toInt) (h4 : i.toInt + 4 ≤ xs.length) {P : mP} (hT : Typ P) (hR : Rel P) (hX : XR P) (hJ : Inj P) (hS : SIM P) (hZ : TK0 P) (kk : ∀ P' : mP, LI P' → MEvP 15 (some xs) lawq 992 [(3, .int i), (2, .ref 301), (1, .ref 0), (0, .long 0)] [] P' 315 4038 (fun r _ => r = some (.int 1))) : MEvP 15 (some xs) lawq 585 [(3, .int i), (2, .ref 301), (1, .ref 0), (0, .long 0)] [] P 315 4038 (fun r _ => r = some (.int 1)) := by
  refine mp_a (a_aload_n dL_law_585 rfl) (mpp 586 rfl ?_)
  refine mp_a (a_aload_nT dL_law_586 rfl) (mpp 587 rfl ?_)
  refine mp_a (a_iload_n dL_law_587 rfl) (mpp 588 rfl ?_)
  refine mp_a (a_iconst (v := 1) dL_law_588 rfl) (mpp 589 rfl ?_)
  obtain ⟨z1, h2⟩ := ti_ex (i + 1 : Int32)
  have e3 : z1.toInt = i.toInt + 1 := ti_addz h2 rfl rfl (by omega) (by omega)
  refine mp_t (s_iadd (v := z1) dL_law_589 h2) (mpp 590 rfl ?_)
  obtain ⟨w4, h5⟩ := ti_ex (xs.getD z1.toNatClampNeg 0)
  refine mp_sld (v := w4) (N := xs.length) dL_law_590 rfl (t_ix (by omega) (by omega)) h5 (mpp 591 rfl ?_)
  refine mt_callv (i := 68) (q' := q_61) (As := [.int w4]) (rest := []) hT dL_law_591 rfl qm_61 (by decide) rfl rl_0 (by decide) rfl (Nat.le_of_ble_eq_true rfl) rfl ⟨rfl, rfl⟩ ⟨Nat.le_of_ble_eq_true rfl, Nat.le_of_ble_eq_true rfl⟩ (EvP.mono (by decide) (c_F_why hT hX )) (fun r7 P8 g6 => mpp 594 rfl ?_)
  obtain ⟨⟨x9, rfl, g10⟩, hT11, k12, R13⟩ := g6
  have R15 : Rel P8 := Rel.kw hR k12 rfl
  have J16 : Inj P8 := Inj.kw hJ k12 rfl
  have X17 : XR P8 := KW.xr k12 hX
  have Z18 : TK0 P8 := fun l hl => (congrArg Int32.toInt (KW.at k12 l rl_313 rfl)).trans (hZ l hl)
  replace g10 : whyC P x9.toInt w4.toInt := g10
  show MEvP _ _ lawq 594 [(3, .int i), (2, .ref 301), (1, .ref 0), (0, .long 0)] [.int x9] _ _ _ _
  refine mp_t (s_pop dL_law_594 rfl) (mpp 595 rfl ?_)
  refine mp_a (a_aload_n dL_law_595 rfl) (mpp 596 rfl ?_)
  refine mp_a (a_aload_nT dL_law_596 rfl) (mpp 597 rfl ?_)
  refine mp_a (a_iload_n dL_law_597 rfl) (mpp 598 rfl ?_)
  refine mp_a (a_iconst (v := 1) dL_law_598 rfl) (mpp 599 rfl ?_)
  refine mp_t (s_iadd (v := z1) dL_law_599 h2) (mpp 600 rfl ?_)
  refine mp_sld (v := w4) (N := xs.length) dL_law_600 rfl (t_ix (by omega) (by omega)) h5 (mpp 601 rfl ?_)
  refine mt_callv (i := 71) (q' := q_159) (As := [.int w4]) (rest := []) hT11 dL_law_601 rfl qm_159 (by decide) rfl rl_301 (by decide) rfl (Nat.le_of_ble_eq_true rfl) rfl ⟨rfl, rfl⟩ ⟨Nat.le_of_ble_eq_true rfl, Nat.le_of_ble_eq_true rfl⟩ (EvP.mono (by decide) (c_M_why hT11 )) (fun r20 P21 g19 => mpp 604 rfl ?_)
  obtain ⟨⟨x22, rfl, g23⟩, hT24, k25, R26⟩ := g19
  have R28 : Rel P21 := Rel.kw R15 k25 rfl
  have J29 : Inj P21 := Inj.kw J16 k25 rfl
  have X30 : XR P21 := KW.xr k25 X17
  have Z31 : TK0 P21 := fun l hl => (congrArg Int32.toInt (KW.at k25 l rl_313 rfl)).trans (Z18 l hl)
  replace g23 : whyM (sr P8) x22.toInt w4.toInt := g23
  show MEvP _ _ lawq 604 [(3, .int i), (2, .ref 301), (1, .ref 0), (0, .long 0)] [.int x22] _ _ _ _
  refine mp_t (s_pop dL_law_604 rfl) (mpp 605 rfl ?_)
  refine mp_a (a_goto (t := 992) dL_law_605 (by decide)) ?_
  have m32h : ∀ a j : Nat, 301 ≤ a → a < 315 → fv P8 a j = fv P a j := fun a j h1 h2 => KW.high k12 hT hT11 (by decide) h1 h2 j
  have m32l : ∀ a j : Nat, a < 301 → fv P21 a j = fv P8 a j := fun a j h1 => KW.low k25 hT11 hT24 (by decide) h1 j
  have m32r : ∀ k : Nat, rv P21 2 k = rv P8 2 k := fun k => k25.2.2 rfl k
  exact kk _ ⟨hT24, R28, X30, J29, SIM.same hS hT (fun x j h1 h2 => (m32l x j (by omega)).trans (KW.q k12 hT hT11 (by decide) h1 h2 j)) (fun k => (m32r k).trans ((fun k => k12.2.2 rfl k) k)) ((m32l 0 8 (by omega)).trans (KW.at k12 8 rl_0 rfl)) (fun j => (KW.at k25 j rl_302 rfl).trans (m32h 302 j (by omega) (by omega))) ((KW.at k25 4 rl_301 rfl).trans (m32h 301 4 (by omega) (by omega))) ((KW.at k25 8 rl_301 rfl).trans (m32h 301 8 (by omega) (by omega))) ((KW.at k25 23 rl_301 rfl).trans (m32h 301 23 (by omega) (by omega))) (fun j => (KW.at k25 j rl_304 rfl).trans (m32h 304 j (by omega) (by omega))) (fun j => (KW.at k25 j rl_305 rfl).trans (m32h 305 j (by omega) (by omega))) (fun j => (KW.at k25 j rl_314 rfl).trans (m32h 314 j (by omega) (by omega))), Z31⟩

set_option maxHeartbeats 4000000 in
theorem law_c14 {xs : List Int32} (hn : xs.length ≤ 2048) {i : Int32} (h0 : 0 ≤ i.toInt) (h4 : i.toInt + 4 ≤ xs.length) {P : mP} (hT : Typ P) (hR : Rel P) (hX : XR P) (hJ : Inj P) (hS : SIM P) (hZ : TK0 P) (kk : ∀ P' : mP, LI P' → MEvP 15 (some xs) lawq 992 [(3, .int i), (2, .ref 301), (1, .ref 0), (0, .long 0)] [] P' 315 4038 (fun r _ => r = some (.int 1))) : MEvP 15 (some xs) lawq 608 [(3, .int i), (2, .ref 301), (1, .ref 0), (0, .long 0)] [] P 315 4038 (fun r _ => r = some (.int 1)) := by
  refine mp_a (a_aload_n dL_law_608 rfl) (mpp 609 rfl ?_)
  refine mp_a (a_aload_nT dL_law_609 rfl) (mpp 610 rfl ?_)
  refine mp_a (a_iload_n dL_law_610 rfl) (mpp 611 rfl ?_)
  refine mp_a (a_iconst (v := 1) dL_law_611 rfl) (mpp 612 rfl ?_)
  obtain ⟨z1, h2⟩ := ti_ex (i + 1 : Int32)
  have e3 : z1.toInt = i.toInt + 1 := ti_addz h2 rfl rfl (by omega) (by omega)
  refine mp_t (s_iadd (v := z1) dL_law_612 h2) (mpp 613 rfl ?_)
  obtain ⟨w4, h5⟩ := ti_ex (xs.getD z1.toNatClampNeg 0)
  refine mp_sld (v := w4) (N := xs.length) dL_law_613 rfl (t_ix (by omega) (by omega)) h5 (mpp 614 rfl ?_)
  refine mt_callv (i := 72) (q' := q_62) (As := [.int w4]) (rest := []) hT dL_law_614 rfl qm_62 (by decide) rfl rl_0 (by decide) rfl (Nat.le_of_ble_eq_true rfl) rfl ⟨rfl, rfl⟩ ⟨Nat.le_of_ble_eq_true rfl, Nat.le_of_ble_eq_true rfl⟩ (EvP.mono (by decide) (c_F_foldsAgain hT hX )) (fun r7 P8 g6 => mpp 617 rfl ?_)
  obtain ⟨⟨x9, rfl, g10⟩, hT11, k12, R13⟩ := g6
  have R15 : Rel P8 := Rel.kw hR k12 rfl
  have J16 : Inj P8 := Inj.kw hJ k12 rfl
  have X17 : XR P8 := KW.xr k12 hX
  have Z18 : TK0 P8 := fun l hl => (congrArg Int32.toInt (KW.at k12 l rl_313 rfl)).trans (hZ l hl)
  replace g10 : foldsAgainC P x9.toInt w4.toInt := g10
  show MEvP _ _ lawq 617 [(3, .int i), (2, .ref 301), (1, .ref 0), (0, .long 0)] [.int x9] _ _ _ _
  refine mp_a (a_aload_n dL_law_617 rfl) (mpp 618 rfl ?_)
  refine mp_a (a_aload_nT dL_law_618 rfl) (mpp 619 rfl ?_)
  refine mp_a (a_iload_n dL_law_619 rfl) (mpp 620 rfl ?_)
  refine mp_a (a_iconst (v := 1) dL_law_620 rfl) (mpp 621 rfl ?_)
  refine mp_t (s_iadd (v := z1) dL_law_621 h2) (mpp 622 rfl ?_)
  refine mp_sld (v := w4) (N := xs.length) dL_law_622 rfl (t_ix (by omega) (by omega)) h5 (mpp 623 rfl ?_)
  refine mt_callv (i := 75) (q' := q_198) (As := [.int w4]) (rest := [.int x9]) hT11 dL_law_623 rfl qm_198 (by decide) rfl rl_301 (by decide) rfl (Nat.le_of_ble_eq_true rfl) rfl ⟨rfl, rfl⟩ ⟨Nat.le_of_ble_eq_true rfl, Nat.le_of_ble_eq_true rfl⟩ (EvP.mono (by decide) (c_M_foldsAgain hT11 R15 Z18 )) (fun r20 P21 g19 => mpp 626 rfl ?_)
  obtain ⟨⟨x22, rfl, g23⟩, hT24, k25, R26⟩ := g19
  have R28 : Rel P21 := R26
  have J29 : Inj P21 := Inj.kw J16 k25 rfl
  have X30 : XR P21 := KW.xr k25 X17
  have Z31 : TK0 P21 := fun l hl => (congrArg Int32.toInt (g23.2 l hl)).trans (Z18 l hl)
  replace g23 : (foldsAgainM (sr P8) x22.toInt w4.toInt) ∧ (∀ l : Nat, l < 7 → fv P21 313 l = fv P8 313 l) := g23
  show MEvP _ _ lawq 626 [(3, .int i), (2, .ref 301), (1, .ref 0), (0, .long 0)] [.int x22, .int x9] _ _ _ _
  have m33h : ∀ a j : Nat, 301 ≤ a → a < 315 → fv P8 a j = fv P a j := fun a j h1 h2 => KW.high k12 hT hT11 (by decide) h1 h2 j
  have m33l : ∀ a j : Nat, a < 301 → fv P21 a j = fv P8 a j := fun a j h1 => KW.low k25 hT11 hT24 (by decide) h1 j
  have m33r : ∀ k : Nat, rv P21 2 k = rv P8 2 k := fun k => k25.2.2 rfl k
  have m33e : sr P8 = sr P := funext (fun j => m33h 302 j (by omega) (by omega))
  have m33m := g23.1
  rw [m33e] at m33m
  have e32 : x9 = x22 := Int32.toInt_inj.mp (foldsAgain_eq hS.1 hS.2.2.2.2.2.1 g10 m33m)
  refine mp_Tt (t := 992) (j_icmp_eq dL_law_626) e32 (by decide) ?_
  exact kk _ ⟨hT24, R28, X30, J29, SIM.same hS hT (fun x j h1 h2 => (m33l x j (by omega)).trans (KW.q k12 hT hT11 (by decide) h1 h2 j)) (fun k => (m33r k).trans ((fun k => k12.2.2 rfl k) k)) ((m33l 0 8 (by omega)).trans (KW.at k12 8 rl_0 rfl)) (fun j => (KW.at k25 j rl_302 rfl).trans (m33h 302 j (by omega) (by omega))) ((KW.at k25 4 rl_301 rfl).trans (m33h 301 4 (by omega) (by omega))) ((KW.at k25 8 rl_301 rfl).trans (m33h 301 8 (by omega) (by omega))) ((KW.at k25 23 rl_301 rfl).trans (m33h 301 23 (by omega) (by omega))) (fun j => (KW.at k25 j rl_304 rfl).trans (m33h 304 j (by omega) (by omega))) (fun j => (KW.at k25 j rl_305 rfl).trans (m33h 305 j (by omega) (by omega))) (fun j => (KW.at k25 j rl_314 rfl).trans (m33h 314 j (by omega) (by omega))), Z31⟩

set_option maxHeartbeats 4000000 in
theorem law_c15 {xs : List Int32} (hn : xs.length ≤ 2048) {i : Int32} (h0 : 0 ≤ i.toInt) (h4 : i.toInt + 4 ≤ xs.length) {P : mP} (hT : Typ P) (hR : Rel P) (hX : XR P) (hJ : Inj P) (hS : SIM P) (hZ : TK0 P) (kk : ∀ P' : mP, LI P' → MEvP 15 (some xs) lawq 992 [(3, .int i), (2, .ref 301), (1, .ref 0), (0, .long 0)] [] P' 315 4038 (fun r _ => r = some (.int 1))) : MEvP 15 (some xs) lawq 631 [(3, .int i), (2, .ref 301), (1, .ref 0), (0, .long 0)] [] P 315 4038 (fun r _ => r = some (.int 1)) := by
  refine mp_a (a_aload_n dL_law_631 rfl) (mpp 632 rfl ?_)
  refine mp_a (a_aload_nT dL_law_632 rfl) (mpp 633 rfl ?_)
  refine mp_a (a_iload_n dL_law_633 rfl) (mpp 634 rfl ?_)
  refine mp_a (a_iconst (v := 1) dL_law_634 rfl) (mpp 635 rfl ?_)
  obtain ⟨z1, h2⟩ := ti_ex (i + 1 : Int32)
  have e3 : z1.toInt = i.toInt + 1 := ti_addz h2 rfl rfl (by omega) (by omega)
  refine mp_t (s_iadd (v := z1) dL_law_635 h2) (mpp 636 rfl ?_)
  obtain ⟨w4, h5⟩ := ti_ex (xs.getD z1.toNatClampNeg 0)
  refine mp_sld (v := w4) (N := xs.length) dL_law_636 rfl (t_ix (by omega) (by omega)) h5 (mpp 637 rfl ?_)
  refine mt_callv (i := 76) (q' := q_73) (As := [.int w4]) (rest := []) hT dL_law_637 rfl qm_73 (by decide) rfl rl_0 (by decide) rfl (Nat.le_of_ble_eq_true rfl) rfl ⟨rfl, rfl⟩ ⟨Nat.le_of_ble_eq_true rfl, Nat.le_of_ble_eq_true rfl⟩ (EvP.mono (by decide) (c_F_step hT hX )) (fun r7 P8 g6 => mpp 640 rfl ?_)
  obtain ⟨⟨x9, rfl, g10⟩, hT11, k12, R13⟩ := g6
  have R15 : Rel P8 := Rel.kw hR k12 rfl
  have J16 : Inj P8 := Inj.kw hJ k12 rfl
  have X17 : XR P8 := KW.xr k12 hX
  have Z18 : TK0 P8 := fun l hl => (congrArg Int32.toInt (KW.at k12 l rl_313 rfl)).trans (hZ l hl)
  replace g10 : stepC P x9.toInt w4.toInt := g10
  show MEvP _ _ lawq 640 [(3, .int i), (2, .ref 301), (1, .ref 0), (0, .long 0)] [.int x9] _ _ _ _
  refine mp_t (s_pop dL_law_640 rfl) (mpp 641 rfl ?_)
  refine mp_a (a_aload_n dL_law_641 rfl) (mpp 642 rfl ?_)
  refine mp_a (a_aload_nT dL_law_642 rfl) (mpp 643 rfl ?_)
  refine mp_a (a_iload_n dL_law_643 rfl) (mpp 644 rfl ?_)
  refine mp_a (a_iconst (v := 1) dL_law_644 rfl) (mpp 645 rfl ?_)
  refine mp_t (s_iadd (v := z1) dL_law_645 h2) (mpp 646 rfl ?_)
  refine mp_sld (v := w4) (N := xs.length) dL_law_646 rfl (t_ix (by omega) (by omega)) h5 (mpp 647 rfl ?_)
  refine mt_callv (i := 79) (q' := q_175) (As := [.int w4]) (rest := []) hT11 dL_law_647 rfl qm_175 (by decide) rfl rl_301 (by decide) rfl (Nat.le_of_ble_eq_true rfl) rfl ⟨rfl, rfl⟩ ⟨Nat.le_of_ble_eq_true rfl, Nat.le_of_ble_eq_true rfl⟩ (EvP.mono (by decide) (c_M_step hT11 )) (fun r20 P21 g19 => mpp 650 rfl ?_)
  obtain ⟨⟨x22, rfl, g23⟩, hT24, k25, R26⟩ := g19
  have R28 : Rel P21 := Rel.kw R15 k25 rfl
  have J29 : Inj P21 := Inj.kw J16 k25 rfl
  have X30 : XR P21 := KW.xr k25 X17
  have Z31 : TK0 P21 := fun l hl => (congrArg Int32.toInt (KW.at k25 l rl_313 rfl)).trans (Z18 l hl)
  replace g23 : stepM (sr P8) x22.toInt w4.toInt := g23
  show MEvP _ _ lawq 650 [(3, .int i), (2, .ref 301), (1, .ref 0), (0, .long 0)] [.int x22] _ _ _ _
  refine mp_t (s_pop dL_law_650 rfl) (mpp 651 rfl ?_)
  refine mp_a (a_goto (t := 992) dL_law_651 (by decide)) ?_
  have m32h : ∀ a j : Nat, 301 ≤ a → a < 315 → fv P8 a j = fv P a j := fun a j h1 h2 => KW.high k12 hT hT11 (by decide) h1 h2 j
  have m32l : ∀ a j : Nat, a < 301 → fv P21 a j = fv P8 a j := fun a j h1 => KW.low k25 hT11 hT24 (by decide) h1 j
  have m32r : ∀ k : Nat, rv P21 2 k = rv P8 2 k := fun k => k25.2.2 rfl k
  exact kk _ ⟨hT24, R28, X30, J29, SIM.same hS hT (fun x j h1 h2 => (m32l x j (by omega)).trans (KW.q k12 hT hT11 (by decide) h1 h2 j)) (fun k => (m32r k).trans ((fun k => k12.2.2 rfl k) k)) ((m32l 0 8 (by omega)).trans (KW.at k12 8 rl_0 rfl)) (fun j => (KW.at k25 j rl_302 rfl).trans (m32h 302 j (by omega) (by omega))) ((KW.at k25 4 rl_301 rfl).trans (m32h 301 4 (by omega) (by omega))) ((KW.at k25 8 rl_301 rfl).trans (m32h 301 8 (by omega) (by omega))) ((KW.at k25 23 rl_301 rfl).trans (m32h 301 23 (by omega) (by omega))) (fun j => (KW.at k25 j rl_304 rfl).trans (m32h 304 j (by omega) (by omega))) (fun j => (KW.at k25 j rl_305 rfl).trans (m32h 305 j (by omega) (by omega))) (fun j => (KW.at k25 j rl_314 rfl).trans (m32h 314 j (by omega) (by omega))), Z31⟩
