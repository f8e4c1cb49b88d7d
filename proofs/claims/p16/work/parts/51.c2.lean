/-! the law, a call each (written by a program) -/
set_option maxHeartbeats 4000000 in
theorem law_c16 {xs : List Int32} (hn : xs.length ≤ 2048) {i : Int32} (h0 : 0 ≤ i.toInt) (h4 : i.toInt + 4 ≤ xs.length) {P : mP} (hT : Typ P) (hR : Rel P) (hX : XR P) (hJ : Inj P) (hS : SIM P) (hZ : TK0 P) (kk : ∀ P' : mP, LI P' → MEvP 15 (some xs) lawq 992 [(3, .int i), (2, .ref 301), (1, .ref 0), (0, .long 0)] [] P' 315 4038 (fun r _ => r = some (.int 1))) : MEvP 15 (some xs) lawq 654 [(3, .int i), (2, .ref 301), (1, .ref 0), (0, .long 0)] [] P 315 4038 (fun r _ => r = some (.int 1)) := by
  refine mp_a (a_aload_n dL_law_654 rfl) (mpp 655 rfl ?_)
  refine mp_a (a_aload_nT dL_law_655 rfl) (mpp 656 rfl ?_)
  refine mp_a (a_iload_n dL_law_656 rfl) (mpp 657 rfl ?_)
  refine mp_a (a_iconst (v := 1) dL_law_657 rfl) (mpp 658 rfl ?_)
  obtain ⟨z1, h2⟩ := ti_ex (i + 1 : Int32)
  have e3 : z1.toInt = i.toInt + 1 := ti_addz h2 rfl rfl (by omega) (by omega)
  refine mp_t (s_iadd (v := z1) dL_law_658 h2) (mpp 659 rfl ?_)
  obtain ⟨w4, h5⟩ := ti_ex (xs.getD z1.toNatClampNeg 0)
  refine mp_sld (v := w4) (N := xs.length) dL_law_659 rfl (t_ix (by omega) (by omega)) h5 (mpp 660 rfl ?_)
  refine mt_callv (i := 80) (q' := q_74) (As := [.int w4]) (rest := []) hT dL_law_660 rfl qm_74 (by decide) rfl rl_0 (by decide) rfl (Nat.le_of_ble_eq_true rfl) rfl ⟨rfl, rfl⟩ ⟨Nat.le_of_ble_eq_true rfl, Nat.le_of_ble_eq_true rfl⟩ (EvP.mono (by decide) (c_F_steps hT hX )) (fun r7 P8 g6 => mpp 663 rfl ?_)
  obtain ⟨⟨x9, rfl, g10⟩, hT11, k12, R13⟩ := g6
  have R15 : Rel P8 := Rel.kw hR k12 rfl
  have J16 : Inj P8 := Inj.kw hJ k12 rfl
  have X17 : XR P8 := KW.xr k12 hX
  have Z18 : TK0 P8 := fun l hl => (congrArg Int32.toInt (KW.at k12 l rl_313 rfl)).trans (hZ l hl)
  replace g10 : stepsC P x9.toInt w4.toInt := g10
  show MEvP _ _ lawq 663 [(3, .int i), (2, .ref 301), (1, .ref 0), (0, .long 0)] [.int x9] _ _ _ _
  refine mp_t (s_pop dL_law_663 rfl) (mpp 664 rfl ?_)
  refine mp_a (a_aload_n dL_law_664 rfl) (mpp 665 rfl ?_)
  refine mp_a (a_aload_nT dL_law_665 rfl) (mpp 666 rfl ?_)
  refine mp_a (a_iload_n dL_law_666 rfl) (mpp 667 rfl ?_)
  refine mp_a (a_iconst (v := 1) dL_law_667 rfl) (mpp 668 rfl ?_)
  refine mp_t (s_iadd (v := z1) dL_law_668 h2) (mpp 669 rfl ?_)
  refine mp_sld (v := w4) (N := xs.length) dL_law_669 rfl (t_ix (by omega) (by omega)) h5 (mpp 670 rfl ?_)
  refine mt_callv (i := 83) (q' := q_176) (As := [.int w4]) (rest := []) hT11 dL_law_670 rfl qm_176 (by decide) rfl rl_301 (by decide) rfl (Nat.le_of_ble_eq_true rfl) rfl ⟨rfl, rfl⟩ ⟨Nat.le_of_ble_eq_true rfl, Nat.le_of_ble_eq_true rfl⟩ (EvP.mono (by decide) (c_M_steps hT11 )) (fun r20 P21 g19 => mpp 673 rfl ?_)
  obtain ⟨⟨x22, rfl, g23⟩, hT24, k25, R26⟩ := g19
  have R28 : Rel P21 := Rel.kw R15 k25 rfl
  have J29 : Inj P21 := Inj.kw J16 k25 rfl
  have X30 : XR P21 := KW.xr k25 X17
  have Z31 : TK0 P21 := fun l hl => (congrArg Int32.toInt (KW.at k25 l rl_313 rfl)).trans (Z18 l hl)
  replace g23 : stepsM (sr P8) x22.toInt w4.toInt := g23
  show MEvP _ _ lawq 673 [(3, .int i), (2, .ref 301), (1, .ref 0), (0, .long 0)] [.int x22] _ _ _ _
  refine mp_t (s_pop dL_law_673 rfl) (mpp 674 rfl ?_)
  refine mp_a (a_goto (t := 992) dL_law_674 (by decide)) ?_
  have m32h : ∀ a j : Nat, 301 ≤ a → a < 315 → fv P8 a j = fv P a j := fun a j h1 h2 => KW.high k12 hT hT11 (by decide) h1 h2 j
  have m32l : ∀ a j : Nat, a < 301 → fv P21 a j = fv P8 a j := fun a j h1 => KW.low k25 hT11 hT24 (by decide) h1 j
  have m32r : ∀ k : Nat, rv P21 2 k = rv P8 2 k := fun k => k25.2.2 rfl k
  exact kk _ ⟨hT24, R28, X30, J29, SIM.same hS hT (fun x j h1 h2 => (m32l x j (by omega)).trans (KW.q k12 hT hT11 (by decide) h1 h2 j)) (fun k => (m32r k).trans ((fun k => k12.2.2 rfl k) k)) ((m32l 0 8 (by omega)).trans (KW.at k12 8 rl_0 rfl)) (fun j => (KW.at k25 j rl_302 rfl).trans (m32h 302 j (by omega) (by omega))) ((KW.at k25 4 rl_301 rfl).trans (m32h 301 4 (by omega) (by omega))) ((KW.at k25 8 rl_301 rfl).trans (m32h 301 8 (by omega) (by omega))) ((KW.at k25 23 rl_301 rfl).trans (m32h 301 23 (by omega) (by omega))) (fun j => (KW.at k25 j rl_304 rfl).trans (m32h 304 j (by omega) (by omega))) (fun j => (KW.at k25 j rl_305 rfl).trans (m32h 305 j (by omega) (by omega))) (fun j => (KW.at k25 j rl_314 rfl).trans (m32h 314 j (by omega) (by omega))), Z31⟩

set_option maxHeartbeats 4000000 in
theorem law_c17 {xs : List Int32} (hn : xs.length ≤ 2048) {i : Int32} (h0 : 0 ≤ i.toInt) (h4 : i.toInt + 4 ≤ xs.length) {P : mP} (hT : Typ P) (hR : Rel P) (hX : XR P) (hJ : Inj P) (hS : SIM P) (hZ : TK0 P) (kk : ∀ P' : mP, LI P' → MEvP 15 (some xs) lawq 992 [(3, .int i), (2, .ref 301), (1, .ref 0), (0, .long 0)] [] P' 315 4038 (fun r _ => r = some (.int 1))) : MEvP 15 (some xs) lawq 677 [(3, .int i), (2, .ref 301), (1, .ref 0), (0, .long 0)] [] P 315 4038 (fun r _ => r = some (.int 1)) := by
  refine mp_a (a_aload_n dL_law_677 rfl) (mpp 678 rfl ?_)
  refine mp_a (a_aload_nT dL_law_678 rfl) (mpp 679 rfl ?_)
  refine mp_a (a_iload_n dL_law_679 rfl) (mpp 680 rfl ?_)
  refine mp_a (a_iconst (v := 1) dL_law_680 rfl) (mpp 681 rfl ?_)
  obtain ⟨z1, h2⟩ := ti_ex (i + 1 : Int32)
  have e3 : z1.toInt = i.toInt + 1 := ti_addz h2 rfl rfl (by omega) (by omega)
  refine mp_t (s_iadd (v := z1) dL_law_681 h2) (mpp 682 rfl ?_)
  obtain ⟨w4, h5⟩ := ti_ex (xs.getD z1.toNatClampNeg 0)
  refine mp_sld (v := w4) (N := xs.length) dL_law_682 rfl (t_ix (by omega) (by omega)) h5 (mpp 683 rfl ?_)
  refine mt_callv (i := 84) (q' := q_75) (As := [.int w4]) (rest := []) hT dL_law_683 rfl qm_75 (by decide) rfl rl_0 (by decide) rfl (Nat.le_of_ble_eq_true rfl) rfl ⟨rfl, rfl⟩ ⟨Nat.le_of_ble_eq_true rfl, Nat.le_of_ble_eq_true rfl⟩ (EvP.mono (by decide) (c_F_ways hT hX )) (fun r7 P8 g6 => mpp 686 rfl ?_)
  obtain ⟨⟨x9, rfl, g10⟩, hT11, k12, R13⟩ := g6
  have R15 : Rel P8 := Rel.kw hR k12 rfl
  have J16 : Inj P8 := Inj.kw hJ k12 rfl
  have X17 : XR P8 := KW.xr k12 hX
  have Z18 : TK0 P8 := fun l hl => (congrArg Int32.toInt (KW.at k12 l rl_313 rfl)).trans (hZ l hl)
  replace g10 : waysC P x9.toInt w4.toInt := g10
  show MEvP _ _ lawq 686 [(3, .int i), (2, .ref 301), (1, .ref 0), (0, .long 0)] [.int x9] _ _ _ _
  refine mp_t (s_pop dL_law_686 rfl) (mpp 687 rfl ?_)
  refine mp_a (a_aload_n dL_law_687 rfl) (mpp 688 rfl ?_)
  refine mp_a (a_aload_nT dL_law_688 rfl) (mpp 689 rfl ?_)
  refine mp_a (a_iload_n dL_law_689 rfl) (mpp 690 rfl ?_)
  refine mp_a (a_iconst (v := 1) dL_law_690 rfl) (mpp 691 rfl ?_)
  refine mp_t (s_iadd (v := z1) dL_law_691 h2) (mpp 692 rfl ?_)
  refine mp_sld (v := w4) (N := xs.length) dL_law_692 rfl (t_ix (by omega) (by omega)) h5 (mpp 693 rfl ?_)
  refine mt_callv (i := 87) (q' := q_177) (As := [.int w4]) (rest := []) hT11 dL_law_693 rfl qm_177 (by decide) rfl rl_301 (by decide) rfl (Nat.le_of_ble_eq_true rfl) rfl ⟨rfl, rfl⟩ ⟨Nat.le_of_ble_eq_true rfl, Nat.le_of_ble_eq_true rfl⟩ (EvP.mono (by decide) (c_M_ways hT11 )) (fun r20 P21 g19 => mpp 696 rfl ?_)
  obtain ⟨⟨x22, rfl, g23⟩, hT24, k25, R26⟩ := g19
  have R28 : Rel P21 := Rel.kw R15 k25 rfl
  have J29 : Inj P21 := Inj.kw J16 k25 rfl
  have X30 : XR P21 := KW.xr k25 X17
  have Z31 : TK0 P21 := fun l hl => (congrArg Int32.toInt (KW.at k25 l rl_313 rfl)).trans (Z18 l hl)
  replace g23 : waysM (sr P8) x22.toInt w4.toInt := g23
  show MEvP _ _ lawq 696 [(3, .int i), (2, .ref 301), (1, .ref 0), (0, .long 0)] [.int x22] _ _ _ _
  refine mp_t (s_pop dL_law_696 rfl) (mpp 697 rfl ?_)
  refine mp_a (a_goto (t := 992) dL_law_697 (by decide)) ?_
  have m32h : ∀ a j : Nat, 301 ≤ a → a < 315 → fv P8 a j = fv P a j := fun a j h1 h2 => KW.high k12 hT hT11 (by decide) h1 h2 j
  have m32l : ∀ a j : Nat, a < 301 → fv P21 a j = fv P8 a j := fun a j h1 => KW.low k25 hT11 hT24 (by decide) h1 j
  have m32r : ∀ k : Nat, rv P21 2 k = rv P8 2 k := fun k => k25.2.2 rfl k
  exact kk _ ⟨hT24, R28, X30, J29, SIM.same hS hT (fun x j h1 h2 => (m32l x j (by omega)).trans (KW.q k12 hT hT11 (by decide) h1 h2 j)) (fun k => (m32r k).trans ((fun k => k12.2.2 rfl k) k)) ((m32l 0 8 (by omega)).trans (KW.at k12 8 rl_0 rfl)) (fun j => (KW.at k25 j rl_302 rfl).trans (m32h 302 j (by omega) (by omega))) ((KW.at k25 4 rl_301 rfl).trans (m32h 301 4 (by omega) (by omega))) ((KW.at k25 8 rl_301 rfl).trans (m32h 301 8 (by omega) (by omega))) ((KW.at k25 23 rl_301 rfl).trans (m32h 301 23 (by omega) (by omega))) (fun j => (KW.at k25 j rl_304 rfl).trans (m32h 304 j (by omega) (by omega))) (fun j => (KW.at k25 j rl_305 rfl).trans (m32h 305 j (by omega) (by omega))) (fun j => (KW.at k25 j rl_314 rfl).trans (m32h 314 j (by omega) (by omega))), Z31⟩

set_option maxHeartbeats 4000000 in
theorem law_c18 {xs : List Int32} (hn : xs.length ≤ 2048) {i : Int32} (h0 : 0 ≤ i.toInt) (h4 : i.toInt + 4 ≤ xs.length) {P : mP} (hT : Typ P) (hR : Rel P) (hX : XR P) (hJ : Inj P) (hS : SIM P) (hZ : TK0 P) (kk : ∀ P' : mP, LI P' → MEvP 15 (some xs) lawq 992 [(3, .int i), (2, .ref 301), (1, .ref 0), (0, .long 0)] [] P' 315 4038 (fun r _ => r = some (.int 1))) : MEvP 15 (some xs) lawq 700 [(3, .int i), (2, .ref 301), (1, .ref 0), (0, .long 0)] [] P 315 4038 (fun r _ => r = some (.int 1)) := by
  refine mp_a (a_aload_n dL_law_700 rfl) (mpp 701 rfl ?_)
  refine mp_a (a_aload_nT dL_law_701 rfl) (mpp 702 rfl ?_)
  refine mp_a (a_iload_n dL_law_702 rfl) (mpp 703 rfl ?_)
  refine mp_a (a_iconst (v := 1) dL_law_703 rfl) (mpp 704 rfl ?_)
  obtain ⟨z1, h2⟩ := ti_ex (i + 1 : Int32)
  have e3 : z1.toInt = i.toInt + 1 := ti_addz h2 rfl rfl (by omega) (by omega)
  refine mp_t (s_iadd (v := z1) dL_law_704 h2) (mpp 705 rfl ?_)
  obtain ⟨w4, h5⟩ := ti_ex (xs.getD z1.toNatClampNeg 0)
  refine mp_sld (v := w4) (N := xs.length) dL_law_705 rfl (t_ix (by omega) (by omega)) h5 (mpp 706 rfl ?_)
  refine mt_callv (i := 88) (q' := q_80) (As := [.int w4]) (rest := []) hT dL_law_706 rfl qm_80 (by decide) rfl rl_0 (by decide) rfl (Nat.le_of_ble_eq_true rfl) rfl ⟨rfl, rfl⟩ ⟨Nat.le_of_ble_eq_true rfl, Nat.le_of_ble_eq_true rfl⟩ (EvP.mono (by decide) (c_F_fewest hT hX )) (fun r7 P8 g6 => mpp 709 rfl ?_)
  obtain ⟨⟨x9, rfl, g10⟩, hT11, k12, R13⟩ := g6
  have R15 : Rel P8 := Rel.kw hR k12 rfl
  have J16 : Inj P8 := Inj.kw hJ k12 rfl
  have X17 : XR P8 := KW.xr k12 hX
  have Z18 : TK0 P8 := fun l hl => (congrArg Int32.toInt (KW.at k12 l rl_313 rfl)).trans (hZ l hl)
  replace g10 : fewestC P x9.toInt w4.toInt := g10
  show MEvP _ _ lawq 709 [(3, .int i), (2, .ref 301), (1, .ref 0), (0, .long 0)] [.int x9] _ _ _ _
  refine mp_t (s_pop dL_law_709 rfl) (mpp 710 rfl ?_)
  refine mp_a (a_aload_n dL_law_710 rfl) (mpp 711 rfl ?_)
  refine mp_a (a_aload_nT dL_law_711 rfl) (mpp 712 rfl ?_)
  refine mp_a (a_iload_n dL_law_712 rfl) (mpp 713 rfl ?_)
  refine mp_a (a_iconst (v := 1) dL_law_713 rfl) (mpp 714 rfl ?_)
  refine mp_t (s_iadd (v := z1) dL_law_714 h2) (mpp 715 rfl ?_)
  refine mp_sld (v := w4) (N := xs.length) dL_law_715 rfl (t_ix (by omega) (by omega)) h5 (mpp 716 rfl ?_)
  refine mt_callv (i := 91) (q' := q_181) (As := [.int w4]) (rest := []) hT11 dL_law_716 rfl qm_181 (by decide) rfl rl_301 (by decide) rfl (Nat.le_of_ble_eq_true rfl) rfl ⟨rfl, rfl⟩ ⟨Nat.le_of_ble_eq_true rfl, Nat.le_of_ble_eq_true rfl⟩ (EvP.mono (by decide) (c_M_fewest hT11 )) (fun r20 P21 g19 => mpp 719 rfl ?_)
  obtain ⟨⟨x22, rfl, g23⟩, hT24, k25, R26⟩ := g19
  have R28 : Rel P21 := Rel.kw R15 k25 rfl
  have J29 : Inj P21 := Inj.kw J16 k25 rfl
  have X30 : XR P21 := KW.xr k25 X17
  have Z31 : TK0 P21 := fun l hl => (congrArg Int32.toInt (KW.at k25 l rl_313 rfl)).trans (Z18 l hl)
  replace g23 : fewestM (sr P8) x22.toInt w4.toInt := g23
  show MEvP _ _ lawq 719 [(3, .int i), (2, .ref 301), (1, .ref 0), (0, .long 0)] [.int x22] _ _ _ _
  refine mp_t (s_pop dL_law_719 rfl) (mpp 720 rfl ?_)
  refine mp_a (a_goto (t := 992) dL_law_720 (by decide)) ?_
  have m32h : ∀ a j : Nat, 301 ≤ a → a < 315 → fv P8 a j = fv P a j := fun a j h1 h2 => KW.high k12 hT hT11 (by decide) h1 h2 j
  have m32l : ∀ a j : Nat, a < 301 → fv P21 a j = fv P8 a j := fun a j h1 => KW.low k25 hT11 hT24 (by decide) h1 j
  have m32r : ∀ k : Nat, rv P21 2 k = rv P8 2 k := fun k => k25.2.2 rfl k
  exact kk _ ⟨hT24, R28, X30, J29, SIM.same hS hT (fun x j h1 h2 => (m32l x j (by omega)).trans (KW.q k12 hT hT11 (by decide) h1 h2 j)) (fun k => (m32r k).trans ((fun k => k12.2.2 rfl k) k)) ((m32l 0 8 (by omega)).trans (KW.at k12 8 rl_0 rfl)) (fun j => (KW.at k25 j rl_302 rfl).trans (m32h 302 j (by omega) (by omega))) ((KW.at k25 4 rl_301 rfl).trans (m32h 301 4 (by omega) (by omega))) ((KW.at k25 8 rl_301 rfl).trans (m32h 301 8 (by omega) (by omega))) ((KW.at k25 23 rl_301 rfl).trans (m32h 301 23 (by omega) (by omega))) (fun j => (KW.at k25 j rl_304 rfl).trans (m32h 304 j (by omega) (by omega))) (fun j => (KW.at k25 j rl_305 rfl).trans (m32h 305 j (by omega) (by omega))) (fun j => (KW.at k25 j rl_314 rfl).trans (m32h 314 j (by omega) (by omega))), Z31⟩

set_option maxHeartbeats 4000000 in
theorem law_c19 {xs : List Int32} (hn : xs.length ≤ 2048) {i : Int32} (h0 : 0 ≤ i.toInt) (h4 : i.toInt + 4 ≤ xs.length) {P : mP} (hT : Typ P) (hR : Rel P) (hX : XR P) (hJ : Inj P) (hS : SIM P) (hZ : TK0 P) (kk : ∀ P' : mP, LI P' → MEvP 15 (some xs) lawq 992 [(3, .int i), (2, .ref 301), (1, .ref 0), (0, .long 0)] [] P' 315 4038 (fun r _ => r = some (.int 1))) : MEvP 15 (some xs) lawq 723 [(3, .int i), (2, .ref 301), (1, .ref 0), (0, .long 0)] [] P 315 4038 (fun r _ => r = some (.int 1)) := by
  refine mp_a (a_aload_n dL_law_723 rfl) (mpp 724 rfl ?_)
  refine mp_a (a_aload_nT dL_law_724 rfl) (mpp 725 rfl ?_)
  refine mp_a (a_iload_n dL_law_725 rfl) (mpp 726 rfl ?_)
  refine mp_a (a_iconst (v := 1) dL_law_726 rfl) (mpp 727 rfl ?_)
  obtain ⟨z1, h2⟩ := ti_ex (i + 1 : Int32)
  have e3 : z1.toInt = i.toInt + 1 := ti_addz h2 rfl rfl (by omega) (by omega)
  refine mp_t (s_iadd (v := z1) dL_law_727 h2) (mpp 728 rfl ?_)
  obtain ⟨w4, h5⟩ := ti_ex (xs.getD z1.toNatClampNeg 0)
  refine mp_sld (v := w4) (N := xs.length) dL_law_728 rfl (t_ix (by omega) (by omega)) h5 (mpp 729 rfl ?_)
  refine mp_a (a_aload_nT dL_law_729 rfl) (mpp 730 rfl ?_)
  refine mp_a (a_iload_n dL_law_730 rfl) (mpp 731 rfl ?_)
  refine mp_a (a_iconst (v := 2) dL_law_731 rfl) (mpp 732 rfl ?_)
  obtain ⟨z6, h7⟩ := ti_ex (i + 2 : Int32)
  have e8 : z6.toInt = i.toInt + 2 := ti_addz h7 rfl rfl (by omega) (by omega)
  refine mp_t (s_iadd (v := z6) dL_law_732 h7) (mpp 733 rfl ?_)
  obtain ⟨w9, h10⟩ := ti_ex (xs.getD z6.toNatClampNeg 0)
  refine mp_sld (v := w9) (N := xs.length) dL_law_733 rfl (t_ix (by omega) (by omega)) h10 (mpp 734 rfl ?_)
  refine mt_callv (i := 92) (q' := q_82) (As := [.int w4, .int w9]) (rest := []) hT dL_law_734 rfl qm_82 (by decide) rfl rl_0 (by decide) rfl (Nat.le_of_ble_eq_true rfl) rfl ⟨rfl, rfl⟩ ⟨Nat.le_of_ble_eq_true rfl, Nat.le_of_ble_eq_true rfl⟩ (EvP.mono (by decide) (c_F_place hT hX )) (fun r12 P13 g11 => mpp 737 rfl ?_)
  obtain ⟨⟨x14, rfl, g15⟩, e16⟩ := g11
  have e16 := e16.symm
  subst e16
  replace g15 : placeC P x14.toInt w4.toInt w9.toInt := g15
  show MEvP _ _ lawq 737 [(3, .int i), (2, .ref 301), (1, .ref 0), (0, .long 0)] [.int x14] _ _ _ _
  refine mp_t (s_pop dL_law_737 rfl) (mpp 738 rfl ?_)
  refine mp_a (a_aload_n dL_law_738 rfl) (mpp 739 rfl ?_)
  refine mp_a (a_aload_nT dL_law_739 rfl) (mpp 740 rfl ?_)
  refine mp_a (a_iload_n dL_law_740 rfl) (mpp 741 rfl ?_)
  refine mp_a (a_iconst (v := 1) dL_law_741 rfl) (mpp 742 rfl ?_)
  refine mp_t (s_iadd (v := z1) dL_law_742 h2) (mpp 743 rfl ?_)
  refine mp_sld (v := w4) (N := xs.length) dL_law_743 rfl (t_ix (by omega) (by omega)) h5 (mpp 744 rfl ?_)
  refine mp_a (a_aload_nT dL_law_744 rfl) (mpp 745 rfl ?_)
  refine mp_a (a_iload_n dL_law_745 rfl) (mpp 746 rfl ?_)
  refine mp_a (a_iconst (v := 2) dL_law_746 rfl) (mpp 747 rfl ?_)
  refine mp_t (s_iadd (v := z6) dL_law_747 h7) (mpp 748 rfl ?_)
  refine mp_sld (v := w9) (N := xs.length) dL_law_748 rfl (t_ix (by omega) (by omega)) h10 (mpp 749 rfl ?_)
  refine mt_callv (i := 95) (q' := q_210) (As := [.int w4, .int w9]) (rest := []) hT dL_law_749 rfl qm_210 (by decide) rfl rl_301 (by decide) rfl (Nat.le_of_ble_eq_true rfl) rfl ⟨rfl, rfl⟩ ⟨Nat.le_of_ble_eq_true rfl, Nat.le_of_ble_eq_true rfl⟩ (EvP.mono (by decide) (c_M_place hT )) (fun r18 P19 g17 => mpp 752 rfl ?_)
  obtain ⟨⟨x20, rfl, g21⟩, e22⟩ := g17
  have e22 := e22.symm
  subst e22
  replace g21 : placeM (sr P) x20.toInt w4.toInt w9.toInt := g21
  show MEvP _ _ lawq 752 [(3, .int i), (2, .ref 301), (1, .ref 0), (0, .long 0)] [.int x20] _ _ _ _
  refine mp_t (s_pop dL_law_752 rfl) (mpp 753 rfl ?_)
  refine mp_a (a_goto (t := 992) dL_law_753 (by decide)) ?_
  have m23h : ∀ a j : Nat, 301 ≤ a → a < 315 → fv P a j = fv P a j := fun _ _ _ _ => rfl
  have m23l : ∀ a j : Nat, a < 301 → fv P a j = fv P a j := fun _ _ _ => rfl
  have m23r : ∀ k : Nat, rv P 2 k = rv P 2 k := fun _ => rfl
  exact kk _ ⟨hT, hR, hX, hJ, SIM.same hS hT (fun x j h1 h2 => (m23l x j (by omega)).trans (rfl)) (fun k => (m23r k).trans ((fun _ => rfl) k)) ((m23l 0 8 (by omega)).trans rfl) (fun j => m23h 302 j (by omega) (by omega)) (m23h 301 4 (by omega) (by omega)) (m23h 301 8 (by omega) (by omega)) (m23h 301 23 (by omega) (by omega)) (fun j => m23h 304 j (by omega) (by omega)) (fun j => m23h 305 j (by omega) (by omega)) (fun j => m23h 314 j (by omega) (by omega)), hZ⟩

set_option maxHeartbeats 4000000 in
theorem law_c20 {xs : List Int32} (hn : xs.length ≤ 2048) {i : Int32} (h0 : 0 ≤ i.toInt) (h4 : i.toInt + 4 ≤ xs.length) {P : mP} (hT : Typ P) (hR : Rel P) (hX : XR P) (hJ : Inj P) (hS : SIM P) (hZ : TK0 P) (kk : ∀ P' : mP, LI P' → MEvP 15 (some xs) lawq 992 [(3, .int i), (2, .ref 301), (1, .ref 0), (0, .long 0)] [] P' 315 4038 (fun r _ => r = some (.int 1))) : MEvP 15 (some xs) lawq 756 [(3, .int i), (2, .ref 301), (1, .ref 0), (0, .long 0)] [] P 315 4038 (fun r _ => r = some (.int 1)) := by
  refine mp_a (a_aload_n dL_law_756 rfl) (mpp 757 rfl ?_)
  refine mp_a (a_aload_nT dL_law_757 rfl) (mpp 758 rfl ?_)
  refine mp_a (a_iload_n dL_law_758 rfl) (mpp 759 rfl ?_)
  refine mp_a (a_iconst (v := 1) dL_law_759 rfl) (mpp 760 rfl ?_)
  obtain ⟨z1, h2⟩ := ti_ex (i + 1 : Int32)
  have e3 : z1.toInt = i.toInt + 1 := ti_addz h2 rfl rfl (by omega) (by omega)
  refine mp_t (s_iadd (v := z1) dL_law_760 h2) (mpp 761 rfl ?_)
  obtain ⟨w4, h5⟩ := ti_ex (xs.getD z1.toNatClampNeg 0)
  refine mp_sld (v := w4) (N := xs.length) dL_law_761 rfl (t_ix (by omega) (by omega)) h5 (mpp 762 rfl ?_)
  refine mp_a (a_aload_nT dL_law_762 rfl) (mpp 763 rfl ?_)
  refine mp_a (a_iload_n dL_law_763 rfl) (mpp 764 rfl ?_)
  refine mp_a (a_iconst (v := 2) dL_law_764 rfl) (mpp 765 rfl ?_)
  obtain ⟨z6, h7⟩ := ti_ex (i + 2 : Int32)
  have e8 : z6.toInt = i.toInt + 2 := ti_addz h7 rfl rfl (by omega) (by omega)
  refine mp_t (s_iadd (v := z6) dL_law_765 h7) (mpp 766 rfl ?_)
  obtain ⟨w9, h10⟩ := ti_ex (xs.getD z6.toNatClampNeg 0)
  refine mp_sld (v := w9) (N := xs.length) dL_law_766 rfl (t_ix (by omega) (by omega)) h10 (mpp 767 rfl ?_)
  refine mt_callv (i := 96) (q' := q_83) (As := [.int w4, .int w9]) (rest := []) hT dL_law_767 rfl qm_83 (by decide) rfl rl_0 (by decide) rfl (Nat.le_of_ble_eq_true rfl) rfl ⟨rfl, rfl⟩ ⟨Nat.le_of_ble_eq_true rfl, Nat.le_of_ble_eq_true rfl⟩ (EvP.mono (by decide) (c_F_layer hT hX )) (fun r12 P13 g11 => mpp 770 rfl ?_)
  obtain ⟨⟨x14, rfl, g15⟩, hT16, k17, R18⟩ := g11
  have R20 : Rel P13 := Rel.kw hR k17 rfl
  have J21 : Inj P13 := Inj.kw hJ k17 rfl
  have X22 : XR P13 := KW.xr k17 hX
  have Z23 : TK0 P13 := fun l hl => (congrArg Int32.toInt (KW.at k17 l rl_313 rfl)).trans (hZ l hl)
  replace g15 : layerC P x14.toInt w4.toInt w9.toInt := g15
  show MEvP _ _ lawq 770 [(3, .int i), (2, .ref 301), (1, .ref 0), (0, .long 0)] [.int x14] _ _ _ _
  refine mp_t (s_pop dL_law_770 rfl) (mpp 771 rfl ?_)
  refine mp_a (a_aload_n dL_law_771 rfl) (mpp 772 rfl ?_)
  refine mp_a (a_aload_nT dL_law_772 rfl) (mpp 773 rfl ?_)
  refine mp_a (a_iload_n dL_law_773 rfl) (mpp 774 rfl ?_)
  refine mp_a (a_iconst (v := 1) dL_law_774 rfl) (mpp 775 rfl ?_)
  refine mp_t (s_iadd (v := z1) dL_law_775 h2) (mpp 776 rfl ?_)
  refine mp_sld (v := w4) (N := xs.length) dL_law_776 rfl (t_ix (by omega) (by omega)) h5 (mpp 777 rfl ?_)
  refine mp_a (a_aload_nT dL_law_777 rfl) (mpp 778 rfl ?_)
  refine mp_a (a_iload_n dL_law_778 rfl) (mpp 779 rfl ?_)
  refine mp_a (a_iconst (v := 2) dL_law_779 rfl) (mpp 780 rfl ?_)
  refine mp_t (s_iadd (v := z6) dL_law_780 h7) (mpp 781 rfl ?_)
  refine mp_sld (v := w9) (N := xs.length) dL_law_781 rfl (t_ix (by omega) (by omega)) h10 (mpp 782 rfl ?_)
  refine mt_callv (i := 99) (q' := q_208) (As := [.int w4, .int w9]) (rest := []) hT16 dL_law_782 rfl qm_208 (by decide) rfl rl_301 (by decide) rfl (Nat.le_of_ble_eq_true rfl) rfl ⟨rfl, rfl⟩ ⟨Nat.le_of_ble_eq_true rfl, Nat.le_of_ble_eq_true rfl⟩ (EvP.mono (by decide) (c_M_layer hT16 R20 Z23 )) (fun r25 P26 g24 => mpp 785 rfl ?_)
  obtain ⟨⟨x27, rfl, g28⟩, hT29, k30, R31⟩ := g24
  have R33 : Rel P26 := R31
  have J34 : Inj P26 := Inj.kw J21 k30 rfl
  have X35 : XR P26 := KW.xr k30 X22
  have Z36 : TK0 P26 := fun l hl => (congrArg Int32.toInt (g28.2 l hl)).trans (Z23 l hl)
  replace g28 : (layerM (sr P13) x27.toInt w4.toInt w9.toInt) ∧ (∀ l : Nat, l < 7 → fv P26 313 l = fv P13 313 l) := g28
  show MEvP _ _ lawq 785 [(3, .int i), (2, .ref 301), (1, .ref 0), (0, .long 0)] [.int x27] _ _ _ _
  refine mp_t (s_pop dL_law_785 rfl) (mpp 786 rfl ?_)
  refine mp_a (a_goto (t := 992) dL_law_786 (by decide)) ?_
  have m37h : ∀ a j : Nat, 301 ≤ a → a < 315 → fv P13 a j = fv P a j := fun a j h1 h2 => KW.high k17 hT hT16 (by decide) h1 h2 j
  have m37l : ∀ a j : Nat, a < 301 → fv P26 a j = fv P13 a j := fun a j h1 => KW.low k30 hT16 hT29 (by decide) h1 j
  have m37r : ∀ k : Nat, rv P26 2 k = rv P13 2 k := fun k => k30.2.2 rfl k
  exact kk _ ⟨hT29, R33, X35, J34, SIM.same hS hT (fun x j h1 h2 => (m37l x j (by omega)).trans (KW.q k17 hT hT16 (by decide) h1 h2 j)) (fun k => (m37r k).trans ((fun k => k17.2.2 rfl k) k)) ((m37l 0 8 (by omega)).trans (KW.at k17 8 rl_0 rfl)) (fun j => (KW.at k30 j rl_302 rfl).trans (m37h 302 j (by omega) (by omega))) ((KW.at k30 4 rl_301 rfl).trans (m37h 301 4 (by omega) (by omega))) ((KW.at k30 8 rl_301 rfl).trans (m37h 301 8 (by omega) (by omega))) ((KW.at k30 23 rl_301 rfl).trans (m37h 301 23 (by omega) (by omega))) (fun j => (KW.at k30 j rl_304 rfl).trans (m37h 304 j (by omega) (by omega))) (fun j => (KW.at k30 j rl_305 rfl).trans (m37h 305 j (by omega) (by omega))) (fun j => (KW.at k30 j rl_314 rfl).trans (m37h 314 j (by omega) (by omega))), Z36⟩

set_option maxHeartbeats 4000000 in
theorem law_c21 {xs : List Int32} (hn : xs.length ≤ 2048) {i : Int32} (h0 : 0 ≤ i.toInt) (h4 : i.toInt + 4 ≤ xs.length) {P : mP} (hT : Typ P) (hR : Rel P) (hX : XR P) (hJ : Inj P) (hS : SIM P) (hZ : TK0 P) (kk : ∀ P' : mP, LI P' → MEvP 15 (some xs) lawq 992 [(3, .int i), (2, .ref 301), (1, .ref 0), (0, .long 0)] [] P' 315 4038 (fun r _ => r = some (.int 1))) : MEvP 15 (some xs) lawq 789 [(3, .int i), (2, .ref 301), (1, .ref 0), (0, .long 0)] [] P 315 4038 (fun r _ => r = some (.int 1)) := by
  refine mp_a (a_aload_n dL_law_789 rfl) (mpp 790 rfl ?_)
  refine mp_a (a_aload_nT dL_law_790 rfl) (mpp 791 rfl ?_)
  refine mp_a (a_iload_n dL_law_791 rfl) (mpp 792 rfl ?_)
  refine mp_a (a_iconst (v := 1) dL_law_792 rfl) (mpp 793 rfl ?_)
  obtain ⟨z1, h2⟩ := ti_ex (i + 1 : Int32)
  have e3 : z1.toInt = i.toInt + 1 := ti_addz h2 rfl rfl (by omega) (by omega)
  refine mp_t (s_iadd (v := z1) dL_law_793 h2) (mpp 794 rfl ?_)
  obtain ⟨w4, h5⟩ := ti_ex (xs.getD z1.toNatClampNeg 0)
  refine mp_sld (v := w4) (N := xs.length) dL_law_794 rfl (t_ix (by omega) (by omega)) h5 (mpp 795 rfl ?_)
  refine mt_callv (i := 100) (q' := q_84) (As := [.int w4]) (rest := []) hT dL_law_795 rfl qm_84 (by decide) rfl rl_0 (by decide) rfl (Nat.le_of_ble_eq_true rfl) rfl ⟨rfl, rfl⟩ ⟨Nat.le_of_ble_eq_true rfl, Nat.le_of_ble_eq_true rfl⟩ (EvP.mono (by decide) (c_F_orders hT hX )) (fun r7 P8 g6 => mpp 798 rfl ?_)
  obtain ⟨⟨x9, rfl, g10⟩, hT11, k12, R13⟩ := g6
  have R15 : Rel P8 := Rel.kw hR k12 rfl
  have J16 : Inj P8 := Inj.kw hJ k12 rfl
  have X17 : XR P8 := KW.xr k12 hX
  have Z18 : TK0 P8 := fun l hl => (congrArg Int32.toInt (KW.at k12 l rl_313 rfl)).trans (hZ l hl)
  replace g10 : ordersC P x9.toInt w4.toInt := g10
  show MEvP _ _ lawq 798 [(3, .int i), (2, .ref 301), (1, .ref 0), (0, .long 0)] [.int x9] _ _ _ _
  refine mp_t (s_pop dL_law_798 rfl) (mpp 799 rfl ?_)
  refine mp_a (a_aload_n dL_law_799 rfl) (mpp 800 rfl ?_)
  refine mp_a (a_aload_nT dL_law_800 rfl) (mpp 801 rfl ?_)
  refine mp_a (a_iload_n dL_law_801 rfl) (mpp 802 rfl ?_)
  refine mp_a (a_iconst (v := 1) dL_law_802 rfl) (mpp 803 rfl ?_)
  refine mp_t (s_iadd (v := z1) dL_law_803 h2) (mpp 804 rfl ?_)
  refine mp_sld (v := w4) (N := xs.length) dL_law_804 rfl (t_ix (by omega) (by omega)) h5 (mpp 805 rfl ?_)
  refine mt_callv (i := 103) (q' := q_207) (As := [.int w4]) (rest := []) hT11 dL_law_805 rfl qm_207 (by decide) rfl rl_301 (by decide) rfl (Nat.le_of_ble_eq_true rfl) rfl ⟨rfl, rfl⟩ ⟨Nat.le_of_ble_eq_true rfl, Nat.le_of_ble_eq_true rfl⟩ (EvP.mono (by decide) (c_M_orders hT11 R15 Z18 )) (fun r20 P21 g19 => mpp 808 rfl ?_)
  obtain ⟨⟨x22, rfl, g23⟩, hT24, k25, R26⟩ := g19
  have R28 : Rel P21 := R26
  have J29 : Inj P21 := Inj.kw J16 k25 rfl
  have X30 : XR P21 := KW.xr k25 X17
  have Z31 : TK0 P21 := fun l hl => (congrArg Int32.toInt (g23.2 l hl)).trans (Z18 l hl)
  replace g23 : (ordersM (sr P8) x22.toInt w4.toInt) ∧ (∀ l : Nat, l < 7 → fv P21 313 l = fv P8 313 l) := g23
  show MEvP _ _ lawq 808 [(3, .int i), (2, .ref 301), (1, .ref 0), (0, .long 0)] [.int x22] _ _ _ _
  refine mp_t (s_pop dL_law_808 rfl) (mpp 809 rfl ?_)
  refine mp_a (a_goto (t := 992) dL_law_809 (by decide)) ?_
  have m32h : ∀ a j : Nat, 301 ≤ a → a < 315 → fv P8 a j = fv P a j := fun a j h1 h2 => KW.high k12 hT hT11 (by decide) h1 h2 j
  have m32l : ∀ a j : Nat, a < 301 → fv P21 a j = fv P8 a j := fun a j h1 => KW.low k25 hT11 hT24 (by decide) h1 j
  have m32r : ∀ k : Nat, rv P21 2 k = rv P8 2 k := fun k => k25.2.2 rfl k
  exact kk _ ⟨hT24, R28, X30, J29, SIM.same hS hT (fun x j h1 h2 => (m32l x j (by omega)).trans (KW.q k12 hT hT11 (by decide) h1 h2 j)) (fun k => (m32r k).trans ((fun k => k12.2.2 rfl k) k)) ((m32l 0 8 (by omega)).trans (KW.at k12 8 rl_0 rfl)) (fun j => (KW.at k25 j rl_302 rfl).trans (m32h 302 j (by omega) (by omega))) ((KW.at k25 4 rl_301 rfl).trans (m32h 301 4 (by omega) (by omega))) ((KW.at k25 8 rl_301 rfl).trans (m32h 301 8 (by omega) (by omega))) ((KW.at k25 23 rl_301 rfl).trans (m32h 301 23 (by omega) (by omega))) (fun j => (KW.at k25 j rl_304 rfl).trans (m32h 304 j (by omega) (by omega))) (fun j => (KW.at k25 j rl_305 rfl).trans (m32h 305 j (by omega) (by omega))) (fun j => (KW.at k25 j rl_314 rfl).trans (m32h 314 j (by omega) (by omega))), Z31⟩

set_option maxHeartbeats 4000000 in
theorem law_c22 {xs : List Int32} (hn : xs.length ≤ 2048) {i : Int32} (h0 : 0 ≤ i.toInt) (h4 : i.toInt + 4 ≤ xs.length) {P : mP} (hT : Typ P) (hR : Rel P) (hX : XR P) (hJ : Inj P) (hS : SIM P) (hZ : TK0 P) (kk : ∀ P' : mP, LI P' → MEvP 15 (some xs) lawq 992 [(3, .int i), (2, .ref 301), (1, .ref 0), (0, .long 0)] [] P' 315 4038 (fun r _ => r = some (.int 1))) : MEvP 15 (some xs) lawq 812 [(3, .int i), (2, .ref 301), (1, .ref 0), (0, .long 0)] [] P 315 4038 (fun r _ => r = some (.int 1)) := by
  refine mp_a (a_aload_n dL_law_812 rfl) (mpp 813 rfl ?_)
  refine mp_a (a_aload_nT dL_law_813 rfl) (mpp 814 rfl ?_)
  refine mp_a (a_iload_n dL_law_814 rfl) (mpp 815 rfl ?_)
  refine mp_a (a_iconst (v := 1) dL_law_815 rfl) (mpp 816 rfl ?_)
  obtain ⟨z1, h2⟩ := ti_ex (i + 1 : Int32)
  have e3 : z1.toInt = i.toInt + 1 := ti_addz h2 rfl rfl (by omega) (by omega)
  refine mp_t (s_iadd (v := z1) dL_law_816 h2) (mpp 817 rfl ?_)
  obtain ⟨w4, h5⟩ := ti_ex (xs.getD z1.toNatClampNeg 0)
  refine mp_sld (v := w4) (N := xs.length) dL_law_817 rfl (t_ix (by omega) (by omega)) h5 (mpp 818 rfl ?_)
  refine mt_callv (i := 104) (q' := q_85) (As := [.int w4]) (rest := []) hT dL_law_818 rfl qm_85 (by decide) rfl rl_0 (by decide) rfl (Nat.le_of_ble_eq_true rfl) rfl ⟨rfl, rfl⟩ ⟨Nat.le_of_ble_eq_true rfl, Nat.le_of_ble_eq_true rfl⟩ (EvP.mono (by decide) (c_F_thickest hT hX )) (fun r7 P8 g6 => mpp 821 rfl ?_)
  obtain ⟨⟨x9, rfl, g10⟩, e11⟩ := g6
  have e11 := e11.symm
  subst e11
  replace g10 : thickestC P x9.toInt w4.toInt := g10
  show MEvP _ _ lawq 821 [(3, .int i), (2, .ref 301), (1, .ref 0), (0, .long 0)] [.int x9] _ _ _ _
  refine mp_t (s_pop dL_law_821 rfl) (mpp 822 rfl ?_)
  refine mp_a (a_aload_n dL_law_822 rfl) (mpp 823 rfl ?_)
  refine mp_a (a_aload_nT dL_law_823 rfl) (mpp 824 rfl ?_)
  refine mp_a (a_iload_n dL_law_824 rfl) (mpp 825 rfl ?_)
  refine mp_a (a_iconst (v := 1) dL_law_825 rfl) (mpp 826 rfl ?_)
  refine mp_t (s_iadd (v := z1) dL_law_826 h2) (mpp 827 rfl ?_)
  refine mp_sld (v := w4) (N := xs.length) dL_law_827 rfl (t_ix (by omega) (by omega)) h5 (mpp 828 rfl ?_)
  refine mt_callv (i := 107) (q' := q_211) (As := [.int w4]) (rest := []) hT dL_law_828 rfl qm_211 (by decide) rfl rl_301 (by decide) rfl (Nat.le_of_ble_eq_true rfl) rfl ⟨rfl, rfl⟩ ⟨Nat.le_of_ble_eq_true rfl, Nat.le_of_ble_eq_true rfl⟩ (EvP.mono (by decide) (c_M_thickest hT )) (fun r13 P14 g12 => mpp 831 rfl ?_)
  obtain ⟨⟨x15, rfl, g16⟩, e17⟩ := g12
  have e17 := e17.symm
  subst e17
  replace g16 : thickestM (sr P) x15.toInt w4.toInt := g16
  show MEvP _ _ lawq 831 [(3, .int i), (2, .ref 301), (1, .ref 0), (0, .long 0)] [.int x15] _ _ _ _
  refine mp_t (s_pop dL_law_831 rfl) (mpp 832 rfl ?_)
  refine mp_a (a_goto (t := 992) dL_law_832 (by decide)) ?_
  have m18h : ∀ a j : Nat, 301 ≤ a → a < 315 → fv P a j = fv P a j := fun _ _ _ _ => rfl
  have m18l : ∀ a j : Nat, a < 301 → fv P a j = fv P a j := fun _ _ _ => rfl
  have m18r : ∀ k : Nat, rv P 2 k = rv P 2 k := fun _ => rfl
  exact kk _ ⟨hT, hR, hX, hJ, SIM.same hS hT (fun x j h1 h2 => (m18l x j (by omega)).trans (rfl)) (fun k => (m18r k).trans ((fun _ => rfl) k)) ((m18l 0 8 (by omega)).trans rfl) (fun j => m18h 302 j (by omega) (by omega)) (m18h 301 4 (by omega) (by omega)) (m18h 301 8 (by omega) (by omega)) (m18h 301 23 (by omega) (by omega)) (fun j => m18h 304 j (by omega) (by omega)) (fun j => m18h 305 j (by omega) (by omega)) (fun j => m18h 314 j (by omega) (by omega)), hZ⟩

set_option maxHeartbeats 4000000 in
theorem law_c23 {xs : List Int32} (hn : xs.length ≤ 2048) {i : Int32} (h0 : 0 ≤ i.toInt) (h4 : i.toInt + 4 ≤ xs.length) {P : mP} (hT : Typ P) (hR : Rel P) (hX : XR P) (hJ : Inj P) (hS : SIM P) (hZ : TK0 P) (kk : ∀ P' : mP, LI P' → MEvP 15 (some xs) lawq 992 [(3, .int i), (2, .ref 301), (1, .ref 0), (0, .long 0)] [] P' 315 4038 (fun r _ => r = some (.int 1))) : MEvP 15 (some xs) lawq 835 [(3, .int i), (2, .ref 301), (1, .ref 0), (0, .long 0)] [] P 315 4038 (fun r _ => r = some (.int 1)) := by
  refine mp_a (a_aload_n dL_law_835 rfl) (mpp 836 rfl ?_)
  refine mp_a (a_aload_nT dL_law_836 rfl) (mpp 837 rfl ?_)
  refine mp_a (a_iload_n dL_law_837 rfl) (mpp 838 rfl ?_)
  refine mp_a (a_iconst (v := 1) dL_law_838 rfl) (mpp 839 rfl ?_)
  obtain ⟨z1, h2⟩ := ti_ex (i + 1 : Int32)
  have e3 : z1.toInt = i.toInt + 1 := ti_addz h2 rfl rfl (by omega) (by omega)
  refine mp_t (s_iadd (v := z1) dL_law_839 h2) (mpp 840 rfl ?_)
  obtain ⟨w4, h5⟩ := ti_ex (xs.getD z1.toNatClampNeg 0)
  refine mp_sld (v := w4) (N := xs.length) dL_law_840 rfl (t_ix (by omega) (by omega)) h5 (mpp 841 rfl ?_)
  refine mt_callv (i := 108) (q' := q_90) (As := [.int w4]) (rest := []) hT dL_law_841 rfl qm_90 (by decide) rfl rl_0 (by decide) rfl (Nat.le_of_ble_eq_true rfl) rfl ⟨rfl, rfl⟩ ⟨Nat.le_of_ble_eq_true rfl, Nat.le_of_ble_eq_true rfl⟩ (EvP.mono (by decide) (c_F_reflected hT hX )) (fun r7 P8 g6 => mpp 844 rfl ?_)
  obtain ⟨⟨x9, rfl, g10⟩, e11⟩ := g6
  have e11 := e11.symm
  subst e11
  replace g10 : reflectedC P x9.toInt w4.toInt := g10
  show MEvP _ _ lawq 844 [(3, .int i), (2, .ref 301), (1, .ref 0), (0, .long 0)] [.int x9] _ _ _ _
  refine mp_t (s_pop dL_law_844 rfl) (mpp 845 rfl ?_)
  refine mp_a (a_aload_n dL_law_845 rfl) (mpp 846 rfl ?_)
  refine mp_a (a_aload_nT dL_law_846 rfl) (mpp 847 rfl ?_)
  refine mp_a (a_iload_n dL_law_847 rfl) (mpp 848 rfl ?_)
  refine mp_a (a_iconst (v := 1) dL_law_848 rfl) (mpp 849 rfl ?_)
  refine mp_t (s_iadd (v := z1) dL_law_849 h2) (mpp 850 rfl ?_)
  refine mp_sld (v := w4) (N := xs.length) dL_law_850 rfl (t_ix (by omega) (by omega)) h5 (mpp 851 rfl ?_)
  refine mt_callv (i := 111) (q' := q_213) (As := [.int w4]) (rest := []) hT dL_law_851 rfl qm_213 (by decide) rfl rl_301 (by decide) rfl (Nat.le_of_ble_eq_true rfl) rfl ⟨rfl, rfl⟩ ⟨Nat.le_of_ble_eq_true rfl, Nat.le_of_ble_eq_true rfl⟩ (EvP.mono (by decide) (c_M_reflected hT )) (fun r13 P14 g12 => mpp 854 rfl ?_)
  obtain ⟨⟨x15, rfl, g16⟩, e17⟩ := g12
  have e17 := e17.symm
  subst e17
  replace g16 : reflectedM (sr P) x15.toInt w4.toInt := g16
  show MEvP _ _ lawq 854 [(3, .int i), (2, .ref 301), (1, .ref 0), (0, .long 0)] [.int x15] _ _ _ _
  refine mp_t (s_pop dL_law_854 rfl) (mpp 855 rfl ?_)
  refine mp_a (a_goto (t := 992) dL_law_855 (by decide)) ?_
  have m18h : ∀ a j : Nat, 301 ≤ a → a < 315 → fv P a j = fv P a j := fun _ _ _ _ => rfl
  have m18l : ∀ a j : Nat, a < 301 → fv P a j = fv P a j := fun _ _ _ => rfl
  have m18r : ∀ k : Nat, rv P 2 k = rv P 2 k := fun _ => rfl
  exact kk _ ⟨hT, hR, hX, hJ, SIM.same hS hT (fun x j h1 h2 => (m18l x j (by omega)).trans (rfl)) (fun k => (m18r k).trans ((fun _ => rfl) k)) ((m18l 0 8 (by omega)).trans rfl) (fun j => m18h 302 j (by omega) (by omega)) (m18h 301 4 (by omega) (by omega)) (m18h 301 8 (by omega) (by omega)) (m18h 301 23 (by omega) (by omega)) (fun j => m18h 304 j (by omega) (by omega)) (fun j => m18h 305 j (by omega) (by omega)) (fun j => m18h 314 j (by omega) (by omega)), hZ⟩
