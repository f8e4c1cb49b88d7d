/-! the law on any script -/
def relb (P : mP) (a o : Nat) : Bool := (List.range 8).all (fun k => decide (((fv P a (o + 3 + 19 * k)).toInt = 0 → (fv P a (o + 4 + 19 * k)).toInt ≤ 7) ∧ ((k : Int) < (fv P a o).toInt → 2 ≤ (fv P a (o + 4 + 19 * k)).toInt)))
theorem relb_ok {P : mP} {a o : Nat} (h : relb P a o = true) : RelAt P a o := fun k hk => of_decide_eq_true (List.all_eq_true.mp h k (List.mem_range.mpr hk))
theorem rel0 : Rel P0 := ⟨relb_ok (by decide +kernel), relb_ok (by decide +kernel), relb_ok (by decide +kernel), fun c hc => relb_ok ((List.all_eq_true.mp (show (List.range 8).all (fun c => relb P0 305 (155 * c)) = true by decide +kernel)) c (List.mem_range.mpr hc))⟩
theorem tk00 : TK0 P0 := fun l hl => by
  have h : (List.range 7).all (fun l => decide ((fv P0 313 l).toInt = 0)) = true := by decide +kernel
  exact of_decide_eq_true (List.all_eq_true.mp h l (List.mem_range.mpr hl))
theorem li0 : LI P0 := ⟨typ0, rel0, xr0, inj0, sim0, tk00⟩
set_option maxHeartbeats 4000000 in
theorem law_loop {xs : List Int32} (hn : xs.length ≤ 2048) : ∀ (n : Nat) (i : Int32) (P : mP), 0 ≤ i.toInt → i.toInt ≤ 2048 + 8 → LI P → (2147483647 - i.toInt).toNat = n → MEvP 15 (some xs) lawq 18 [(3, .int i), (2, .ref 301), (1, .ref 0), (0, .long 0)] [] P 315 4038 (fun r _ => r = some (.int 1)) := by
  intro n
  induction n using Nat.strongRecOn with | _ n ih => ?_
  intro i P h0 h1 hI hm
  refine mp_a (a_iload_n dL_law_18 rfl) (mpp 19 rfl ?_)
  refine mp_a (a_aload_nT dL_law_19 rfl) (mpp 20 rfl ?_)
  obtain ⟨ln, hl⟩ := ti_ex (Int32.ofNat xs.length)
  have el : ln.toInt = xs.length := hl ▸ ofNat_toInt hn
  refine mp_slen (n := ln) dL_law_20 hl (mpp 21 rfl ?_)
  refine mp_a (a_iconst (v := 4) dL_law_21 rfl) (mpp 22 rfl ?_)
  obtain ⟨z, hz⟩ := ti_ex (ln - 4 : Int32)
  have ez : z.toInt = ln.toInt - 4 := ti_subz hz rfl rfl (by omega) (by omega)
  refine mp_t (s_isub (v := z) dL_law_22 hz) (mpp 23 rfl ?_)
  refine mp_Tb (t := 998) (j_icmp_gt dL_law_23) (by decide) (fun c => ?_) (fun c => mpp 26 rfl ?_)
  · refine mp_a (a_iconst (v := 1) dL_law_998 rfl) (mpp 999 rfl ?_)
    exact mp_iretS rfl dL_law_999 (Or.inr ⟨rfl, Or.inr rfl⟩)
  have c : i.toInt ≤ z.toInt := ti_gt_n c
  have kk : ∀ P2 : mP, LI P2 → MEvP 15 (some xs) lawq 992 [(3, .int i), (2, .ref 301), (1, .ref 0), (0, .long 0)] [] P2 315 4038 (fun r _ => r = some (.int 1)) := by
    intro P2 hI2
    obtain ⟨z2, hz2⟩ := ti_ex (i + 4 : Int32)
    have e2 : z2.toInt = i.toInt + 4 := ti_addz hz2 rfl rfl (by omega) (by omega)
    refine mp_a (a_iinc (v := z2) (L' := [(3, .int z2), (2, .ref 301), (1, .ref 0), (0, .long 0)]) dL_law_992 (by decide) rfl hz2 rfl) (mpp 995 rfl ?_)
    refine mp_a (a_goto (t := 18) dL_law_995 (by decide)) ?_
    exact ih _ (by omega) z2 P2 (by omega) (by omega) hI2 rfl
  obtain ⟨hT, hR, hX, hJ, hS, hZ⟩ := hI
  refine mp_a (a_aload_nT dL_law_26 rfl) (mpp 27 rfl ?_)
  refine mp_a (a_iload_n dL_law_27 rfl) (mpp 28 rfl ?_)
  obtain ⟨w, hw⟩ := ti_ex (xs.getD i.toNatClampNeg 0)
  refine mp_sld (v := w) (N := xs.length) dL_law_28 rfl (t_ix (by omega) (by omega)) hw (mpp 29 rfl ?_)
  refine mp_a (a_bipush (v := 31) dL_law_29 rfl) (mpp 31 rfl ?_)
  obtain ⟨j, hj, ej⟩ := pk_andE w (m := 31) 5 (by decide)
  refine mp_t (s_iand (v := nI j) dL_law_31 ej) (mpp 32 rfl ?_)
  match j, hj with
  | 0, _ => exact mp_t (s_tabIn (t := 176) dL_law_32 (by decide) rfl (by decide)) (law_c0 hn h0 (by omega) hT hR hX hJ hS hZ kk)
  | 1, _ => exact mp_t (s_tabIn (t := 199) dL_law_32 (by decide) rfl (by decide)) (law_c1 hn h0 (by omega) hT hR hX hJ hS hZ kk)
  | 2, _ => exact mp_t (s_tabIn (t := 242) dL_law_32 (by decide) rfl (by decide)) (law_c2 hn h0 (by omega) hT hR hX hJ hS hZ kk)
  | 3, _ => exact mp_t (s_tabIn (t := 285) dL_law_32 (by decide) rfl (by decide)) (law_c3 hn h0 (by omega) hT hR hX hJ hS hZ kk)
  | 4, _ => exact mp_t (s_tabIn (t := 308) dL_law_32 (by decide) rfl (by decide)) (law_c4 hn h0 (by omega) hT hR hX hJ hS hZ kk)
  | 5, _ => exact mp_t (s_tabIn (t := 341) dL_law_32 (by decide) rfl (by decide)) (law_c5 hn h0 (by omega) hT hR hX hJ hS hZ kk)
  | 6, _ => exact mp_t (s_tabIn (t := 384) dL_law_32 (by decide) rfl (by decide)) (law_c6 hn h0 (by omega) hT hR hX hJ hS hZ kk)
  | 7, _ => exact mp_t (s_tabIn (t := 417) dL_law_32 (by decide) rfl (by decide)) (law_c7 hn h0 (by omega) hT hR hX hJ hS hZ kk)
  | 8, _ => exact mp_t (s_tabIn (t := 440) dL_law_32 (by decide) rfl (by decide)) (law_c8 hn h0 (by omega) hT hR hX hJ hS hZ kk)
  | 9, _ => exact mp_t (s_tabIn (t := 463) dL_law_32 (by decide) rfl (by decide)) (law_c9 hn h0 (by omega) hT hR hX hJ hS hZ kk)
  | 10, _ => exact mp_t (s_tabIn (t := 486) dL_law_32 (by decide) rfl (by decide)) (law_c10 hn h0 (by omega) hT hR hX hJ hS hZ kk)
  | 11, _ => exact mp_t (s_tabIn (t := 519) dL_law_32 (by decide) rfl (by decide)) (law_c11 hn h0 (by omega) hT hR hX hJ hS hZ kk)
  | 12, _ => exact mp_t (s_tabIn (t := 552) dL_law_32 (by decide) rfl (by decide)) (law_c12 hn h0 (by omega) hT hR hX hJ hS hZ kk)
  | 13, _ => exact mp_t (s_tabIn (t := 585) dL_law_32 (by decide) rfl (by decide)) (law_c13 hn h0 (by omega) hT hR hX hJ hS hZ kk)
  | 14, _ => exact mp_t (s_tabIn (t := 608) dL_law_32 (by decide) rfl (by decide)) (law_c14 hn h0 (by omega) hT hR hX hJ hS hZ kk)
  | 15, _ => exact mp_t (s_tabIn (t := 631) dL_law_32 (by decide) rfl (by decide)) (law_c15 hn h0 (by omega) hT hR hX hJ hS hZ kk)
  | 16, _ => exact mp_t (s_tabIn (t := 654) dL_law_32 (by decide) rfl (by decide)) (law_c16 hn h0 (by omega) hT hR hX hJ hS hZ kk)
  | 17, _ => exact mp_t (s_tabIn (t := 677) dL_law_32 (by decide) rfl (by decide)) (law_c17 hn h0 (by omega) hT hR hX hJ hS hZ kk)
  | 18, _ => exact mp_t (s_tabIn (t := 700) dL_law_32 (by decide) rfl (by decide)) (law_c18 hn h0 (by omega) hT hR hX hJ hS hZ kk)
  | 19, _ => exact mp_t (s_tabIn (t := 723) dL_law_32 (by decide) rfl (by decide)) (law_c19 hn h0 (by omega) hT hR hX hJ hS hZ kk)
  | 20, _ => exact mp_t (s_tabIn (t := 756) dL_law_32 (by decide) rfl (by decide)) (law_c20 hn h0 (by omega) hT hR hX hJ hS hZ kk)
  | 21, _ => exact mp_t (s_tabIn (t := 789) dL_law_32 (by decide) rfl (by decide)) (law_c21 hn h0 (by omega) hT hR hX hJ hS hZ kk)
  | 22, _ => exact mp_t (s_tabIn (t := 812) dL_law_32 (by decide) rfl (by decide)) (law_c22 hn h0 (by omega) hT hR hX hJ hS hZ kk)
  | 23, _ => exact mp_t (s_tabIn (t := 835) dL_law_32 (by decide) rfl (by decide)) (law_c23 hn h0 (by omega) hT hR hX hJ hS hZ kk)
  | 24, _ => exact mp_t (s_tabIn (t := 858) dL_law_32 (by decide) rfl (by decide)) (law_c24 hn h0 (by omega) hT hR hX hJ hS hZ kk)
  | 25, _ => exact mp_t (s_tabIn (t := 881) dL_law_32 (by decide) rfl (by decide)) (law_c25 hn h0 (by omega) hT hR hX hJ hS hZ kk)
  | 26, _ => exact mp_t (s_tabIn (t := 894) dL_law_32 (by decide) rfl (by decide)) (law_c26 hn h0 (by omega) hT hR hX hJ hS hZ kk)
  | 27, _ => exact mp_t (s_tabIn (t := 917) dL_law_32 (by decide) rfl (by decide)) (law_c27 hn h0 (by omega) hT hR hX hJ hS hZ kk)
  | 28, _ => exact mp_t (s_tabIn (t := 940) dL_law_32 (by decide) rfl (by decide)) (law_c28 hn h0 (by omega) hT hR hX hJ hS hZ kk)
  | 29, _ => exact mp_t (s_tabIn (t := 953) dL_law_32 (by decide) rfl (by decide)) (law_c29 hn h0 (by omega) hT hR hX hJ hS hZ kk)
  | 30, _ => exact mp_t (s_tabIn (t := 966) dL_law_32 (by decide) rfl (by decide)) (law_c30 hn h0 (by omega) hT hR hX hJ hS hZ kk)
  | 31, _ => exact mp_t (s_tabIn (t := 979) dL_law_32 (by decide) rfl (by decide)) (law_c31 hn h0 (by omega) hT hR hX hJ hS hZ kk)
  | j + 32, h => exact absurd h (by omega)
set_option maxRecDepth 100000 in
set_option maxHeartbeats 4000000 in
theorem law_run (xl : List Int32) (h : xl.length ≤ 2048) : ∃ P', MEv 15 (some xl) lawq 0 [(0, .long 0)] [] [] 0 0 (some (.int 1)) P' := by
  obtain ⟨r, P', rfl, ht⟩ := law_loop h _ 0 P0 (by decide) (by decide) li0 rfl
  refine ⟨P', ?_⟩
  have hx : ([] : mP).length = 0 := rfl
  show MEv 15 (some xl) lawq 0 [(0, .long 0)] [] ([] ++ []) 0 0 _ _
  refine ms_new (i := 7) (ci := 6) (k := 0) hx dL_law_0 rfl rfl ⟨Nat.le_of_ble_eq_true rfl, Nat.le_of_ble_eq_true rfl⟩ (mpe 3 rfl ?_)
  refine me_t (s_dup dL_law_3 rfl) (mpe 4 rfl ?_)
  refine ms_init (i := 9) (q' := q_0) (l' := [] ++ rTheatre (0 + 0)) dL_law_4 rfl qm_0 (by decide) rfl rfl (Nat.le_of_ble_eq_true rfl) ⟨Nat.le_of_ble_eq_true rfl, Nat.le_of_ble_eq_true rfl⟩ ((ei_0 (l := []) hx rfl).mono (by decide)) (mpe 7 rfl ?_)
  refine me_a (a_astore_n (L' := [(1, .ref (0 + 0)), (0, .long 0)]) dL_law_7 (by decide) rfl) (mpe 8 rfl ?_)
  refine ms_new (i := 10) (ci := 7) (k := 301) hx dL_law_8 rfl rfl ⟨Nat.le_of_ble_eq_true rfl, Nat.le_of_ble_eq_true rfl⟩ (mpe 11 rfl ?_)
  refine me_t (s_dup dL_law_11 rfl) (mpe 12 rfl ?_)
  refine ms_init (i := 12) (q' := q_122) (l' := ([] ++ rTheatre (0 + 0)) ++ rModel (0 + 301)) dL_law_12 rfl qm_122 (by decide) rfl rfl (Nat.le_of_ble_eq_true rfl) ⟨Nat.le_of_ble_eq_true rfl, Nat.le_of_ble_eq_true rfl⟩ ((ei_122 (l := [] ++ rTheatre (0 + 0)) hx rfl).mono (by decide)) (mpe 15 rfl ?_)
  refine me_a (a_astore_n (L' := [(2, .ref (0 + 301)), (1, .ref (0 + 0)), (0, .long 0)]) dL_law_15 (by decide) rfl) (mpe 16 rfl ?_)
  refine me_a (a_iconst (v := 0) dL_law_16 rfl) (mpe 17 rfl ?_)
  refine me_a (a_istore_n (L' := [(3, .int 0), (2, .ref (0 + 301)), (1, .ref (0 + 0)), (0, .long 0)]) dL_law_17 (by decide) rfl) (mpe 18 rfl ?_)
  exact ht
