/-! the law, a call each (written by a program) -/
set_option maxHeartbeats 4000000 in
theorem law_c24 {xs : List Int32} (hn : xs.length ≤ 2048) {i : Int32} (h0 : 0 ≤ i.toInt) (h4 : i.toInt + 4 ≤ xs.length) {P : mP} (hT : Typ P) (hR : Rel P) (hX : XR P) (hJ : Inj P) (hS : SIM P) (hZ : TK0 P) (kk : ∀ P' : mP, LI P' → MEvP 15 (some xs) lawq 992 [(3, .int i), (2, .ref 301), (1, .ref 0), (0, .long 0)] [] P' 315 4038 (fun r _ => r = some (.int 1))) : MEvP 15 (some xs) lawq 858 [(3, .int i), (2, .ref 301), (1, .ref 0), (0, .long 0)] [] P 315 4038 (fun r _ => r = some (.int 1)) := by
  refine mp_a (a_aload_n dL_law_858 rfl) (mpp 859 rfl ?_)
  refine mp_a (a_aload_nT dL_law_859 rfl) (mpp 860 rfl ?_)
  refine mp_a (a_iload_n dL_law_860 rfl) (mpp 861 rfl ?_)
  refine mp_a (a_iconst (v := 1) dL_law_861 rfl) (mpp 862 rfl ?_)
  obtain ⟨z1, h2⟩ := ti_ex (i + 1 : Int32)
  have e3 : z1.toInt = i.toInt + 1 := ti_addz h2 rfl rfl (by omega) (by omega)
  refine mp_t (s_iadd (v := z1) dL_law_862 h2) (mpp 863 rfl ?_)
  obtain ⟨w4, h5⟩ := ti_ex (xs.getD z1.toNatClampNeg 0)
  refine mp_sld (v := w4) (N := xs.length) dL_law_863 rfl (t_ix (by omega) (by omega)) h5 (mpp 864 rfl ?_)
  refine mt_callv (i := 112) (q' := q_92) (As := [.int w4]) (rest := []) hT dL_law_864 rfl qm_92 (by decide) rfl rl_0 (by decide) rfl (Nat.le_of_ble_eq_true rfl) rfl ⟨rfl, rfl⟩ ⟨Nat.le_of_ble_eq_true rfl, Nat.le_of_ble_eq_true rfl⟩ (EvP.mono (by decide) (c_F_append hT hX )) (fun r7 P8 g6 => mpp 867 rfl ?_)
  obtain ⟨⟨x9, rfl, g10⟩, hT11, k12, R13⟩ := g6
  have R15 : Rel P8 := Rel.kw hR k12 rfl
  have J16 : Inj P8 := Inj.kw hJ k12 rfl
  have X17 : XR P8 := KW.xr k12 hX
  have Z18 : TK0 P8 := fun l hl => (congrArg Int32.toInt (KW.at k12 l rl_313 rfl)).trans (hZ l hl)
  replace g10 : (x9.toInt = -1002 ∧ (w4.toInt < 32 ∨ 126 < w4.toInt ∨ 80 ≤ (fv P 289 1).toInt) ∧ (fv P8 289 1).toInt = (fv P 289 1).toInt ∧ ∀ j : Nat, fv P8 290 j = fv P 290 j) ∨ (x9.toInt = (fv P 289 1).toInt + 1 ∧ 32 ≤ w4.toInt ∧ w4.toInt ≤ 126 ∧ (fv P 289 1).toInt < 80 ∧ (fv P8 289 1).toInt = (fv P 289 1).toInt + 1 ∧ (fv P8 290 (fv P 289 1).toInt.toNat).toInt = w4.toInt ∧ ∀ j : Nat, ¬ j = (fv P 289 1).toInt.toNat → fv P8 290 j = fv P 290 j) := g10
  show MEvP _ _ lawq 867 [(3, .int i), (2, .ref 301), (1, .ref 0), (0, .long 0)] [.int x9] _ _ _ _
  refine mp_t (s_pop dL_law_867 rfl) (mpp 868 rfl ?_)
  refine mp_a (a_aload_n dL_law_868 rfl) (mpp 869 rfl ?_)
  refine mp_a (a_aload_nT dL_law_869 rfl) (mpp 870 rfl ?_)
  refine mp_a (a_iload_n dL_law_870 rfl) (mpp 871 rfl ?_)
  refine mp_a (a_iconst (v := 1) dL_law_871 rfl) (mpp 872 rfl ?_)
  refine mp_t (s_iadd (v := z1) dL_law_872 h2) (mpp 873 rfl ?_)
  refine mp_sld (v := w4) (N := xs.length) dL_law_873 rfl (t_ix (by omega) (by omega)) h5 (mpp 874 rfl ?_)
  refine mt_callv (i := 115) (q' := q_214) (As := [.int w4]) (rest := []) hT11 dL_law_874 rfl qm_214 (by decide) rfl rl_301 (by decide) rfl (Nat.le_of_ble_eq_true rfl) rfl ⟨rfl, rfl⟩ ⟨Nat.le_of_ble_eq_true rfl, Nat.le_of_ble_eq_true rfl⟩ (EvP.mono (by decide) (c_M_append hT11 )) (fun r20 P21 g19 => mpp 877 rfl ?_)
  obtain ⟨⟨x22, rfl, g23⟩, hT24, k25, R26⟩ := g19
  have R28 : Rel P21 := Rel.kw R15 k25 rfl
  have J29 : Inj P21 := Inj.kw J16 k25 rfl
  have X30 : XR P21 := KW.xr k25 X17
  have Z31 : TK0 P21 := fun l hl => (congrArg Int32.toInt (KW.at k25 l rl_313 rfl)).trans (Z18 l hl)
  replace g23 : (x22.toInt = -1002 ∧ (w4.toInt < 32 ∨ 126 < w4.toInt ∨ 80 ≤ (fv P8 301 23).toInt) ∧ (fv P21 301 23).toInt = (fv P8 301 23).toInt ∧ ∀ j : Nat, fv P21 314 j = fv P8 314 j) ∨ (x22.toInt = (fv P8 301 23).toInt + 1 ∧ 32 ≤ w4.toInt ∧ w4.toInt ≤ 126 ∧ (fv P8 301 23).toInt < 80 ∧ (fv P21 301 23).toInt = (fv P8 301 23).toInt + 1 ∧ (fv P21 314 (fv P8 301 23).toInt.toNat).toInt = w4.toInt ∧ ∀ j : Nat, ¬ j = (fv P8 301 23).toInt.toNat → fv P21 314 j = fv P8 314 j) := g23
  show MEvP _ _ lawq 877 [(3, .int i), (2, .ref 301), (1, .ref 0), (0, .long 0)] [.int x22] _ _ _ _
  refine mp_t (s_pop dL_law_877 rfl) (mpp 878 rfl ?_)
  refine mp_a (a_goto (t := 992) dL_law_878 (by decide)) ?_
  have m32h : ∀ a j : Nat, 301 ≤ a → a < 315 → fv P8 a j = fv P a j := fun a j h1 h2 => KW.high k12 hT hT11 (by decide) h1 h2 j
  have m32l : ∀ a j : Nat, a < 301 → fv P21 a j = fv P8 a j := fun a j h1 => KW.low k25 hT11 hT24 (by decide) h1 j
  have m32r : ∀ k : Nat, rv P21 2 k = rv P8 2 k := fun k => k25.2.2 rfl k
  have m32L : (0 : Int) ≤ (fv P 301 23).toInt ∧ (fv P 301 23).toInt ≤ 80 := Typ.rng hT rl_301 (by decide) (by decide) rfl
  have m3223 : fv P8 301 23 = fv P 301 23 := m32h 301 23 (by omega) (by omega)
  have m32m := g23
  have m32C : APP x9.toInt w4.toInt (fv P 289 1).toInt (fv P21 289 1).toInt (fun j => fv P 290 j) (fun j => fv P21 290 j) := by rw [m32l 289 1 (by omega), show (fun j : Nat => fv P21 290 j) = (fun j : Nat => fv P8 290 j) from funext (fun j => m32l 290 j (by omega))]; exact g10
  have m32M : APP x22.toInt w4.toInt (fv P 301 23).toInt (fv P21 301 23).toInt (fun j => fv P 314 j) (fun j => fv P21 314 j) := by rw [← m3223, show (fun j : Nat => fv P 314 j) = (fun j : Nat => fv P8 314 j) from funext (fun j => (m32h 314 j (by omega) (by omega)).symm)]; exact g23
  have m32T := TXT.append hS.2.2.2.1 m32L.1 m32C m32M
  exact kk _ ⟨hT24, R28, X30, J29, SIM.txt hS hT (fun x j h1 h2 => (m32l x j (by omega)).trans (KW.q1 k12 hT hT11 (by decide) h1 h2 j)) (fun k => (m32r k).trans ((fun k => k12.2.2 rfl k) k)) ((m32l 0 8 (by omega)).trans (KW.at k12 8 rl_0 rfl)) (fun j => (KW.at k25 j rl_302 rfl).trans (m32h 302 j (by omega) (by omega))) ((KW.at k25 4 rl_301 rfl).trans (m32h 301 4 (by omega) (by omega))) ((KW.at k25 8 rl_301 rfl).trans (m32h 301 8 (by omega) (by omega))) (fun j => (KW.at k25 j rl_304 rfl).trans (m32h 304 j (by omega) (by omega))) (fun j => (KW.at k25 j rl_305 rfl).trans (m32h 305 j (by omega) (by omega))) m32T.2, Z31⟩

set_option maxHeartbeats 4000000 in
theorem law_c25 {xs : List Int32} (hn : xs.length ≤ 2048) {i : Int32} (h0 : 0 ≤ i.toInt) (h4 : i.toInt + 4 ≤ xs.length) {P : mP} (hT : Typ P) (hR : Rel P) (hX : XR P) (hJ : Inj P) (hS : SIM P) (hZ : TK0 P) (kk : ∀ P' : mP, LI P' → MEvP 15 (some xs) lawq 992 [(3, .int i), (2, .ref 301), (1, .ref 0), (0, .long 0)] [] P' 315 4038 (fun r _ => r = some (.int 1))) : MEvP 15 (some xs) lawq 881 [(3, .int i), (2, .ref 301), (1, .ref 0), (0, .long 0)] [] P 315 4038 (fun r _ => r = some (.int 1)) := by
  refine mp_a (a_aload_n dL_law_881 rfl) (mpp 882 rfl ?_)
  refine mt_callv (i := 116) (q' := q_94) (As := []) (rest := []) hT dL_law_882 rfl qm_94 (by decide) rfl rl_0 (by decide) rfl (Nat.le_of_ble_eq_true rfl) rfl ⟨rfl, rfl⟩ ⟨Nat.le_of_ble_eq_true rfl, Nat.le_of_ble_eq_true rfl⟩ (EvP.mono (by decide) (c_F_read hT hX hJ )) (fun r2 P3 g1 => mpp 885 rfl ?_)
  obtain ⟨⟨x4, rfl, g5⟩, hT6, k7, J9, R8⟩ := g1
  have R10 : Rel P3 := Rel.kw hR k7 rfl
  have J11 : Inj P3 := J9
  have X12 : XR P3 := KW.xr k7 hX
  have Z13 : TK0 P3 := fun l hl => (congrArg Int32.toInt (KW.at k7 l rl_313 rfl)).trans (hZ l hl)
  replace g5 : (fv P3 289 1).toInt = 0 ∧ RDC P P3 := g5
  show MEvP _ _ lawq 885 [(3, .int i), (2, .ref 301), (1, .ref 0), (0, .long 0)] [.int x4] _ _ _ _
  refine mp_t (s_pop dL_law_885 rfl) (mpp 886 rfl ?_)
  refine mp_a (a_aload_n dL_law_886 rfl) (mpp 887 rfl ?_)
  refine mt_callv (i := 120) (q' := q_215) (As := []) (rest := []) hT6 dL_law_887 rfl qm_215 (by decide) rfl rl_301 (by decide) rfl (Nat.le_of_ble_eq_true rfl) rfl ⟨rfl, rfl⟩ ⟨Nat.le_of_ble_eq_true rfl, Nat.le_of_ble_eq_true rfl⟩ (EvP.mono (by decide) (c_M_read hT6 R10 )) (fun r15 P16 g14 => mpp 890 rfl ?_)
  obtain ⟨⟨x17, rfl, g18⟩, hT19, k20, R21⟩ := g14
  have R23 : Rel P16 := R21
  have J24 : Inj P16 := Inj.kw J11 k20 rfl
  have X25 : XR P16 := KW.xr k20 X12
  have Z26 : TK0 P16 := fun l hl => (congrArg Int32.toInt (KW.at k20 l rl_313 rfl)).trans (Z13 l hl)
  replace g18 : (fv P16 301 23).toInt = 0 ∧ RDM P3 P16 := g18
  show MEvP _ _ lawq 890 [(3, .int i), (2, .ref 301), (1, .ref 0), (0, .long 0)] [.int x17] _ _ _ _
  refine mp_t (s_pop dL_law_890 rfl) (mpp 891 rfl ?_)
  refine mp_a (a_goto (t := 992) dL_law_891 (by decide)) ?_
  have m27h : ∀ a j : Nat, 301 ≤ a → a < 315 → fv P3 a j = fv P a j := fun a j h1 h2 => KW.high k7 hT hT6 (by decide) h1 h2 j
  have m27l : ∀ a j : Nat, a < 301 → fv P16 a j = fv P3 a j := fun a j h1 => KW.low k20 hT6 hT19 (by decide) h1 j
  have m27r : ∀ k : Nat, rv P16 2 k = rv P3 2 k := fun k => k20.2.2 rfl k
  exact kk _ ⟨hT19, R23, X25, J24, SIM.read hS hT hT6 m27h m27l m27r g5.1 g18.1 g5.2 g18.2, Z26⟩

set_option maxHeartbeats 4000000 in
theorem law_c26 {xs : List Int32} (hn : xs.length ≤ 2048) {i : Int32} (h0 : 0 ≤ i.toInt) (h4 : i.toInt + 4 ≤ xs.length) {P : mP} (hT : Typ P) (hR : Rel P) (hX : XR P) (hJ : Inj P) (hS : SIM P) (hZ : TK0 P) (kk : ∀ P' : mP, LI P' → MEvP 15 (some xs) lawq 992 [(3, .int i), (2, .ref 301), (1, .ref 0), (0, .long 0)] [] P' 315 4038 (fun r _ => r = some (.int 1))) : MEvP 15 (some xs) lawq 894 [(3, .int i), (2, .ref 301), (1, .ref 0), (0, .long 0)] [] P 315 4038 (fun r _ => r = some (.int 1)) := by
  refine mp_a (a_aload_n dL_law_894 rfl) (mpp 895 rfl ?_)
  refine mp_a (a_aload_nT dL_law_895 rfl) (mpp 896 rfl ?_)
  refine mp_a (a_iload_n dL_law_896 rfl) (mpp 897 rfl ?_)
  refine mp_a (a_iconst (v := 1) dL_law_897 rfl) (mpp 898 rfl ?_)
  obtain ⟨z1, h2⟩ := ti_ex (i + 1 : Int32)
  have e3 : z1.toInt = i.toInt + 1 := ti_addz h2 rfl rfl (by omega) (by omega)
  refine mp_t (s_iadd (v := z1) dL_law_898 h2) (mpp 899 rfl ?_)
  obtain ⟨w4, h5⟩ := ti_ex (xs.getD z1.toNatClampNeg 0)
  refine mp_sld (v := w4) (N := xs.length) dL_law_899 rfl (t_ix (by omega) (by omega)) h5 (mpp 900 rfl ?_)
  refine mt_callv (i := 121) (q' := q_109) (As := [.int w4]) (rest := []) hT dL_law_900 rfl qm_109 (by decide) rfl rl_0 (by decide) rfl (Nat.le_of_ble_eq_true rfl) rfl ⟨rfl, rfl⟩ ⟨Nat.le_of_ble_eq_true rfl, Nat.le_of_ble_eq_true rfl⟩ (EvP.mono (by decide) (c_F_refusal hT hX )) (fun r7 P8 g6 => mpp 903 rfl ?_)
  obtain ⟨⟨x9, rfl, g10⟩, e11⟩ := g6
  have e11 := e11.symm
  subst e11
  show MEvP _ _ lawq 903 [(3, .int i), (2, .ref 301), (1, .ref 0), (0, .long 0)] [.int x9] _ _ _ _
  refine mp_t (s_pop dL_law_903 rfl) (mpp 904 rfl ?_)
  refine mp_a (a_aload_n dL_law_904 rfl) (mpp 905 rfl ?_)
  refine mp_a (a_aload_nT dL_law_905 rfl) (mpp 906 rfl ?_)
  refine mp_a (a_iload_n dL_law_906 rfl) (mpp 907 rfl ?_)
  refine mp_a (a_iconst (v := 1) dL_law_907 rfl) (mpp 908 rfl ?_)
  refine mp_t (s_iadd (v := z1) dL_law_908 h2) (mpp 909 rfl ?_)
  refine mp_sld (v := w4) (N := xs.length) dL_law_909 rfl (t_ix (by omega) (by omega)) h5 (mpp 910 rfl ?_)
  refine mt_callv (i := 124) (q' := q_228) (As := [.int w4]) (rest := []) hT dL_law_910 rfl qm_228 (by decide) rfl rl_301 (by decide) rfl (Nat.le_of_ble_eq_true rfl) rfl ⟨rfl, rfl⟩ ⟨Nat.le_of_ble_eq_true rfl, Nat.le_of_ble_eq_true rfl⟩ (EvP.mono (by decide) (c_M_refusal hT )) (fun r13 P14 g12 => mpp 913 rfl ?_)
  obtain ⟨⟨x15, rfl, g16⟩, e17⟩ := g12
  have e17 := e17.symm
  subst e17
  show MEvP _ _ lawq 913 [(3, .int i), (2, .ref 301), (1, .ref 0), (0, .long 0)] [.int x15] _ _ _ _
  refine mp_t (s_pop dL_law_913 rfl) (mpp 914 rfl ?_)
  refine mp_a (a_goto (t := 992) dL_law_914 (by decide)) ?_
  have m18h : ∀ a j : Nat, 301 ≤ a → a < 315 → fv P a j = fv P a j := fun _ _ _ _ => rfl
  have m18l : ∀ a j : Nat, a < 301 → fv P a j = fv P a j := fun _ _ _ => rfl
  have m18r : ∀ k : Nat, rv P 2 k = rv P 2 k := fun _ => rfl
  exact kk _ ⟨hT, hR, hX, hJ, SIM.same hS hT (fun x j h1 h2 => (m18l x j (by omega)).trans (rfl)) (fun k => (m18r k).trans ((fun _ => rfl) k)) ((m18l 0 8 (by omega)).trans rfl) (fun j => m18h 302 j (by omega) (by omega)) (m18h 301 4 (by omega) (by omega)) (m18h 301 8 (by omega) (by omega)) (m18h 301 23 (by omega) (by omega)) (fun j => m18h 304 j (by omega) (by omega)) (fun j => m18h 305 j (by omega) (by omega)) (fun j => m18h 314 j (by omega) (by omega)), hZ⟩

set_option maxHeartbeats 4000000 in
theorem law_c27 {xs : List Int32} (hn : xs.length ≤ 2048) {i : Int32} (h0 : 0 ≤ i.toInt) (h4 : i.toInt + 4 ≤ xs.length) {P : mP} (hT : Typ P) (hR : Rel P) (hX : XR P) (hJ : Inj P) (hS : SIM P) (hZ : TK0 P) (kk : ∀ P' : mP, LI P' → MEvP 15 (some xs) lawq 992 [(3, .int i), (2, .ref 301), (1, .ref 0), (0, .long 0)] [] P' 315 4038 (fun r _ => r = some (.int 1))) : MEvP 15 (some xs) lawq 917 [(3, .int i), (2, .ref 301), (1, .ref 0), (0, .long 0)] [] P 315 4038 (fun r _ => r = some (.int 1)) := by
  refine mp_a (a_aload_n dL_law_917 rfl) (mpp 918 rfl ?_)
  refine mp_a (a_aload_nT dL_law_918 rfl) (mpp 919 rfl ?_)
  refine mp_a (a_iload_n dL_law_919 rfl) (mpp 920 rfl ?_)
  refine mp_a (a_iconst (v := 1) dL_law_920 rfl) (mpp 921 rfl ?_)
  obtain ⟨z1, h2⟩ := ti_ex (i + 1 : Int32)
  have e3 : z1.toInt = i.toInt + 1 := ti_addz h2 rfl rfl (by omega) (by omega)
  refine mp_t (s_iadd (v := z1) dL_law_921 h2) (mpp 922 rfl ?_)
  obtain ⟨w4, h5⟩ := ti_ex (xs.getD z1.toNatClampNeg 0)
  refine mp_sld (v := w4) (N := xs.length) dL_law_922 rfl (t_ix (by omega) (by omega)) h5 (mpp 923 rfl ?_)
  refine mt_callv (i := 125) (q' := q_110) (As := [.int w4]) (rest := []) hT dL_law_923 rfl qm_110 (by decide) rfl rl_0 (by decide) rfl (Nat.le_of_ble_eq_true rfl) rfl ⟨rfl, rfl⟩ ⟨Nat.le_of_ble_eq_true rfl, Nat.le_of_ble_eq_true rfl⟩ (EvP.mono (by decide) (c_F_account hT hX )) (fun r7 P8 g6 => mpp 926 rfl ?_)
  obtain ⟨⟨x9, rfl, g10⟩, e11⟩ := g6
  have e11 := e11.symm
  subst e11
  replace g10 : accountC P x9.toInt w4.toInt := g10
  show MEvP _ _ lawq 926 [(3, .int i), (2, .ref 301), (1, .ref 0), (0, .long 0)] [.int x9] _ _ _ _
  refine mp_t (s_pop dL_law_926 rfl) (mpp 927 rfl ?_)
  refine mp_a (a_aload_n dL_law_927 rfl) (mpp 928 rfl ?_)
  refine mp_a (a_aload_nT dL_law_928 rfl) (mpp 929 rfl ?_)
  refine mp_a (a_iload_n dL_law_929 rfl) (mpp 930 rfl ?_)
  refine mp_a (a_iconst (v := 1) dL_law_930 rfl) (mpp 931 rfl ?_)
  refine mp_t (s_iadd (v := z1) dL_law_931 h2) (mpp 932 rfl ?_)
  refine mp_sld (v := w4) (N := xs.length) dL_law_932 rfl (t_ix (by omega) (by omega)) h5 (mpp 933 rfl ?_)
  refine mt_callv (i := 128) (q' := q_229) (As := [.int w4]) (rest := []) hT dL_law_933 rfl qm_229 (by decide) rfl rl_301 (by decide) rfl (Nat.le_of_ble_eq_true rfl) rfl ⟨rfl, rfl⟩ ⟨Nat.le_of_ble_eq_true rfl, Nat.le_of_ble_eq_true rfl⟩ (EvP.mono (by decide) (c_M_account hT hR )) (fun r13 P14 g12 => mpp 936 rfl ?_)
  obtain ⟨⟨x15, rfl, g16⟩, e17⟩ := g12
  have e17 := e17.symm
  subst e17
  replace g16 : accountmC P x15.toInt w4.toInt := g16
  show MEvP _ _ lawq 936 [(3, .int i), (2, .ref 301), (1, .ref 0), (0, .long 0)] [.int x15] _ _ _ _
  refine mp_t (s_pop dL_law_936 rfl) (mpp 937 rfl ?_)
  refine mp_a (a_goto (t := 992) dL_law_937 (by decide)) ?_
  have m18h : ∀ a j : Nat, 301 ≤ a → a < 315 → fv P a j = fv P a j := fun _ _ _ _ => rfl
  have m18l : ∀ a j : Nat, a < 301 → fv P a j = fv P a j := fun _ _ _ => rfl
  have m18r : ∀ k : Nat, rv P 2 k = rv P 2 k := fun _ => rfl
  exact kk _ ⟨hT, hR, hX, hJ, SIM.same hS hT (fun x j h1 h2 => (m18l x j (by omega)).trans (rfl)) (fun k => (m18r k).trans ((fun _ => rfl) k)) ((m18l 0 8 (by omega)).trans rfl) (fun j => m18h 302 j (by omega) (by omega)) (m18h 301 4 (by omega) (by omega)) (m18h 301 8 (by omega) (by omega)) (m18h 301 23 (by omega) (by omega)) (fun j => m18h 304 j (by omega) (by omega)) (fun j => m18h 305 j (by omega) (by omega)) (fun j => m18h 314 j (by omega) (by omega)), hZ⟩

set_option maxHeartbeats 4000000 in
theorem law_c28 {xs : List Int32} (hn : xs.length ≤ 2048) {i : Int32} (h0 : 0 ≤ i.toInt) (h4 : i.toInt + 4 ≤ xs.length) {P : mP} (hT : Typ P) (hR : Rel P) (hX : XR P) (hJ : Inj P) (hS : SIM P) (hZ : TK0 P) (kk : ∀ P' : mP, LI P' → MEvP 15 (some xs) lawq 992 [(3, .int i), (2, .ref 301), (1, .ref 0), (0, .long 0)] [] P' 315 4038 (fun r _ => r = some (.int 1))) : MEvP 15 (some xs) lawq 940 [(3, .int i), (2, .ref 301), (1, .ref 0), (0, .long 0)] [] P 315 4038 (fun r _ => r = some (.int 1)) := by
  refine mp_a (a_aload_n dL_law_940 rfl) (mpp 941 rfl ?_)
  refine mt_callv (i := 129) (q' := q_115) (As := []) (rest := []) hT dL_law_941 rfl qm_115 (by decide) rfl rl_0 (by decide) rfl (Nat.le_of_ble_eq_true rfl) rfl ⟨rfl, rfl⟩ ⟨Nat.le_of_ble_eq_true rfl, Nat.le_of_ble_eq_true rfl⟩ (EvP.mono (by decide) (c_F_share hT hX )) (fun r2 P3 g1 => mpp 944 rfl ?_)
  obtain ⟨⟨x4, rfl, g5⟩, e6⟩ := g1
  have e6 := e6.symm
  subst e6
  replace g5 : shareC P x4.toInt := g5
  show MEvP _ _ lawq 944 [(3, .int i), (2, .ref 301), (1, .ref 0), (0, .long 0)] [.int x4] _ _ _ _
  refine mp_t (s_pop dL_law_944 rfl) (mpp 945 rfl ?_)
  refine mp_a (a_aload_n dL_law_945 rfl) (mpp 946 rfl ?_)
  refine mt_callv (i := 132) (q' := q_232) (As := []) (rest := []) hT dL_law_946 rfl qm_232 (by decide) rfl rl_301 (by decide) rfl (Nat.le_of_ble_eq_true rfl) rfl ⟨rfl, rfl⟩ ⟨Nat.le_of_ble_eq_true rfl, Nat.le_of_ble_eq_true rfl⟩ (EvP.mono (by decide) (c_M_share hT hR )) (fun r8 P9 g7 => mpp 949 rfl ?_)
  obtain ⟨⟨x10, rfl, g11⟩, e12⟩ := g7
  have e12 := e12.symm
  subst e12
  replace g11 : sharemC P x10.toInt := g11
  show MEvP _ _ lawq 949 [(3, .int i), (2, .ref 301), (1, .ref 0), (0, .long 0)] [.int x10] _ _ _ _
  refine mp_t (s_pop dL_law_949 rfl) (mpp 950 rfl ?_)
  refine mp_a (a_goto (t := 992) dL_law_950 (by decide)) ?_
  have m13h : ∀ a j : Nat, 301 ≤ a → a < 315 → fv P a j = fv P a j := fun _ _ _ _ => rfl
  have m13l : ∀ a j : Nat, a < 301 → fv P a j = fv P a j := fun _ _ _ => rfl
  have m13r : ∀ k : Nat, rv P 2 k = rv P 2 k := fun _ => rfl
  exact kk _ ⟨hT, hR, hX, hJ, SIM.same hS hT (fun x j h1 h2 => (m13l x j (by omega)).trans (rfl)) (fun k => (m13r k).trans ((fun _ => rfl) k)) ((m13l 0 8 (by omega)).trans rfl) (fun j => m13h 302 j (by omega) (by omega)) (m13h 301 4 (by omega) (by omega)) (m13h 301 8 (by omega) (by omega)) (m13h 301 23 (by omega) (by omega)) (fun j => m13h 304 j (by omega) (by omega)) (fun j => m13h 305 j (by omega) (by omega)) (fun j => m13h 314 j (by omega) (by omega)), hZ⟩

set_option maxHeartbeats 4000000 in
theorem law_c29 {xs : List Int32} (hn : xs.length ≤ 2048) {i : Int32} (h0 : 0 ≤ i.toInt) (h4 : i.toInt + 4 ≤ xs.length) {P : mP} (hT : Typ P) (hR : Rel P) (hX : XR P) (hJ : Inj P) (hS : SIM P) (hZ : TK0 P) (kk : ∀ P' : mP, LI P' → MEvP 15 (some xs) lawq 992 [(3, .int i), (2, .ref 301), (1, .ref 0), (0, .long 0)] [] P' 315 4038 (fun r _ => r = some (.int 1))) : MEvP 15 (some xs) lawq 953 [(3, .int i), (2, .ref 301), (1, .ref 0), (0, .long 0)] [] P 315 4038 (fun r _ => r = some (.int 1)) := by
  refine mp_a (a_aload_n dL_law_953 rfl) (mpp 954 rfl ?_)
  refine mt_callv (i := 133) (q' := q_117) (As := []) (rest := []) hT dL_law_954 rfl qm_117 (by decide) rfl rl_0 (by decide) rfl (Nat.le_of_ble_eq_true rfl) rfl ⟨rfl, rfl⟩ ⟨Nat.le_of_ble_eq_true rfl, Nat.le_of_ble_eq_true rfl⟩ (EvP.mono (by decide) (c_F_undo hT hX hJ )) (fun r2 P3 g1 => mpp 957 rfl ?_)
  obtain ⟨⟨x4, rfl, g5⟩, hT6, k7, J9, R8⟩ := g1
  have R10 : Rel P3 := Rel.kw hR k7 rfl
  have J11 : Inj P3 := J9
  have X12 : XR P3 := KW.xr k7 hX
  have Z13 : TK0 P3 := fun l hl => (congrArg Int32.toInt (KW.at k7 l rl_313 rfl)).trans (hZ l hl)
  replace g5 : (x4.toInt = -1004 ∧ (fv P 79 2).toInt = 0) ∨ (1 ≤ (fv P 79 2).toInt ∧ x4.toInt = (fv P 79 2).toInt - 1) := g5
  show MEvP _ _ lawq 957 [(3, .int i), (2, .ref 301), (1, .ref 0), (0, .long 0)] [.int x4] _ _ _ _
  refine mp_t (s_pop dL_law_957 rfl) (mpp 958 rfl ?_)
  refine mp_a (a_aload_n dL_law_958 rfl) (mpp 959 rfl ?_)
  refine mt_callv (i := 136) (q' := q_233) (As := []) (rest := []) hT6 dL_law_959 rfl qm_233 (by decide) rfl rl_301 (by decide) rfl (Nat.le_of_ble_eq_true rfl) rfl ⟨rfl, rfl⟩ ⟨Nat.le_of_ble_eq_true rfl, Nat.le_of_ble_eq_true rfl⟩ (EvP.mono (by decide) (c_M_undo hT6 R10 )) (fun r15 P16 g14 => mpp 962 rfl ?_)
  obtain ⟨⟨x17, rfl, g18⟩, hT19, k20, R21r, R21⟩ := g14
  have R23 : Rel P16 := R21r
  have J24 : Inj P16 := Inj.kw J11 k20 rfl
  have X25 : XR P16 := KW.xr k20 X12
  have Z26 : TK0 P16 := fun l hl => (congrArg Int32.toInt (KW.at k20 l rl_313 rfl)).trans (Z13 l hl)
  replace g18 : (x17.toInt = -1004 ∧ (fv P3 301 4).toInt = 0) ∨ (1 ≤ (fv P3 301 4).toInt ∧ x17.toInt = (fv P3 301 4).toInt - 1) := g18
  show MEvP _ _ lawq 962 [(3, .int i), (2, .ref 301), (1, .ref 0), (0, .long 0)] [.int x17] _ _ _ _
  refine mp_t (s_pop dL_law_962 rfl) (mpp 963 rfl ?_)
  refine mp_a (a_goto (t := 992) dL_law_963 (by decide)) ?_
  have m27h : ∀ a j : Nat, 301 ≤ a → a < 315 → fv P3 a j = fv P a j := fun a j h1 h2 => KW.high k7 hT hT6 (by decide) h1 h2 j
  have m27l : ∀ a j : Nat, a < 301 → fv P16 a j = fv P3 a j := fun a j h1 => KW.low k20 hT6 hT19 (by decide) h1 j
  have m27r : ∀ k : Nat, rv P16 2 k = rv P3 2 k := fun k => k20.2.2 rfl k
  exact kk _ ⟨hT19, R23, X25, J24, SIM.undo hS hT hT6 m27h m27l (fun k => k7.2.2 rfl k) m27r R8.1 R8.2.1 R8.2.2.1 (R8.2.2.2 0 8 (by omega)) R21.1 R21.2.1, Z26⟩

set_option maxHeartbeats 4000000 in
theorem law_c30 {xs : List Int32} (hn : xs.length ≤ 2048) {i : Int32} (h0 : 0 ≤ i.toInt) (h4 : i.toInt + 4 ≤ xs.length) {P : mP} (hT : Typ P) (hR : Rel P) (hX : XR P) (hJ : Inj P) (hS : SIM P) (hZ : TK0 P) (kk : ∀ P' : mP, LI P' → MEvP 15 (some xs) lawq 992 [(3, .int i), (2, .ref 301), (1, .ref 0), (0, .long 0)] [] P' 315 4038 (fun r _ => r = some (.int 1))) : MEvP 15 (some xs) lawq 966 [(3, .int i), (2, .ref 301), (1, .ref 0), (0, .long 0)] [] P 315 4038 (fun r _ => r = some (.int 1)) := by
  refine mp_a (a_aload_n dL_law_966 rfl) (mpp 967 rfl ?_)
  refine mt_callv (i := 137) (q' := q_119) (As := []) (rest := []) hT dL_law_967 rfl qm_119 (by decide) rfl rl_0 (by decide) rfl (Nat.le_of_ble_eq_true rfl) rfl ⟨rfl, rfl⟩ ⟨Nat.le_of_ble_eq_true rfl, Nat.le_of_ble_eq_true rfl⟩ (EvP.mono (by decide) (c_F_save hT hX hJ )) (fun r2 P3 g1 => mpp 970 rfl ?_)
  obtain ⟨⟨x4, rfl, g5⟩, hT6, k7, J9, R8⟩ := g1
  have R10 : Rel P3 := Rel.kw hR k7 rfl
  have J11 : Inj P3 := J9
  have X12 : XR P3 := KW.xr k7 hX
  have Z13 : TK0 P3 := fun l hl => (congrArg Int32.toInt (KW.at k7 l rl_313 rfl)).trans (hZ l hl)
  replace g5 : x4.toInt = (fv P 1 1).toInt := g5
  show MEvP _ _ lawq 970 [(3, .int i), (2, .ref 301), (1, .ref 0), (0, .long 0)] [.int x4] _ _ _ _
  refine mp_t (s_pop dL_law_970 rfl) (mpp 971 rfl ?_)
  refine mp_a (a_aload_n dL_law_971 rfl) (mpp 972 rfl ?_)
  refine mt_callv (i := 140) (q' := q_234) (As := []) (rest := []) hT6 dL_law_972 rfl qm_234 (by decide) rfl rl_301 (by decide) rfl (Nat.le_of_ble_eq_true rfl) rfl ⟨rfl, rfl⟩ ⟨Nat.le_of_ble_eq_true rfl, Nat.le_of_ble_eq_true rfl⟩ (EvP.mono (by decide) (c_M_save hT6 R10 )) (fun r15 P16 g14 => mpp 975 rfl ?_)
  obtain ⟨⟨x17, rfl, g18⟩, hT19, k20, R21r, R21⟩ := g14
  have R23 : Rel P16 := R21r
  have J24 : Inj P16 := Inj.kw J11 k20 rfl
  have X25 : XR P16 := KW.xr k20 X12
  have Z26 : TK0 P16 := fun l hl => (congrArg Int32.toInt (KW.at k20 l rl_313 rfl)).trans (Z13 l hl)
  replace g18 : x17.toInt = (fv P3 302 0).toInt := g18
  show MEvP _ _ lawq 975 [(3, .int i), (2, .ref 301), (1, .ref 0), (0, .long 0)] [.int x17] _ _ _ _
  refine mp_t (s_pop dL_law_975 rfl) (mpp 976 rfl ?_)
  refine mp_a (a_goto (t := 992) dL_law_976 (by decide)) ?_
  have m27h : ∀ a j : Nat, 301 ≤ a → a < 315 → fv P3 a j = fv P a j := fun a j h1 h2 => KW.high k7 hT hT6 (by decide) h1 h2 j
  have m27l : ∀ a j : Nat, a < 301 → fv P16 a j = fv P3 a j := fun a j h1 => KW.low k20 hT6 hT19 (by decide) h1 j
  have m27r : ∀ k : Nat, rv P16 2 k = rv P3 2 k := fun k => k20.2.2 rfl k
  exact kk _ ⟨hT19, R23, X25, J24, SIM.save hS hT m27h m27l (fun k => k7.2.2 rfl k) m27r R8.1 R8.2.1 R8.2.2.1 R21.1 R21.2.1 R21.2.2.1, Z26⟩

set_option maxHeartbeats 4000000 in
theorem law_c31 {xs : List Int32} (hn : xs.length ≤ 2048) {i : Int32} (h0 : 0 ≤ i.toInt) (h4 : i.toInt + 4 ≤ xs.length) {P : mP} (hT : Typ P) (hR : Rel P) (hX : XR P) (hJ : Inj P) (hS : SIM P) (hZ : TK0 P) (kk : ∀ P' : mP, LI P' → MEvP 15 (some xs) lawq 992 [(3, .int i), (2, .ref 301), (1, .ref 0), (0, .long 0)] [] P' 315 4038 (fun r _ => r = some (.int 1))) : MEvP 15 (some xs) lawq 979 [(3, .int i), (2, .ref 301), (1, .ref 0), (0, .long 0)] [] P 315 4038 (fun r _ => r = some (.int 1)) := by
  refine mp_a (a_aload_n dL_law_979 rfl) (mpp 980 rfl ?_)
  refine mt_callv (i := 141) (q' := q_120) (As := []) (rest := []) hT dL_law_980 rfl qm_120 (by decide) rfl rl_0 (by decide) rfl (Nat.le_of_ble_eq_true rfl) rfl ⟨rfl, rfl⟩ ⟨Nat.le_of_ble_eq_true rfl, Nat.le_of_ble_eq_true rfl⟩ (EvP.mono (by decide) (c_F_restore hT hX hJ )) (fun r2 P3 g1 => mpp 983 rfl ?_)
  obtain ⟨⟨x4, rfl, g5⟩, hT6, k7, J9, R8⟩ := g1
  have R10 : Rel P3 := Rel.kw hR k7 rfl
  have J11 : Inj P3 := J9
  have X12 : XR P3 := KW.xr k7 hX
  have Z13 : TK0 P3 := fun l hl => (congrArg Int32.toInt (KW.at k7 l rl_313 rfl)).trans (hZ l hl)
  replace g5 : (x4.toInt = -1004 ∧ (fv P 0 8).toInt = 0) ∨ ((fv P 0 8).toInt = 1 ∧ x4.toInt = (fv P 53 1).toInt) := g5
  show MEvP _ _ lawq 983 [(3, .int i), (2, .ref 301), (1, .ref 0), (0, .long 0)] [.int x4] _ _ _ _
  refine mp_t (s_pop dL_law_983 rfl) (mpp 984 rfl ?_)
  refine mp_a (a_aload_n dL_law_984 rfl) (mpp 985 rfl ?_)
  refine mt_callv (i := 144) (q' := q_235) (As := []) (rest := []) hT6 dL_law_985 rfl qm_235 (by decide) rfl rl_301 (by decide) rfl (Nat.le_of_ble_eq_true rfl) rfl ⟨rfl, rfl⟩ ⟨Nat.le_of_ble_eq_true rfl, Nat.le_of_ble_eq_true rfl⟩ (EvP.mono (by decide) (c_M_restore hT6 R10 )) (fun r15 P16 g14 => mpp 988 rfl ?_)
  obtain ⟨⟨x17, rfl, g18⟩, hT19, k20, R21r, R21⟩ := g14
  have R23 : Rel P16 := R21r
  have J24 : Inj P16 := Inj.kw J11 k20 rfl
  have X25 : XR P16 := KW.xr k20 X12
  have Z26 : TK0 P16 := fun l hl => (congrArg Int32.toInt (KW.at k20 l rl_313 rfl)).trans (Z13 l hl)
  replace g18 : (x17.toInt = -1004 ∧ (fv P3 301 8).toInt = 0) ∨ ((fv P3 301 8).toInt = 1 ∧ x17.toInt = (fv P3 304 0).toInt) := g18
  show MEvP _ _ lawq 988 [(3, .int i), (2, .ref 301), (1, .ref 0), (0, .long 0)] [.int x17] _ _ _ _
  refine mp_t (s_pop dL_law_988 rfl) (mpp 989 rfl ?_)
  refine mp_a (a_goto (t := 992) dL_law_989 (by decide)) ?_
  have m27h : ∀ a j : Nat, 301 ≤ a → a < 315 → fv P3 a j = fv P a j := fun a j h1 h2 => KW.high k7 hT hT6 (by decide) h1 h2 j
  have m27l : ∀ a j : Nat, a < 301 → fv P16 a j = fv P3 a j := fun a j h1 => KW.low k20 hT6 hT19 (by decide) h1 j
  have m27r : ∀ k : Nat, rv P16 2 k = rv P3 2 k := fun k => k20.2.2 rfl k
  exact kk _ ⟨hT19, R23, X25, J24, SIM.restore hS hT m27h m27l (fun k => k7.2.2 rfl k) m27r (R8.2.2 0 8 (by omega)) R8.1 R8.2.1 R21.1 R21.2.1, Z26⟩
