theorem dX2_copyFrom_0 : decode cX2_copyFrom 0 = .ok (.aload_n 0, 1) := by decide +kernel
theorem dX2_copyFrom_1 : decode cX2_copyFrom 1 = .ok (.aload_n 1, 1) := by decide +kernel
theorem dX2_copyFrom_2 : decode cX2_copyFrom 2 = .ok (.getfield 18, 3) := by decide +kernel
theorem dX2_copyFrom_5 : decode cX2_copyFrom 5 = .ok (.putfield 18, 3) := by decide +kernel
theorem dX2_copyFrom_8 : decode cX2_copyFrom 8 = .ok (.aload_n 0, 1) := by decide +kernel
theorem dX2_copyFrom_9 : decode cX2_copyFrom 9 = .ok (.aload_n 1, 1) := by decide +kernel
theorem dX2_copyFrom_10 : decode cX2_copyFrom 10 = .ok (.getfield 26, 3) := by decide +kernel
theorem dX2_copyFrom_13 : decode cX2_copyFrom 13 = .ok (.putfield 26, 3) := by decide +kernel
theorem dX2_copyFrom_16 : decode cX2_copyFrom 16 = .ok (.aload_n 0, 1) := by decide +kernel
theorem dX2_copyFrom_17 : decode cX2_copyFrom 17 = .ok (.aload_n 1, 1) := by decide +kernel
theorem dX2_copyFrom_18 : decode cX2_copyFrom 18 = .ok (.getfield 22, 3) := by decide +kernel
theorem dX2_copyFrom_21 : decode cX2_copyFrom 21 = .ok (.putfield 22, 3) := by decide +kernel
theorem dX2_copyFrom_24 : decode cX2_copyFrom 24 = .ok (.aload_n 1, 1) := by decide +kernel
theorem dX2_copyFrom_25 : decode cX2_copyFrom 25 = .ok (.getfield 9, 3) := by decide +kernel
theorem dX2_copyFrom_28 : decode cX2_copyFrom 28 = .ok (.aload_n 0, 1) := by decide +kernel
theorem dX2_copyFrom_29 : decode cX2_copyFrom 29 = .ok (.getfield 9, 3) := by decide +kernel
theorem dX2_copyFrom_32 : decode cX2_copyFrom 32 = .ok (.invokestatic 44, 3) := by decide +kernel
theorem dX2_copyFrom_35 : decode cX2_copyFrom 35 = .ok (.aload_n 1, 1) := by decide +kernel
theorem dX2_copyFrom_36 : decode cX2_copyFrom 36 = .ok (.getfield 15, 3) := by decide +kernel
theorem dX2_copyFrom_39 : decode cX2_copyFrom 39 = .ok (.aload_n 0, 1) := by decide +kernel
theorem dX2_copyFrom_40 : decode cX2_copyFrom 40 = .ok (.getfield 15, 3) := by decide +kernel
theorem dX2_copyFrom_43 : decode cX2_copyFrom 43 = .ok (.invokestatic 44, 3) := by decide +kernel
theorem dX2_copyFrom_46 : decode cX2_copyFrom 46 = .ok (.return_, 1) := by decide +kernel
theorem dX5_addCopyOf_0 : decode cX5_addCopyOf 0 = .ok (.aload_n 0, 1) := by decide +kernel
theorem dX5_addCopyOf_1 : decode cX5_addCopyOf 1 = .ok (.getfield 22, 3) := by decide +kernel
theorem dX5_addCopyOf_4 : decode cX5_addCopyOf 4 = .ok (.aload_n 0, 1) := by decide +kernel
theorem dX5_addCopyOf_5 : decode cX5_addCopyOf 5 = .ok (.getfield 11, 3) := by decide +kernel
theorem dX5_addCopyOf_8 : decode cX5_addCopyOf 8 = .ok (.arraylength, 1) := by decide +kernel
theorem dX5_addCopyOf_9 : decode cX5_addCopyOf 9 = .ok (.if_icmp .lt 4, 3) := by decide +kernel
theorem dX5_addCopyOf_13 : decode cX5_addCopyOf 13 = .ok (.aload_n 0, 1) := by decide +kernel
theorem dX5_addCopyOf_14 : decode cX5_addCopyOf 14 = .ok (.dup, 1) := by decide +kernel
theorem dX5_addCopyOf_15 : decode cX5_addCopyOf 15 = .ok (.getfield 22, 3) := by decide +kernel
theorem dX5_addCopyOf_18 : decode cX5_addCopyOf 18 = .ok (.iconst 1, 1) := by decide +kernel
theorem dX5_addCopyOf_19 : decode cX5_addCopyOf 19 = .ok (.iadd, 1) := by decide +kernel
theorem dX5_addCopyOf_20 : decode cX5_addCopyOf 20 = .ok (.putfield 22, 3) := by decide +kernel
theorem dX5_addCopyOf_23 : decode cX5_addCopyOf 23 = .ok (.aload_n 0, 1) := by decide +kernel
theorem dX5_addCopyOf_24 : decode cX5_addCopyOf 24 = .ok (.aload_n 0, 1) := by decide +kernel
theorem dX5_addCopyOf_25 : decode cX5_addCopyOf 25 = .ok (.getfield 22, 3) := by decide +kernel
theorem dX5_addCopyOf_28 : decode cX5_addCopyOf 28 = .ok (.iconst 1, 1) := by decide +kernel
theorem dX5_addCopyOf_29 : decode cX5_addCopyOf 29 = .ok (.isub, 1) := by decide +kernel
theorem dX5_addCopyOf_30 : decode cX5_addCopyOf 30 = .ok (.invokevirtual 28, 3) := by decide +kernel
theorem dX5_addCopyOf_33 : decode cX5_addCopyOf 33 = .ok (.astore_n 2, 1) := by decide +kernel
theorem dX5_addCopyOf_34 : decode cX5_addCopyOf 34 = .ok (.aload_n 2, 1) := by decide +kernel
theorem dX5_addCopyOf_35 : decode cX5_addCopyOf 35 = .ok (.ifnull 8, 3) := by decide +kernel
theorem dX5_addCopyOf_38 : decode cX5_addCopyOf 38 = .ok (.aload_n 2, 1) := by decide +kernel
theorem dX5_addCopyOf_39 : decode cX5_addCopyOf 39 = .ok (.aload_n 1, 1) := by decide +kernel
theorem dX5_addCopyOf_40 : decode cX5_addCopyOf 40 = .ok (.invokevirtual 32, 3) := by decide +kernel
theorem dX5_addCopyOf_43 : decode cX5_addCopyOf 43 = .ok (.return_, 1) := by decide +kernel
theorem dX5_pieceAt_12 : decode cX5_pieceAt 12 = .ok (.iload_n 1, 1) := by decide +kernel
theorem dX5_pieceAt_13 : decode cX5_pieceAt 13 = .ok (.aload_n 0, 1) := by decide +kernel
theorem dX5_pieceAt_14 : decode cX5_pieceAt 14 = .ok (.getfield 11, 3) := by decide +kernel
theorem dX5_pieceAt_17 : decode cX5_pieceAt 17 = .ok (.arraylength, 1) := by decide +kernel
theorem dX5_pieceAt_18 : decode cX5_pieceAt 18 = .ok (.if_icmp .ge 12, 3) := by decide +kernel
theorem dX5_pieceAt_21 : decode cX5_pieceAt 21 = .ok (.aload_n 0, 1) := by decide +kernel
theorem dX5_pieceAt_22 : decode cX5_pieceAt 22 = .ok (.getfield 11, 3) := by decide +kernel
theorem dX5_pieceAt_25 : decode cX5_pieceAt 25 = .ok (.iload_n 1, 1) := by decide +kernel
theorem dX5_pieceAt_26 : decode cX5_pieceAt 26 = .ok (.aaload, 1) := by decide +kernel
theorem dX5_pieceAt_27 : decode cX5_pieceAt 27 = .ok (.goto 4, 3) := by decide +kernel
theorem dX6_add_0 : decode cX6_add 0 = .ok (.iload_n 1, 1) := by decide +kernel
theorem dX6_add_1 : decode cX6_add 1 = .ok (.ifCond .eq 12, 3) := by decide +kernel
theorem dX6_add_4 : decode cX6_add 4 = .ok (.iload_n 1, 1) := by decide +kernel
theorem dX6_add_5 : decode cX6_add 5 = .ok (.iconst 1, 1) := by decide +kernel
theorem dX6_add_6 : decode cX6_add 6 = .ok (.if_icmp .eq 7, 3) := by decide +kernel
theorem dX6_add_9 : decode cX6_add 9 = .ok (.sipush (-1002), 3) := by decide +kernel
theorem dX6_add_12 : decode cX6_add 12 = .ok (.ireturn, 1) := by decide +kernel
theorem dX6_add_13 : decode cX6_add 13 = .ok (.aload_n 0, 1) := by decide +kernel
theorem dX6_add_14 : decode cX6_add 14 = .ok (.getfield 53, 3) := by decide +kernel
theorem dX6_add_17 : decode cX6_add 17 = .ok (.iload_n 1, 1) := by decide +kernel
theorem dX6_add_18 : decode cX6_add 18 = .ok (.iload_n 2, 1) := by decide +kernel
theorem dX6_add_19 : decode cX6_add 19 = .ok (.invokevirtual 79, 3) := by decide +kernel
theorem dX6_add_22 : decode cX6_add 22 = .ok (.ifCond .eq 14, 3) := by decide +kernel
theorem dX6_add_25 : decode cX6_add 25 = .ok (.aload_n 0, 1) := by decide +kernel
theorem dX6_add_26 : decode cX6_add 26 = .ok (.getfield 53, 3) := by decide +kernel
theorem dX6_add_29 : decode cX6_add 29 = .ok (.iload_n 3, 1) := by decide +kernel
theorem dX6_add_30 : decode cX6_add 30 = .ok (.invokevirtual 83, 3) := by decide +kernel
theorem dX6_add_33 : decode cX6_add 33 = .ok (.ifCond .ne 7, 3) := by decide +kernel
theorem dX6_add_36 : decode cX6_add 36 = .ok (.sipush (-1002), 3) := by decide +kernel
theorem dX6_add_39 : decode cX6_add 39 = .ok (.ireturn, 1) := by decide +kernel
theorem dX6_add_40 : decode cX6_add 40 = .ok (.aload_n 0, 1) := by decide +kernel
theorem dX6_add_41 : decode cX6_add 41 = .ok (.getfield 10, 3) := by decide +kernel
theorem dX6_add_44 : decode cX6_add 44 = .ok (.getfield 87, 3) := by decide +kernel
theorem dX6_add_47 : decode cX6_add 47 = .ok (.bipush 8, 2) := by decide +kernel
theorem dX6_add_49 : decode cX6_add 49 = .ok (.if_icmp .lt 11, 3) := by decide +kernel
theorem dX6_add_60 : decode cX6_add 60 = .ok (.aload_n 0, 1) := by decide +kernel
theorem dX6_add_61 : decode cX6_add 61 = .ok (.getfield 25, 3) := by decide +kernel
theorem dX6_add_64 : decode cX6_add 64 = .ok (.aload_n 0, 1) := by decide +kernel
theorem dX6_add_65 : decode cX6_add 65 = .ok (.getfield 10, 3) := by decide +kernel
theorem dX6_add_68 : decode cX6_add 68 = .ok (.invokevirtual 72, 3) := by decide +kernel
theorem dX6_add_71 : decode cX6_add 71 = .ok (.aload_n 0, 1) := by decide +kernel
theorem dX6_add_72 : decode cX6_add 72 = .ok (.getfield 10, 3) := by decide +kernel
theorem dX6_add_75 : decode cX6_add 75 = .ok (.aload_n 0, 1) := by decide +kernel
theorem dX6_add_76 : decode cX6_add 76 = .ok (.getfield 53, 3) := by decide +kernel
theorem dX6_add_79 : decode cX6_add 79 = .ok (.invokevirtual 90, 3) := by decide +kernel
theorem dX6_add_82 : decode cX6_add 82 = .ok (.aload_n 0, 1) := by decide +kernel
theorem dX6_add_83 : decode cX6_add 83 = .ok (.getfield 10, 3) := by decide +kernel
theorem dX6_add_86 : decode cX6_add 86 = .ok (.getfield 87, 3) := by decide +kernel
theorem dX6_add_89 : decode cX6_add 89 = .ok (.iconst 1, 1) := by decide +kernel
theorem dX6_add_90 : decode cX6_add 90 = .ok (.isub, 1) := by decide +kernel
theorem dX6_add_91 : decode cX6_add 91 = .ok (.ireturn, 1) := by decide +kernel
def q_18 : mQ := (yX2_copyFrom, cX2_copyFrom, 2, none, 1, 2, 0, 0)
theorem qm_18 : mtL[18]? = some q_18 := rfl
def q_20 : mQ := (yX6_add, cX6_add, 4, (some FieldType.int), 3, 6, 0, 0)
theorem qm_20 : mtL[20]? = some q_20 := rfl
def q_27 : mQ := (yX5_addCopyOf, cX5_addCopyOf, 3, none, 1, 5, 0, 0)
theorem qm_27 : mtL[27]? = some q_27 := rfl
theorem MOD.fr {P P' : mP} (h : MOD P) (g : ∀ t : Nat, 301 ≤ t → P'[t]? = P[t]?) : MOD P' := fun j hj => (g j hj).trans (h j hj)
theorem i_lt_le {x : Int32} (h : x < 0) : x ≤ 0 := by
  rw [Int32.lt_iff_toInt_lt] at h
  rw [Int32.le_iff_toInt_le]
  omega
theorem i_lt_ne {x : Int32} (h : x < 0) : ¬ x = 0 := fun q => by
  subst q
  exact absurd h (by decide)
theorem x_tsT0 {P : mP} {w m : Nat} (hw : w < 2 ^ 31) (hs : szok 0 w = true) (hm : ndf 10 w = (m + 1)) (h298 : P[298]? = some (2, [.int 0, .int 0, .int 0, .ref 299, .ref 300])) (h299 : P[299]? = some (8, A8)) : EvP 6 21 [.ref 298, .int 0, .int (nI w)] P (fun r P' => r = some (.int 1) ∧ (∀ t : Nat, t ≠ 298 → t ≠ 299 → P'[t]? = P[t]?) ∧ P'[298]? = some (2, [.int 0, .int (nI (m + 1)), .int 0, .ref 299, .ref 300]) ∧ ∃ B : List Value, P'[299]? = some (8, B) ∧ B.length = 8) := by
  refine (x_takeSizes0 hw h298 h299).post (fun r P' h => ?_)
  obtain ⟨h1, ⟨h2, -, -, h4, h5⟩ | ⟨-, h3⟩⟩ := h
  · rw [hm] at h4
    exact ⟨h2, h1, h4, h5⟩
  · rw [hs] at h3
    cases h3
theorem x_tsF0 {P : mP} {w : Nat} (hw : w < 2 ^ 31) (hs : szok 0 w = false) (h298 : P[298]? = some (2, [.int 0, .int 0, .int 0, .ref 299, .ref 300])) (h299 : P[299]? = some (8, A8)) : EvP 6 21 [.ref 298, .int 0, .int (nI w)] P (fun r P' => r = some (.int 0) ∧ ∀ t : Nat, t ≠ 298 → t ≠ 299 → P'[t]? = P[t]?) := by
  refine (x_takeSizes0 hw h298 h299).post (fun r P' h => ?_)
  obtain ⟨h1, ⟨-, h3, -⟩ | ⟨h2, -⟩⟩ := h
  · rw [hs] at h3
    cases h3
  · exact ⟨h2, h1⟩
theorem x_tcT0 {P : mP} {m v : Nat} (hv : v < 2 ^ 31) (hk : crok m v = true) (hm : m ≤ 8) (h298 : P[298]? = some (2, [.int 0, .int (nI (m + 1)), .int 0, .ref 299, .ref 300])) (h300 : P[300]? = some (8, A8)) : EvP 6 24 [.ref 298, .int (nI v)] P (fun r P' => r = some (.int 1) ∧ (∀ t : Nat, t ≠ 300 → P'[t]? = P[t]?) ∧ (∃ B : List Value, P'[300]? = some (8, B) ∧ B.length = 8)) := by
  have h := x_takeCreases0 hv hm h298 h300
  rw [hk] at h
  exact h
theorem x_tcF0 {P : mP} {m v : Nat} (hv : v < 2 ^ 31) (hk : crok m v = false) (hm : m ≤ 8) (h298 : P[298]? = some (2, [.int 0, .int (nI (m + 1)), .int 0, .ref 299, .ref 300])) (h300 : P[300]? = some (8, A8)) : EvP 6 24 [.ref 298, .int (nI v)] P (fun r P' => r = some (.int 0) ∧ (∀ t : Nat, t ≠ 300 → P'[t]? = P[t]?) ∧ (∃ B : List Value, P'[300]? = some (8, B) ∧ B.length = 8)) := by
  have h := x_takeCreases0 hv hm h298 h300
  rw [hk] at h
  exact h
theorem x_tsT1 {P : mP} {w m : Nat} (hw : w < 2 ^ 31) (hs : szok 1 w = true) (hm : ndf 10 w = m) (h298 : P[298]? = some (2, [.int 0, .int 0, .int 0, .ref 299, .ref 300])) (h299 : P[299]? = some (8, A8)) : EvP 6 21 [.ref 298, .int 1, .int (nI w)] P (fun r P' => r = some (.int 1) ∧ (∀ t : Nat, t ≠ 298 → t ≠ 299 → P'[t]? = P[t]?) ∧ P'[298]? = some (2, [.int 1, .int (nI m), .int 0, .ref 299, .ref 300]) ∧ ∃ B : List Value, P'[299]? = some (8, B) ∧ B.length = 8) := by
  refine (x_takeSizes1 hw h298 h299).post (fun r P' h => ?_)
  obtain ⟨h1, ⟨h2, -, -, h4, h5⟩ | ⟨-, h3⟩⟩ := h
  · rw [hm] at h4
    exact ⟨h2, h1, h4, h5⟩
  · rw [hs] at h3
    cases h3
theorem x_tsF1 {P : mP} {w : Nat} (hw : w < 2 ^ 31) (hs : szok 1 w = false) (h298 : P[298]? = some (2, [.int 0, .int 0, .int 0, .ref 299, .ref 300])) (h299 : P[299]? = some (8, A8)) : EvP 6 21 [.ref 298, .int 1, .int (nI w)] P (fun r P' => r = some (.int 0) ∧ ∀ t : Nat, t ≠ 298 → t ≠ 299 → P'[t]? = P[t]?) := by
  refine (x_takeSizes1 hw h298 h299).post (fun r P' h => ?_)
  obtain ⟨h1, ⟨-, h3, -⟩ | ⟨h2, -⟩⟩ := h
  · rw [hs] at h3
    cases h3
  · exact ⟨h2, h1⟩
theorem x_tcT1 {P : mP} {m v : Nat} (hv : v < 2 ^ 31) (hk : crok m v = true) (hm : m ≤ 8) (h298 : P[298]? = some (2, [.int 1, .int (nI m), .int 0, .ref 299, .ref 300])) (h300 : P[300]? = some (8, A8)) : EvP 6 24 [.ref 298, .int (nI v)] P (fun r P' => r = some (.int 1) ∧ (∀ t : Nat, t ≠ 300 → P'[t]? = P[t]?) ∧ (∃ B : List Value, P'[300]? = some (8, B) ∧ B.length = 8)) := by
  have h := x_takeCreases1 hv hm h298 h300
  rw [hk] at h
  exact h
theorem x_tcF1 {P : mP} {m v : Nat} (hv : v < 2 ^ 31) (hk : crok m v = false) (hm : m ≤ 8) (h298 : P[298]? = some (2, [.int 1, .int (nI m), .int 0, .ref 299, .ref 300])) (h300 : P[300]? = some (8, A8)) : EvP 6 24 [.ref 298, .int (nI v)] P (fun r P' => r = some (.int 0) ∧ (∀ t : Nat, t ≠ 300 → P'[t]? = P[t]?) ∧ (∃ B : List Value, P'[300]? = some (8, B) ∧ B.length = 8)) := by
  have h := x_takeCreases1 hv hm h298 h300
  rw [hk] at h
  exact h
set_option maxRecDepth 100000 in
set_option maxHeartbeats 4000000 in
theorem x_pieceAt1 {P : mP} (h : P[1]? = some (5, [.ref 2, .int 1, .int 30, .int 0])) (h2 : P[2]? = some (10, [.ref 3, .ref 6, .ref 9, .ref 12, .ref 15, .ref 18, .ref 21, .ref 24])) : EvP 1 9 [.ref 1, .int 0] P (fun r P' => r = some (.ref 3) ∧ P' = P) := by
  refine EvP.of qm_9 (Nat.le_of_ble_eq_true rfl) rfl ?_
  show MEvP _ none q_9 0 [(0, .ref 1), (1, .int 0)] [] _ 0 0 _
  refine mp_a (a_iload_n dX5_pieceAt_0 rfl) (mpp 1 rfl ?_)
  refine mp_Tf (t := 30) (j_if_lt dX5_pieceAt_1) (by decide) (by decide) (mpp 4 rfl ?_)
  refine mp_a (a_iload_n dX5_pieceAt_4 rfl) (mpp 5 rfl ?_)
  refine mp_a (a_aload_n dX5_pieceAt_5 rfl) (mpp 6 rfl ?_)
  refine mp_get (i := 22) (v := .int 1) dX5_pieceAt_6 rfl h rfl (mpp 9 rfl ?_)
  refine mp_Tf (t := 30) (j_icmp_ge dX5_pieceAt_9) (by decide) (by decide) (mpp 12 rfl ?_)
  refine mp_a (a_iload_n dX5_pieceAt_12 rfl) (mpp 13 rfl ?_)
  refine mp_a (a_aload_n dX5_pieceAt_13 rfl) (mpp 14 rfl ?_)
  refine mp_get (i := 11) (v := .ref 2) dX5_pieceAt_14 rfl h rfl (mpp 17 rfl ?_)
  refine mp_len (n := 8) dX5_pieceAt_17 h2 (by decide) rfl (mpp 18 rfl ?_)
  refine mp_Tf (t := 30) (j_icmp_ge dX5_pieceAt_18) (by decide) (by decide) (mpp 21 rfl ?_)
  refine mp_a (a_aload_n dX5_pieceAt_21 rfl) (mpp 22 rfl ?_)
  refine mp_get (i := 11) (v := .ref 2) dX5_pieceAt_22 rfl h rfl (mpp 25 rfl ?_)
  refine mp_a (a_iload_n dX5_pieceAt_25 rfl) (mpp 26 rfl ?_)
  refine mp_aal (N := 8) (v := .ref 3) dX5_pieceAt_26 h2 (by decide) rfl (by decide) rfl (mpp 27 rfl ?_)
  refine mp_a (a_goto (t := 31) dX5_pieceAt_27 (by decide)) ?_
  exact mp_aret (⟨rfl, rfl⟩) dX5_pieceAt_31 rfl

set_option maxRecDepth 100000 in
set_option maxHeartbeats 4000000 in
theorem x_copyPiece {P : mP} {k0 c0 : Int32} {B C : List Value} (h3 : P[3]? = some (2, [.int 0, .int 0, .int 0, .ref 4, .ref 5])) (h4 : P[4]? = some (8, A8)) (h5 : P[5]? = some (8, A8)) (h298 : P[298]? = some (2, [.int k0, .int c0, .int 0, .ref 299, .ref 300])) (h299 : P[299]? = some (8, B)) (h300 : P[300]? = some (8, C)) (hB : B.length = 8) (hC : C.length = 8) : EvP 2 18 [.ref 3, .ref 298] P (fun r P' => r = none ∧ ∀ t : Nat, t ≠ 3 → t ≠ 4 → t ≠ 5 → P'[t]? = P[t]?) := by
  refine EvP.of qm_18 (Nat.le_of_ble_eq_true rfl) rfl ?_
  show MEvP _ none q_18 0 [(0, .ref 3), (1, .ref 298)] [] _ 0 0 _
  refine mp_a (a_aload_n dX2_copyFrom_0 rfl) (mpp 1 rfl ?_)
  refine mp_a (a_aload_n dX2_copyFrom_1 rfl) (mpp 2 rfl ?_)
  refine mp_get (i := 18) (v := .int k0) dX2_copyFrom_2 rfl h298 rfl (mpp 5 rfl ?_)
  refine mp_put (i := 18) dX2_copyFrom_5 rfl h3 (Nat.le_of_ble_eq_true rfl) rfl (Or.inl rfl) (mpp 8 rfl ?_)
  refine mp_a (a_aload_n dX2_copyFrom_8 rfl) (mpp 9 rfl ?_)
  refine mp_a (a_aload_n dX2_copyFrom_9 rfl) (mpp 10 rfl ?_)
  refine mp_get (i := 26) (v := .int c0) dX2_copyFrom_10 rfl (mset_ne h298 (by decide)) rfl (mpp 13 rfl ?_)
  refine mp_put (i := 26) dX2_copyFrom_13 rfl (mset_eq h3) (Nat.le_of_ble_eq_true rfl) rfl (Or.inl rfl) (mpp 16 rfl ?_)
  refine mp_a (a_aload_n dX2_copyFrom_16 rfl) (mpp 17 rfl ?_)
  refine mp_a (a_aload_n dX2_copyFrom_17 rfl) (mpp 18 rfl ?_)
  refine mp_get (i := 22) (v := .int 0) dX2_copyFrom_18 rfl (mset_ne (mset_ne h298 (by decide)) (by decide)) rfl (mpp 21 rfl ?_)
  refine mp_put (i := 22) dX2_copyFrom_21 rfl (mset_eq (mset_eq h3)) (Nat.le_of_ble_eq_true rfl) rfl (Or.inl rfl) (mpp 24 rfl ?_)
  refine mp_a (a_aload_n dX2_copyFrom_24 rfl) (mpp 25 rfl ?_)
  refine mp_get (i := 9) (v := .ref 299) dX2_copyFrom_25 rfl (mset_ne (mset_ne (mset_ne h298 (by decide)) (by decide)) (by decide)) rfl (mpp 28 rfl ?_)
  refine mp_a (a_aload_n dX2_copyFrom_28 rfl) (mpp 29 rfl ?_)
  refine mp_get (i := 9) (v := .ref 4) dX2_copyFrom_29 rfl (mset_eq (mset_eq (mset_eq h3))) rfl (mpp 32 rfl ?_)
  refine mp_calls (i := 44) (q' := q_19) (As := [.ref 299, .ref 4]) (rest := []) dX2_copyFrom_32 rfl qm_19 (by decide) rfl (Nat.le_of_ble_eq_true rfl) rfl ⟨rfl, rfl⟩ ⟨Nat.le_of_ble_eq_true rfl, Nat.le_of_ble_eq_true rfl⟩ (EvP.mono (by decide) (x_copyRow (mset_ne (mset_ne (mset_ne h299 (by decide)) (by decide)) (by decide)) (mset_ne (mset_ne (mset_ne h4 (by decide)) (by decide)) (by decide)) hB rfl (by decide))) (fun r1 P1 g1 => mpp 35 rfl ?_)
  obtain ⟨rfl, g1⟩ := g1
  show MEvP _ none q_18 35 [(0, .ref 3), (1, .ref 298)] [] _ _ _ _
  refine mp_a (a_aload_n dX2_copyFrom_35 rfl) (mpp 36 rfl ?_)
  refine mp_get (i := 15) (v := .ref 300) dX2_copyFrom_36 rfl ((g1 298 (by decide)).trans (mset_ne (mset_ne (mset_ne h298 (by decide)) (by decide)) (by decide))) rfl (mpp 39 rfl ?_)
  refine mp_a (a_aload_n dX2_copyFrom_39 rfl) (mpp 40 rfl ?_)
  refine mp_get (i := 15) (v := .ref 5) dX2_copyFrom_40 rfl ((g1 3 (by decide)).trans (mset_eq (mset_eq (mset_eq h3)))) rfl (mpp 43 rfl ?_)
  refine mp_calls (i := 44) (q' := q_19) (As := [.ref 300, .ref 5]) (rest := []) dX2_copyFrom_43 rfl qm_19 (by decide) rfl (Nat.le_of_ble_eq_true rfl) rfl ⟨rfl, rfl⟩ ⟨Nat.le_of_ble_eq_true rfl, Nat.le_of_ble_eq_true rfl⟩ (EvP.mono (by decide) (x_copyRow ((g1 300 (by decide)).trans (mset_ne (mset_ne (mset_ne h300 (by decide)) (by decide)) (by decide))) ((g1 5 (by decide)).trans (mset_ne (mset_ne (mset_ne h5 (by decide)) (by decide)) (by decide))) hC rfl (by decide))) (fun r1 P1 g2 => mpp 46 rfl ?_)
  obtain ⟨rfl, g2⟩ := g2
  show MEvP _ none q_18 46 [(0, .ref 3), (1, .ref 298)] [] _ _ _ _
  exact mp_ret (⟨rfl, fun t i3 i4 i5 => (g2 t i5).trans ((g1 t i4).trans (by repeat rw [List.getElem?_set_ne (Ne.symm i3)]))⟩) dX2_copyFrom_46 rfl

set_option maxRecDepth 100000 in
set_option maxHeartbeats 4000000 in
theorem x_addCopyOf {P : mP} {k0 c0 : Int32} {B C : List Value} (h1 : P[1]? = some (5, [.ref 2, .int 0, .int 30, .int 0])) (h2 : P[2]? = some (10, [.ref 3, .ref 6, .ref 9, .ref 12, .ref 15, .ref 18, .ref 21, .ref 24])) (h3 : P[3]? = some (2, [.int 0, .int 0, .int 0, .ref 4, .ref 5])) (h4 : P[4]? = some (8, A8)) (h5 : P[5]? = some (8, A8)) (h298 : P[298]? = some (2, [.int k0, .int c0, .int 0, .ref 299, .ref 300])) (h299 : P[299]? = some (8, B)) (h300 : P[300]? = some (8, C)) (hB : B.length = 8) (hC : C.length = 8) : EvP 3 27 [.ref 1, .ref 298] P (fun r P' => r = none ∧ P'[1]? = some (5, [.ref 2, .int 1, .int 30, .int 0]) ∧ ∀ t : Nat, t ≠ 1 → t ≠ 3 → t ≠ 4 → t ≠ 5 → P'[t]? = P[t]?) := by
  refine EvP.of qm_27 (Nat.le_of_ble_eq_true rfl) rfl ?_
  show MEvP _ none q_27 0 [(0, .ref 1), (1, .ref 298)] [] _ 0 0 _
  refine mp_a (a_aload_n dX5_addCopyOf_0 rfl) (mpp 1 rfl ?_)
  refine mp_get (i := 22) (v := .int 0) dX5_addCopyOf_1 rfl h1 rfl (mpp 4 rfl ?_)
  refine mp_a (a_aload_n dX5_addCopyOf_4 rfl) (mpp 5 rfl ?_)
  refine mp_get (i := 11) (v := .ref 2) dX5_addCopyOf_5 rfl h1 rfl (mpp 8 rfl ?_)
  refine mp_len (n := 8) dX5_addCopyOf_8 h2 (by decide) rfl (mpp 9 rfl ?_)
  refine mp_Tt (t := 13) (j_icmp_lt dX5_addCopyOf_9) (by decide) (by decide) ?_
  refine mp_a (a_aload_n dX5_addCopyOf_13 rfl) (mpp 14 rfl ?_)
  refine mp_t (s_dup dX5_addCopyOf_14 rfl) (mpp 15 rfl ?_)
  refine mp_get (i := 22) (v := .int 0) dX5_addCopyOf_15 rfl h1 rfl (mpp 18 rfl ?_)
  refine mp_a (a_iconst (v := 1) dX5_addCopyOf_18 rfl) (mpp 19 rfl ?_)
  refine mp_t (s_iadd (v := 1) dX5_addCopyOf_19 rfl) (mpp 20 rfl ?_)
  refine mp_put (i := 22) dX5_addCopyOf_20 rfl h1 (Nat.le_of_ble_eq_true rfl) rfl (Or.inl rfl) (mpp 23 rfl ?_)
  refine mp_a (a_aload_n dX5_addCopyOf_23 rfl) (mpp 24 rfl ?_)
  refine mp_a (a_aload_n dX5_addCopyOf_24 rfl) (mpp 25 rfl ?_)
  refine mp_get (i := 22) (v := .int 1) dX5_addCopyOf_25 rfl (mset_eq h1) rfl (mpp 28 rfl ?_)
  refine mp_a (a_iconst (v := 1) dX5_addCopyOf_28 rfl) (mpp 29 rfl ?_)
  refine mp_t (s_isub (v := 0) dX5_addCopyOf_29 rfl) (mpp 30 rfl ?_)
  refine mp_callv (i := 28) (q' := q_9) (As := [.int 0]) (rest := []) dX5_addCopyOf_30 rfl qm_9 (by decide) rfl (mset_eq h1) (by decide) (Nat.le_of_ble_eq_true rfl) rfl ⟨rfl, rfl⟩ ⟨Nat.le_of_ble_eq_true rfl, Nat.le_of_ble_eq_true rfl⟩ (EvP.mono (by decide) (x_pieceAt1 (mset_eq h1) (mset_ne h2 (by decide)))) (fun r1 P1 g1 => mpp 33 rfl ?_)
  obtain ⟨rfl, rfl⟩ := g1
  show MEvP _ none q_27 33 [(0, .ref 1), (1, .ref 298)] [.ref 3] _ _ _ _
  refine mp_a (a_astore_n (L' := [(2, .ref 3), (0, .ref 1), (1, .ref 298)]) dX5_addCopyOf_33 (by decide) rfl) (mpp 34 rfl ?_)
  refine mp_a (a_aload_n dX5_addCopyOf_34 rfl) (mpp 35 rfl ?_)
  refine mp_t (s_ifnullR dX5_addCopyOf_35) (mpp 38 rfl ?_)
  refine mp_a (a_aload_n dX5_addCopyOf_38 rfl) (mpp 39 rfl ?_)
  refine mp_a (a_aload_n dX5_addCopyOf_39 rfl) (mpp 40 rfl ?_)
  refine mp_callv (i := 32) (q' := q_18) (As := [.ref 298]) (rest := []) dX5_addCopyOf_40 rfl qm_18 (by decide) rfl (mset_ne h3 (by decide)) (by decide) (Nat.le_of_ble_eq_true rfl) rfl ⟨rfl, rfl⟩ ⟨Nat.le_of_ble_eq_true rfl, Nat.le_of_ble_eq_true rfl⟩ (EvP.mono (by decide) (x_copyPiece (mset_ne h3 (by decide)) (mset_ne h4 (by decide)) (mset_ne h5 (by decide)) (mset_ne h298 (by decide)) (mset_ne h299 (by decide)) (mset_ne h300 (by decide)) hB hC)) (fun r1 P1 g2 => mpp 43 rfl ?_)
  obtain ⟨rfl, g2⟩ := g2
  show MEvP _ none q_27 43 [(2, .ref 3), (0, .ref 1), (1, .ref 298)] [] _ _ _ _
  exact mp_ret (⟨rfl, ((g2 1 (by decide) (by decide) (by decide)).trans (mset_eq h1)), fun t i1 i3 i4 i5 => (g2 t i3 i4 i5).trans (by repeat rw [List.getElem?_set_ne (Ne.symm i1)])⟩) dX5_addCopyOf_43 rfl

set_option maxRecDepth 100000 in
set_option maxHeartbeats 4000000 in
theorem xo_add_k {a1 a2 a3 : Int32} (h0 : ¬ a1 = 0) (h1 : ¬ a1 = 1) : EvP 10 20 [.ref 0, .int a1, .int a2, .int a3] P0 (fun r P' => r = some (.int (-1002)) ∧ MOD P') := by
  refine EvP.of qm_20 (Nat.le_of_ble_eq_true rfl) rfl ?_
  show MEvP _ none q_20 0 [(0, .ref 0), (1, .int a1), (2, .int a2), (3, .int a3)] [] _ 0 0 _
  refine mp_a (a_iload_n dX6_add_0 rfl) (mpp 1 rfl ?_)
  refine mp_Tf (t := 13) (j_if_eq dX6_add_1) h0 (by decide) (mpp 4 rfl ?_)
  refine mp_a (a_iload_n dX6_add_4 rfl) (mpp 5 rfl ?_)
  refine mp_a (a_iconst (v := 1) dX6_add_5 rfl) (mpp 6 rfl ?_)
  refine mp_Tf (t := 13) (j_icmp_eq dX6_add_6) h1 (by decide) (mpp 9 rfl ?_)
  refine mp_a (a_sipush (v := -1002) dX6_add_9 rfl) (mpp 12 rfl ?_)
  exact mp_iret (⟨rfl, MOD.r⟩) dX6_add_12 (Or.inl rfl)

set_option maxRecDepth 100000 in
set_option maxHeartbeats 4000000 in
theorem xo_add_n0 {a2 a3 : Int32} (h1 : a2 < 0) : EvP 10 20 [.ref 0, .int 0, .int a2, .int a3] P0 (fun r P' => r = some (.int (-1002)) ∧ MOD P') := by
  refine EvP.of qm_20 (Nat.le_of_ble_eq_true rfl) rfl ?_
  show MEvP _ none q_20 0 [(0, .ref 0), (1, .int 0), (2, .int a2), (3, .int a3)] [] _ 0 0 _
  refine mp_a (a_iload_n dX6_add_0 rfl) (mpp 1 rfl ?_)
  refine mp_Tt (t := 13) (j_if_eq dX6_add_1) (by decide) (by decide) ?_
  refine mp_a (a_aload_n dX6_add_13 rfl) (mpp 14 rfl ?_)
  refine mp_get (i := 53) (v := .ref 298) dX6_add_14 rfl p0_0 rfl (mpp 17 rfl ?_)
  refine mp_a (a_iload_n dX6_add_17 rfl) (mpp 18 rfl ?_)
  refine mp_a (a_iload_n dX6_add_18 rfl) (mpp 19 rfl ?_)
  refine mp_callv (i := 79) (q' := q_21) (As := [.int 0, .int a2]) (rest := []) dX6_add_19 rfl qm_21 (by decide) rfl p0_298 (by decide) (Nat.le_of_ble_eq_true rfl) rfl ⟨rfl, rfl⟩ ⟨Nat.le_of_ble_eq_true rfl, Nat.le_of_ble_eq_true rfl⟩ (EvP.mono (by decide) (x_takeSizesN0 h1 (i_lt_le h1) (i_lt_ne h1) p0_298)) (fun r1 P1 g1 => mpp 22 rfl ?_)
  obtain ⟨rfl, g1⟩ := g1
  show MEvP _ none q_20 22 [(0, .ref 0), (1, .int 0), (2, .int a2), (3, .int a3)] [.int 0] _ _ _ _
  refine mp_Tt (t := 36) (j_if_eq dX6_add_22) (by decide) (by decide) ?_
  refine mp_a (a_sipush (v := -1002) dX6_add_36 rfl) (mpp 39 rfl ?_)
  exact mp_iret (⟨rfl, (MOD.fr MOD.r (fun t ht => g1 t (by omega)))⟩) dX6_add_39 (Or.inl rfl)

set_option maxRecDepth 100000 in
set_option maxHeartbeats 4000000 in
theorem xo_add_s0 {w : Nat} {a3 : Int32} (hw : w < 2 ^ 31) (hs : szok 0 w = false) : EvP 10 20 [.ref 0, .int 0, .int (nI w), .int a3] P0 (fun r P' => r = some (.int (-1002)) ∧ MOD P') := by
  refine EvP.of qm_20 (Nat.le_of_ble_eq_true rfl) rfl ?_
  show MEvP _ none q_20 0 [(0, .ref 0), (1, .int 0), (2, .int (nI w)), (3, .int a3)] [] _ 0 0 _
  refine mp_a (a_iload_n dX6_add_0 rfl) (mpp 1 rfl ?_)
  refine mp_Tt (t := 13) (j_if_eq dX6_add_1) (by decide) (by decide) ?_
  refine mp_a (a_aload_n dX6_add_13 rfl) (mpp 14 rfl ?_)
  refine mp_get (i := 53) (v := .ref 298) dX6_add_14 rfl p0_0 rfl (mpp 17 rfl ?_)
  refine mp_a (a_iload_n dX6_add_17 rfl) (mpp 18 rfl ?_)
  refine mp_a (a_iload_n dX6_add_18 rfl) (mpp 19 rfl ?_)
  refine mp_callv (i := 79) (q' := q_21) (As := [.int 0, .int (nI w)]) (rest := []) dX6_add_19 rfl qm_21 (by decide) rfl p0_298 (by decide) (Nat.le_of_ble_eq_true rfl) rfl ⟨rfl, rfl⟩ ⟨Nat.le_of_ble_eq_true rfl, Nat.le_of_ble_eq_true rfl⟩ (EvP.mono (by decide) (x_tsF0 hw hs p0_298 p0_299)) (fun r1 P1 g1 => mpp 22 rfl ?_)
  obtain ⟨rfl, g1⟩ := g1
  show MEvP _ none q_20 22 [(0, .ref 0), (1, .int 0), (2, .int (nI w)), (3, .int a3)] [.int 0] _ _ _ _
  refine mp_Tt (t := 36) (j_if_eq dX6_add_22) (by decide) (by decide) ?_
  refine mp_a (a_sipush (v := -1002) dX6_add_36 rfl) (mpp 39 rfl ?_)
  exact mp_iret (⟨rfl, (MOD.fr MOD.r (fun t ht => g1 t (by omega) (by omega)))⟩) dX6_add_39 (Or.inl rfl)

set_option maxRecDepth 100000 in
set_option maxHeartbeats 4000000 in
theorem xo_add_c0 {w m : Nat} {a3 : Int32} (hw : w < 2 ^ 31) (hs : szok 0 w = true) (hm : ndf 10 w = (m + 1)) (hm8 : m ≤ 8) (h2 : a3 < 0) : EvP 10 20 [.ref 0, .int 0, .int (nI w), .int a3] P0 (fun r P' => r = some (.int (-1002)) ∧ MOD P') := by
  refine EvP.of qm_20 (Nat.le_of_ble_eq_true rfl) rfl ?_
  show MEvP _ none q_20 0 [(0, .ref 0), (1, .int 0), (2, .int (nI w)), (3, .int a3)] [] _ 0 0 _
  refine mp_a (a_iload_n dX6_add_0 rfl) (mpp 1 rfl ?_)
  refine mp_Tt (t := 13) (j_if_eq dX6_add_1) (by decide) (by decide) ?_
  refine mp_a (a_aload_n dX6_add_13 rfl) (mpp 14 rfl ?_)
  refine mp_get (i := 53) (v := .ref 298) dX6_add_14 rfl p0_0 rfl (mpp 17 rfl ?_)
  refine mp_a (a_iload_n dX6_add_17 rfl) (mpp 18 rfl ?_)
  refine mp_a (a_iload_n dX6_add_18 rfl) (mpp 19 rfl ?_)
  refine mp_callv (i := 79) (q' := q_21) (As := [.int 0, .int (nI w)]) (rest := []) dX6_add_19 rfl qm_21 (by decide) rfl p0_298 (by decide) (Nat.le_of_ble_eq_true rfl) rfl ⟨rfl, rfl⟩ ⟨Nat.le_of_ble_eq_true rfl, Nat.le_of_ble_eq_true rfl⟩ (EvP.mono (by decide) (x_tsT0 hw hs hm p0_298 p0_299)) (fun r1 P1 g1 => mpp 22 rfl ?_)
  obtain ⟨rfl, g1, hc, B, hB, hBl⟩ := g1
  show MEvP _ none q_20 22 [(0, .ref 0), (1, .int 0), (2, .int (nI w)), (3, .int a3)] [.int 1] _ _ _ _
  refine mp_Tf (t := 36) (j_if_eq dX6_add_22) (by decide) (by decide) (mpp 25 rfl ?_)
  refine mp_a (a_aload_n dX6_add_25 rfl) (mpp 26 rfl ?_)
  refine mp_get (i := 53) (v := .ref 298) dX6_add_26 rfl ((g1 0 (by decide) (by decide)).trans p0_0) rfl (mpp 29 rfl ?_)
  refine mp_a (a_iload_n dX6_add_29 rfl) (mpp 30 rfl ?_)
  refine mp_callv (i := 83) (q' := q_24) (As := [.int a3]) (rest := []) dX6_add_30 rfl qm_24 (by decide) rfl hc (by decide) (Nat.le_of_ble_eq_true rfl) rfl ⟨rfl, rfl⟩ ⟨Nat.le_of_ble_eq_true rfl, Nat.le_of_ble_eq_true rfl⟩ (EvP.mono (by decide) (x_takeCreasesN0 h2 hm8 hc ((g1 300 (by decide) (by decide)).trans p0_300))) (fun r1 P1 g2 => mpp 33 rfl ?_)
  obtain ⟨rfl, g2, C, hC, hCl⟩ := g2
  show MEvP _ none q_20 33 [(0, .ref 0), (1, .int 0), (2, .int (nI w)), (3, .int a3)] [.int 0] _ _ _ _
  refine mp_Tf (t := 40) (j_if_ne dX6_add_33) (by decide) (by decide) (mpp 36 rfl ?_)
  refine mp_a (a_sipush (v := -1002) dX6_add_36 rfl) (mpp 39 rfl ?_)
  exact mp_iret (⟨rfl, (MOD.fr (MOD.fr MOD.r (fun t ht => g1 t (by omega) (by omega))) (fun t ht => g2 t (by omega)))⟩) dX6_add_39 (Or.inl rfl)

set_option maxRecDepth 100000 in
set_option maxHeartbeats 4000000 in
theorem xo_add_f0 {w m v : Nat} (hw : w < 2 ^ 31) (hs : szok 0 w = true) (hm : ndf 10 w = (m + 1)) (hm8 : m ≤ 8) (hv : v < 2 ^ 31) (hk : crok m v = false) : EvP 10 20 [.ref 0, .int 0, .int (nI w), .int (nI v)] P0 (fun r P' => r = some (.int (-1002)) ∧ MOD P') := by
  refine EvP.of qm_20 (Nat.le_of_ble_eq_true rfl) rfl ?_
  show MEvP _ none q_20 0 [(0, .ref 0), (1, .int 0), (2, .int (nI w)), (3, .int (nI v))] [] _ 0 0 _
  refine mp_a (a_iload_n dX6_add_0 rfl) (mpp 1 rfl ?_)
  refine mp_Tt (t := 13) (j_if_eq dX6_add_1) (by decide) (by decide) ?_
  refine mp_a (a_aload_n dX6_add_13 rfl) (mpp 14 rfl ?_)
  refine mp_get (i := 53) (v := .ref 298) dX6_add_14 rfl p0_0 rfl (mpp 17 rfl ?_)
  refine mp_a (a_iload_n dX6_add_17 rfl) (mpp 18 rfl ?_)
  refine mp_a (a_iload_n dX6_add_18 rfl) (mpp 19 rfl ?_)
  refine mp_callv (i := 79) (q' := q_21) (As := [.int 0, .int (nI w)]) (rest := []) dX6_add_19 rfl qm_21 (by decide) rfl p0_298 (by decide) (Nat.le_of_ble_eq_true rfl) rfl ⟨rfl, rfl⟩ ⟨Nat.le_of_ble_eq_true rfl, Nat.le_of_ble_eq_true rfl⟩ (EvP.mono (by decide) (x_tsT0 hw hs hm p0_298 p0_299)) (fun r1 P1 g1 => mpp 22 rfl ?_)
  obtain ⟨rfl, g1, hc, B, hB, hBl⟩ := g1
  show MEvP _ none q_20 22 [(0, .ref 0), (1, .int 0), (2, .int (nI w)), (3, .int (nI v))] [.int 1] _ _ _ _
  refine mp_Tf (t := 36) (j_if_eq dX6_add_22) (by decide) (by decide) (mpp 25 rfl ?_)
  refine mp_a (a_aload_n dX6_add_25 rfl) (mpp 26 rfl ?_)
  refine mp_get (i := 53) (v := .ref 298) dX6_add_26 rfl ((g1 0 (by decide) (by decide)).trans p0_0) rfl (mpp 29 rfl ?_)
  refine mp_a (a_iload_n dX6_add_29 rfl) (mpp 30 rfl ?_)
  refine mp_callv (i := 83) (q' := q_24) (As := [.int (nI v)]) (rest := []) dX6_add_30 rfl qm_24 (by decide) rfl hc (by decide) (Nat.le_of_ble_eq_true rfl) rfl ⟨rfl, rfl⟩ ⟨Nat.le_of_ble_eq_true rfl, Nat.le_of_ble_eq_true rfl⟩ (EvP.mono (by decide) (x_tcF0 hv hk hm8 hc ((g1 300 (by decide) (by decide)).trans p0_300))) (fun r1 P1 g2 => mpp 33 rfl ?_)
  obtain ⟨rfl, g2, C, hC, hCl⟩ := g2
  show MEvP _ none q_20 33 [(0, .ref 0), (1, .int 0), (2, .int (nI w)), (3, .int (nI v))] [.int 0] _ _ _ _
  refine mp_Tf (t := 40) (j_if_ne dX6_add_33) (by decide) (by decide) (mpp 36 rfl ?_)
  refine mp_a (a_sipush (v := -1002) dX6_add_36 rfl) (mpp 39 rfl ?_)
  exact mp_iret (⟨rfl, (MOD.fr (MOD.fr MOD.r (fun t ht => g1 t (by omega) (by omega))) (fun t ht => g2 t (by omega)))⟩) dX6_add_39 (Or.inl rfl)

set_option maxRecDepth 100000 in
set_option maxHeartbeats 4000000 in
theorem xo_add_t0 {w m v : Nat} (hw : w < 2 ^ 31) (hs : szok 0 w = true) (hm : ndf 10 w = (m + 1)) (hm8 : m ≤ 8) (hv : v < 2 ^ 31) (hk : crok m v = true) : EvP 10 20 [.ref 0, .int 0, .int (nI w), .int (nI v)] P0 (fun r P' => r = some (.int 0) ∧ MOD P') := by
  refine EvP.of qm_20 (Nat.le_of_ble_eq_true rfl) rfl ?_
  show MEvP _ none q_20 0 [(0, .ref 0), (1, .int 0), (2, .int (nI w)), (3, .int (nI v))] [] _ 0 0 _
  refine mp_a (a_iload_n dX6_add_0 rfl) (mpp 1 rfl ?_)
  refine mp_Tt (t := 13) (j_if_eq dX6_add_1) (by decide) (by decide) ?_
  refine mp_a (a_aload_n dX6_add_13 rfl) (mpp 14 rfl ?_)
  refine mp_get (i := 53) (v := .ref 298) dX6_add_14 rfl p0_0 rfl (mpp 17 rfl ?_)
  refine mp_a (a_iload_n dX6_add_17 rfl) (mpp 18 rfl ?_)
  refine mp_a (a_iload_n dX6_add_18 rfl) (mpp 19 rfl ?_)
  refine mp_callv (i := 79) (q' := q_21) (As := [.int 0, .int (nI w)]) (rest := []) dX6_add_19 rfl qm_21 (by decide) rfl p0_298 (by decide) (Nat.le_of_ble_eq_true rfl) rfl ⟨rfl, rfl⟩ ⟨Nat.le_of_ble_eq_true rfl, Nat.le_of_ble_eq_true rfl⟩ (EvP.mono (by decide) (x_tsT0 hw hs hm p0_298 p0_299)) (fun r1 P1 g1 => mpp 22 rfl ?_)
  obtain ⟨rfl, g1, hc, B, hB, hBl⟩ := g1
  show MEvP _ none q_20 22 [(0, .ref 0), (1, .int 0), (2, .int (nI w)), (3, .int (nI v))] [.int 1] _ _ _ _
  refine mp_Tf (t := 36) (j_if_eq dX6_add_22) (by decide) (by decide) (mpp 25 rfl ?_)
  refine mp_a (a_aload_n dX6_add_25 rfl) (mpp 26 rfl ?_)
  refine mp_get (i := 53) (v := .ref 298) dX6_add_26 rfl ((g1 0 (by decide) (by decide)).trans p0_0) rfl (mpp 29 rfl ?_)
  refine mp_a (a_iload_n dX6_add_29 rfl) (mpp 30 rfl ?_)
  refine mp_callv (i := 83) (q' := q_24) (As := [.int (nI v)]) (rest := []) dX6_add_30 rfl qm_24 (by decide) rfl hc (by decide) (Nat.le_of_ble_eq_true rfl) rfl ⟨rfl, rfl⟩ ⟨Nat.le_of_ble_eq_true rfl, Nat.le_of_ble_eq_true rfl⟩ (EvP.mono (by decide) (x_tcT0 hv hk hm8 hc ((g1 300 (by decide) (by decide)).trans p0_300))) (fun r1 P1 g2 => mpp 33 rfl ?_)
  obtain ⟨rfl, g2, C, hC, hCl⟩ := g2
  show MEvP _ none q_20 33 [(0, .ref 0), (1, .int 0), (2, .int (nI w)), (3, .int (nI v))] [.int 1] _ _ _ _
  refine mp_Tt (t := 40) (j_if_ne dX6_add_33) (by decide) (by decide) ?_
  refine mp_a (a_aload_n dX6_add_40 rfl) (mpp 41 rfl ?_)
  refine mp_get (i := 10) (v := .ref 1) dX6_add_41 rfl ((g2 0 (by decide)).trans ((g1 0 (by decide) (by decide)).trans p0_0)) rfl (mpp 44 rfl ?_)
  refine mp_get (i := 87) (v := .int 0) dX6_add_44 rfl ((g2 1 (by decide)).trans ((g1 1 (by decide) (by decide)).trans p0_1)) rfl (mpp 47 rfl ?_)
  refine mp_a (a_bipush (v := 8) dX6_add_47 rfl) (mpp 49 rfl ?_)
  refine mp_Tt (t := 60) (j_icmp_lt dX6_add_49) (by decide) (by decide) ?_
  refine mp_a (a_aload_n dX6_add_60 rfl) (mpp 61 rfl ?_)
  refine mp_get (i := 25) (v := .ref 79) dX6_add_61 rfl ((g2 0 (by decide)).trans ((g1 0 (by decide) (by decide)).trans p0_0)) rfl (mpp 64 rfl ?_)
  refine mp_a (a_aload_n dX6_add_64 rfl) (mpp 65 rfl ?_)
  refine mp_get (i := 10) (v := .ref 1) dX6_add_65 rfl ((g2 0 (by decide)).trans ((g1 0 (by decide) (by decide)).trans p0_0)) rfl (mpp 68 rfl ?_)
  refine mp_callv (i := 72) (q' := q_15) (As := [.ref 1]) (rest := []) dX6_add_68 rfl qm_15 (by decide) rfl ((g2 79 (by decide)).trans ((g1 79 (by decide) (by decide)).trans p0_79)) (by decide) (Nat.le_of_ble_eq_true rfl) rfl ⟨rfl, rfl⟩ ⟨Nat.le_of_ble_eq_true rfl, Nat.le_of_ble_eq_true rfl⟩ (EvP.mono (by decide) (x_push ((g2 79 (by decide)).trans ((g1 79 (by decide) (by decide)).trans p0_79)) ((g2 80 (by decide)).trans ((g1 80 (by decide) (by decide)).trans p0_80)) ((g2 81 (by decide)).trans ((g1 81 (by decide) (by decide)).trans p0_81)) ((g2 1 (by decide)).trans ((g1 1 (by decide) (by decide)).trans p0_1)))) (fun r1 P1 g3 => mpp 71 rfl ?_)
  obtain ⟨rfl, g3⟩ := g3
  show MEvP _ none q_20 71 [(0, .ref 0), (1, .int 0), (2, .int (nI w)), (3, .int (nI v))] [] _ _ _ _
  refine mp_a (a_aload_n dX6_add_71 rfl) (mpp 72 rfl ?_)
  refine mp_get (i := 10) (v := .ref 1) dX6_add_72 rfl ((g3 0 (by decide) (by decide)).trans ((g2 0 (by decide)).trans ((g1 0 (by decide) (by decide)).trans p0_0))) rfl (mpp 75 rfl ?_)
  refine mp_a (a_aload_n dX6_add_75 rfl) (mpp 76 rfl ?_)
  refine mp_get (i := 53) (v := .ref 298) dX6_add_76 rfl ((g3 0 (by decide) (by decide)).trans ((g2 0 (by decide)).trans ((g1 0 (by decide) (by decide)).trans p0_0))) rfl (mpp 79 rfl ?_)
  refine mp_callv (i := 90) (q' := q_27) (As := [.ref 298]) (rest := []) dX6_add_79 rfl qm_27 (by decide) rfl ((g3 1 (by decide) (by decide)).trans ((g2 1 (by decide)).trans ((g1 1 (by decide) (by decide)).trans p0_1))) (by decide) (Nat.le_of_ble_eq_true rfl) rfl ⟨rfl, rfl⟩ ⟨Nat.le_of_ble_eq_true rfl, Nat.le_of_ble_eq_true rfl⟩ (EvP.mono (by decide) (x_addCopyOf ((g3 1 (by decide) (by decide)).trans ((g2 1 (by decide)).trans ((g1 1 (by decide) (by decide)).trans p0_1))) ((g3 2 (by decide) (by decide)).trans ((g2 2 (by decide)).trans ((g1 2 (by decide) (by decide)).trans p0_2))) ((g3 3 (by decide) (by decide)).trans ((g2 3 (by decide)).trans ((g1 3 (by decide) (by decide)).trans p0_3))) ((g3 4 (by decide) (by decide)).trans ((g2 4 (by decide)).trans ((g1 4 (by decide) (by decide)).trans p0_4))) ((g3 5 (by decide) (by decide)).trans ((g2 5 (by decide)).trans ((g1 5 (by decide) (by decide)).trans p0_5))) ((g3 298 (by decide) (by decide)).trans ((g2 298 (by decide)).trans hc)) ((g3 299 (by decide) (by decide)).trans ((g2 299 (by decide)).trans hB)) ((g3 300 (by decide) (by decide)).trans hC) hBl hCl)) (fun r1 P1 g4 => mpp 82 rfl ?_)
  obtain ⟨rfl, hs1, g4⟩ := g4
  show MEvP _ none q_20 82 [(0, .ref 0), (1, .int 0), (2, .int (nI w)), (3, .int (nI v))] [] _ _ _ _
  refine mp_a (a_aload_n dX6_add_82 rfl) (mpp 83 rfl ?_)
  refine mp_get (i := 10) (v := .ref 1) dX6_add_83 rfl ((g4 0 (by decide) (by decide) (by decide) (by decide)).trans ((g3 0 (by decide) (by decide)).trans ((g2 0 (by decide)).trans ((g1 0 (by decide) (by decide)).trans p0_0)))) rfl (mpp 86 rfl ?_)
  refine mp_get (i := 87) (v := .int 1) dX6_add_86 rfl hs1 rfl (mpp 89 rfl ?_)
  refine mp_a (a_iconst (v := 1) dX6_add_89 rfl) (mpp 90 rfl ?_)
  refine mp_t (s_isub (v := 0) dX6_add_90 rfl) (mpp 91 rfl ?_)
  exact mp_iret (⟨rfl, (MOD.fr (MOD.fr (MOD.fr (MOD.fr MOD.r (fun t ht => g1 t (by omega) (by omega))) (fun t ht => g2 t (by omega))) (fun t ht => g3 t (by omega) (by omega))) (fun t ht => g4 t (by omega) (by omega) (by omega) (by omega)))⟩) dX6_add_91 (Or.inl rfl)

set_option maxRecDepth 100000 in
set_option maxHeartbeats 4000000 in
theorem xo_add_n1 {a2 a3 : Int32} (h1 : a2 < 0) : EvP 10 20 [.ref 0, .int 1, .int a2, .int a3] P0 (fun r P' => r = some (.int (-1002)) ∧ MOD P') := by
  refine EvP.of qm_20 (Nat.le_of_ble_eq_true rfl) rfl ?_
  show MEvP _ none q_20 0 [(0, .ref 0), (1, .int 1), (2, .int a2), (3, .int a3)] [] _ 0 0 _
  refine mp_a (a_iload_n dX6_add_0 rfl) (mpp 1 rfl ?_)
  refine mp_Tf (t := 13) (j_if_eq dX6_add_1) (by decide) (by decide) (mpp 4 rfl ?_)
  refine mp_a (a_iload_n dX6_add_4 rfl) (mpp 5 rfl ?_)
  refine mp_a (a_iconst (v := 1) dX6_add_5 rfl) (mpp 6 rfl ?_)
  refine mp_Tt (t := 13) (j_icmp_eq dX6_add_6) (by decide) (by decide) ?_
  refine mp_a (a_aload_n dX6_add_13 rfl) (mpp 14 rfl ?_)
  refine mp_get (i := 53) (v := .ref 298) dX6_add_14 rfl p0_0 rfl (mpp 17 rfl ?_)
  refine mp_a (a_iload_n dX6_add_17 rfl) (mpp 18 rfl ?_)
  refine mp_a (a_iload_n dX6_add_18 rfl) (mpp 19 rfl ?_)
  refine mp_callv (i := 79) (q' := q_21) (As := [.int 1, .int a2]) (rest := []) dX6_add_19 rfl qm_21 (by decide) rfl p0_298 (by decide) (Nat.le_of_ble_eq_true rfl) rfl ⟨rfl, rfl⟩ ⟨Nat.le_of_ble_eq_true rfl, Nat.le_of_ble_eq_true rfl⟩ (EvP.mono (by decide) (x_takeSizesN1 h1 (i_lt_le h1) (i_lt_ne h1) p0_298)) (fun r1 P1 g1 => mpp 22 rfl ?_)
  obtain ⟨rfl, g1⟩ := g1
  show MEvP _ none q_20 22 [(0, .ref 0), (1, .int 1), (2, .int a2), (3, .int a3)] [.int 0] _ _ _ _
  refine mp_Tt (t := 36) (j_if_eq dX6_add_22) (by decide) (by decide) ?_
  refine mp_a (a_sipush (v := -1002) dX6_add_36 rfl) (mpp 39 rfl ?_)
  exact mp_iret (⟨rfl, (MOD.fr MOD.r (fun t ht => g1 t (by omega)))⟩) dX6_add_39 (Or.inl rfl)

set_option maxRecDepth 100000 in
set_option maxHeartbeats 4000000 in
theorem xo_add_s1 {w : Nat} {a3 : Int32} (hw : w < 2 ^ 31) (hs : szok 1 w = false) : EvP 10 20 [.ref 0, .int 1, .int (nI w), .int a3] P0 (fun r P' => r = some (.int (-1002)) ∧ MOD P') := by
  refine EvP.of qm_20 (Nat.le_of_ble_eq_true rfl) rfl ?_
  show MEvP _ none q_20 0 [(0, .ref 0), (1, .int 1), (2, .int (nI w)), (3, .int a3)] [] _ 0 0 _
  refine mp_a (a_iload_n dX6_add_0 rfl) (mpp 1 rfl ?_)
  refine mp_Tf (t := 13) (j_if_eq dX6_add_1) (by decide) (by decide) (mpp 4 rfl ?_)
  refine mp_a (a_iload_n dX6_add_4 rfl) (mpp 5 rfl ?_)
  refine mp_a (a_iconst (v := 1) dX6_add_5 rfl) (mpp 6 rfl ?_)
  refine mp_Tt (t := 13) (j_icmp_eq dX6_add_6) (by decide) (by decide) ?_
  refine mp_a (a_aload_n dX6_add_13 rfl) (mpp 14 rfl ?_)
  refine mp_get (i := 53) (v := .ref 298) dX6_add_14 rfl p0_0 rfl (mpp 17 rfl ?_)
  refine mp_a (a_iload_n dX6_add_17 rfl) (mpp 18 rfl ?_)
  refine mp_a (a_iload_n dX6_add_18 rfl) (mpp 19 rfl ?_)
  refine mp_callv (i := 79) (q' := q_21) (As := [.int 1, .int (nI w)]) (rest := []) dX6_add_19 rfl qm_21 (by decide) rfl p0_298 (by decide) (Nat.le_of_ble_eq_true rfl) rfl ⟨rfl, rfl⟩ ⟨Nat.le_of_ble_eq_true rfl, Nat.le_of_ble_eq_true rfl⟩ (EvP.mono (by decide) (x_tsF1 hw hs p0_298 p0_299)) (fun r1 P1 g1 => mpp 22 rfl ?_)
  obtain ⟨rfl, g1⟩ := g1
  show MEvP _ none q_20 22 [(0, .ref 0), (1, .int 1), (2, .int (nI w)), (3, .int a3)] [.int 0] _ _ _ _
  refine mp_Tt (t := 36) (j_if_eq dX6_add_22) (by decide) (by decide) ?_
  refine mp_a (a_sipush (v := -1002) dX6_add_36 rfl) (mpp 39 rfl ?_)
  exact mp_iret (⟨rfl, (MOD.fr MOD.r (fun t ht => g1 t (by omega) (by omega)))⟩) dX6_add_39 (Or.inl rfl)

set_option maxRecDepth 100000 in
set_option maxHeartbeats 4000000 in
theorem xo_add_c1 {w m : Nat} {a3 : Int32} (hw : w < 2 ^ 31) (hs : szok 1 w = true) (hm : ndf 10 w = m) (hm8 : m ≤ 8) (h2 : a3 < 0) : EvP 10 20 [.ref 0, .int 1, .int (nI w), .int a3] P0 (fun r P' => r = some (.int (-1002)) ∧ MOD P') := by
  refine EvP.of qm_20 (Nat.le_of_ble_eq_true rfl) rfl ?_
  show MEvP _ none q_20 0 [(0, .ref 0), (1, .int 1), (2, .int (nI w)), (3, .int a3)] [] _ 0 0 _
  refine mp_a (a_iload_n dX6_add_0 rfl) (mpp 1 rfl ?_)
  refine mp_Tf (t := 13) (j_if_eq dX6_add_1) (by decide) (by decide) (mpp 4 rfl ?_)
  refine mp_a (a_iload_n dX6_add_4 rfl) (mpp 5 rfl ?_)
  refine mp_a (a_iconst (v := 1) dX6_add_5 rfl) (mpp 6 rfl ?_)
  refine mp_Tt (t := 13) (j_icmp_eq dX6_add_6) (by decide) (by decide) ?_
  refine mp_a (a_aload_n dX6_add_13 rfl) (mpp 14 rfl ?_)
  refine mp_get (i := 53) (v := .ref 298) dX6_add_14 rfl p0_0 rfl (mpp 17 rfl ?_)
  refine mp_a (a_iload_n dX6_add_17 rfl) (mpp 18 rfl ?_)
  refine mp_a (a_iload_n dX6_add_18 rfl) (mpp 19 rfl ?_)
  refine mp_callv (i := 79) (q' := q_21) (As := [.int 1, .int (nI w)]) (rest := []) dX6_add_19 rfl qm_21 (by decide) rfl p0_298 (by decide) (Nat.le_of_ble_eq_true rfl) rfl ⟨rfl, rfl⟩ ⟨Nat.le_of_ble_eq_true rfl, Nat.le_of_ble_eq_true rfl⟩ (EvP.mono (by decide) (x_tsT1 hw hs hm p0_298 p0_299)) (fun r1 P1 g1 => mpp 22 rfl ?_)
  obtain ⟨rfl, g1, hc, B, hB, hBl⟩ := g1
  show MEvP _ none q_20 22 [(0, .ref 0), (1, .int 1), (2, .int (nI w)), (3, .int a3)] [.int 1] _ _ _ _
  refine mp_Tf (t := 36) (j_if_eq dX6_add_22) (by decide) (by decide) (mpp 25 rfl ?_)
  refine mp_a (a_aload_n dX6_add_25 rfl) (mpp 26 rfl ?_)
  refine mp_get (i := 53) (v := .ref 298) dX6_add_26 rfl ((g1 0 (by decide) (by decide)).trans p0_0) rfl (mpp 29 rfl ?_)
  refine mp_a (a_iload_n dX6_add_29 rfl) (mpp 30 rfl ?_)
  refine mp_callv (i := 83) (q' := q_24) (As := [.int a3]) (rest := []) dX6_add_30 rfl qm_24 (by decide) rfl hc (by decide) (Nat.le_of_ble_eq_true rfl) rfl ⟨rfl, rfl⟩ ⟨Nat.le_of_ble_eq_true rfl, Nat.le_of_ble_eq_true rfl⟩ (EvP.mono (by decide) (x_takeCreasesN1 h2 hm8 hc ((g1 300 (by decide) (by decide)).trans p0_300))) (fun r1 P1 g2 => mpp 33 rfl ?_)
  obtain ⟨rfl, g2, C, hC, hCl⟩ := g2
  show MEvP _ none q_20 33 [(0, .ref 0), (1, .int 1), (2, .int (nI w)), (3, .int a3)] [.int 0] _ _ _ _
  refine mp_Tf (t := 40) (j_if_ne dX6_add_33) (by decide) (by decide) (mpp 36 rfl ?_)
  refine mp_a (a_sipush (v := -1002) dX6_add_36 rfl) (mpp 39 rfl ?_)
  exact mp_iret (⟨rfl, (MOD.fr (MOD.fr MOD.r (fun t ht => g1 t (by omega) (by omega))) (fun t ht => g2 t (by omega)))⟩) dX6_add_39 (Or.inl rfl)

set_option maxRecDepth 100000 in
set_option maxHeartbeats 4000000 in
theorem xo_add_f1 {w m v : Nat} (hw : w < 2 ^ 31) (hs : szok 1 w = true) (hm : ndf 10 w = m) (hm8 : m ≤ 8) (hv : v < 2 ^ 31) (hk : crok m v = false) : EvP 10 20 [.ref 0, .int 1, .int (nI w), .int (nI v)] P0 (fun r P' => r = some (.int (-1002)) ∧ MOD P') := by
  refine EvP.of qm_20 (Nat.le_of_ble_eq_true rfl) rfl ?_
  show MEvP _ none q_20 0 [(0, .ref 0), (1, .int 1), (2, .int (nI w)), (3, .int (nI v))] [] _ 0 0 _
  refine mp_a (a_iload_n dX6_add_0 rfl) (mpp 1 rfl ?_)
  refine mp_Tf (t := 13) (j_if_eq dX6_add_1) (by decide) (by decide) (mpp 4 rfl ?_)
  refine mp_a (a_iload_n dX6_add_4 rfl) (mpp 5 rfl ?_)
  refine mp_a (a_iconst (v := 1) dX6_add_5 rfl) (mpp 6 rfl ?_)
  refine mp_Tt (t := 13) (j_icmp_eq dX6_add_6) (by decide) (by decide) ?_
  refine mp_a (a_aload_n dX6_add_13 rfl) (mpp 14 rfl ?_)
  refine mp_get (i := 53) (v := .ref 298) dX6_add_14 rfl p0_0 rfl (mpp 17 rfl ?_)
  refine mp_a (a_iload_n dX6_add_17 rfl) (mpp 18 rfl ?_)
  refine mp_a (a_iload_n dX6_add_18 rfl) (mpp 19 rfl ?_)
  refine mp_callv (i := 79) (q' := q_21) (As := [.int 1, .int (nI w)]) (rest := []) dX6_add_19 rfl qm_21 (by decide) rfl p0_298 (by decide) (Nat.le_of_ble_eq_true rfl) rfl ⟨rfl, rfl⟩ ⟨Nat.le_of_ble_eq_true rfl, Nat.le_of_ble_eq_true rfl⟩ (EvP.mono (by decide) (x_tsT1 hw hs hm p0_298 p0_299)) (fun r1 P1 g1 => mpp 22 rfl ?_)
  obtain ⟨rfl, g1, hc, B, hB, hBl⟩ := g1
  show MEvP _ none q_20 22 [(0, .ref 0), (1, .int 1), (2, .int (nI w)), (3, .int (nI v))] [.int 1] _ _ _ _
  refine mp_Tf (t := 36) (j_if_eq dX6_add_22) (by decide) (by decide) (mpp 25 rfl ?_)
  refine mp_a (a_aload_n dX6_add_25 rfl) (mpp 26 rfl ?_)
  refine mp_get (i := 53) (v := .ref 298) dX6_add_26 rfl ((g1 0 (by decide) (by decide)).trans p0_0) rfl (mpp 29 rfl ?_)
  refine mp_a (a_iload_n dX6_add_29 rfl) (mpp 30 rfl ?_)
  refine mp_callv (i := 83) (q' := q_24) (As := [.int (nI v)]) (rest := []) dX6_add_30 rfl qm_24 (by decide) rfl hc (by decide) (Nat.le_of_ble_eq_true rfl) rfl ⟨rfl, rfl⟩ ⟨Nat.le_of_ble_eq_true rfl, Nat.le_of_ble_eq_true rfl⟩ (EvP.mono (by decide) (x_tcF1 hv hk hm8 hc ((g1 300 (by decide) (by decide)).trans p0_300))) (fun r1 P1 g2 => mpp 33 rfl ?_)
  obtain ⟨rfl, g2, C, hC, hCl⟩ := g2
  show MEvP _ none q_20 33 [(0, .ref 0), (1, .int 1), (2, .int (nI w)), (3, .int (nI v))] [.int 0] _ _ _ _
  refine mp_Tf (t := 40) (j_if_ne dX6_add_33) (by decide) (by decide) (mpp 36 rfl ?_)
  refine mp_a (a_sipush (v := -1002) dX6_add_36 rfl) (mpp 39 rfl ?_)
  exact mp_iret (⟨rfl, (MOD.fr (MOD.fr MOD.r (fun t ht => g1 t (by omega) (by omega))) (fun t ht => g2 t (by omega)))⟩) dX6_add_39 (Or.inl rfl)

set_option maxRecDepth 100000 in
set_option maxHeartbeats 4000000 in
theorem xo_add_t1 {w m v : Nat} (hw : w < 2 ^ 31) (hs : szok 1 w = true) (hm : ndf 10 w = m) (hm8 : m ≤ 8) (hv : v < 2 ^ 31) (hk : crok m v = true) : EvP 10 20 [.ref 0, .int 1, .int (nI w), .int (nI v)] P0 (fun r P' => r = some (.int 0) ∧ MOD P') := by
  refine EvP.of qm_20 (Nat.le_of_ble_eq_true rfl) rfl ?_
  show MEvP _ none q_20 0 [(0, .ref 0), (1, .int 1), (2, .int (nI w)), (3, .int (nI v))] [] _ 0 0 _
  refine mp_a (a_iload_n dX6_add_0 rfl) (mpp 1 rfl ?_)
  refine mp_Tf (t := 13) (j_if_eq dX6_add_1) (by decide) (by decide) (mpp 4 rfl ?_)
  refine mp_a (a_iload_n dX6_add_4 rfl) (mpp 5 rfl ?_)
  refine mp_a (a_iconst (v := 1) dX6_add_5 rfl) (mpp 6 rfl ?_)
  refine mp_Tt (t := 13) (j_icmp_eq dX6_add_6) (by decide) (by decide) ?_
  refine mp_a (a_aload_n dX6_add_13 rfl) (mpp 14 rfl ?_)
  refine mp_get (i := 53) (v := .ref 298) dX6_add_14 rfl p0_0 rfl (mpp 17 rfl ?_)
  refine mp_a (a_iload_n dX6_add_17 rfl) (mpp 18 rfl ?_)
  refine mp_a (a_iload_n dX6_add_18 rfl) (mpp 19 rfl ?_)
  refine mp_callv (i := 79) (q' := q_21) (As := [.int 1, .int (nI w)]) (rest := []) dX6_add_19 rfl qm_21 (by decide) rfl p0_298 (by decide) (Nat.le_of_ble_eq_true rfl) rfl ⟨rfl, rfl⟩ ⟨Nat.le_of_ble_eq_true rfl, Nat.le_of_ble_eq_true rfl⟩ (EvP.mono (by decide) (x_tsT1 hw hs hm p0_298 p0_299)) (fun r1 P1 g1 => mpp 22 rfl ?_)
  obtain ⟨rfl, g1, hc, B, hB, hBl⟩ := g1
  show MEvP _ none q_20 22 [(0, .ref 0), (1, .int 1), (2, .int (nI w)), (3, .int (nI v))] [.int 1] _ _ _ _
  refine mp_Tf (t := 36) (j_if_eq dX6_add_22) (by decide) (by decide) (mpp 25 rfl ?_)
  refine mp_a (a_aload_n dX6_add_25 rfl) (mpp 26 rfl ?_)
  refine mp_get (i := 53) (v := .ref 298) dX6_add_26 rfl ((g1 0 (by decide) (by decide)).trans p0_0) rfl (mpp 29 rfl ?_)
  refine mp_a (a_iload_n dX6_add_29 rfl) (mpp 30 rfl ?_)
  refine mp_callv (i := 83) (q' := q_24) (As := [.int (nI v)]) (rest := []) dX6_add_30 rfl qm_24 (by decide) rfl hc (by decide) (Nat.le_of_ble_eq_true rfl) rfl ⟨rfl, rfl⟩ ⟨Nat.le_of_ble_eq_true rfl, Nat.le_of_ble_eq_true rfl⟩ (EvP.mono (by decide) (x_tcT1 hv hk hm8 hc ((g1 300 (by decide) (by decide)).trans p0_300))) (fun r1 P1 g2 => mpp 33 rfl ?_)
  obtain ⟨rfl, g2, C, hC, hCl⟩ := g2
  show MEvP _ none q_20 33 [(0, .ref 0), (1, .int 1), (2, .int (nI w)), (3, .int (nI v))] [.int 1] _ _ _ _
  refine mp_Tt (t := 40) (j_if_ne dX6_add_33) (by decide) (by decide) ?_
  refine mp_a (a_aload_n dX6_add_40 rfl) (mpp 41 rfl ?_)
  refine mp_get (i := 10) (v := .ref 1) dX6_add_41 rfl ((g2 0 (by decide)).trans ((g1 0 (by decide) (by decide)).trans p0_0)) rfl (mpp 44 rfl ?_)
  refine mp_get (i := 87) (v := .int 0) dX6_add_44 rfl ((g2 1 (by decide)).trans ((g1 1 (by decide) (by decide)).trans p0_1)) rfl (mpp 47 rfl ?_)
  refine mp_a (a_bipush (v := 8) dX6_add_47 rfl) (mpp 49 rfl ?_)
  refine mp_Tt (t := 60) (j_icmp_lt dX6_add_49) (by decide) (by decide) ?_
  refine mp_a (a_aload_n dX6_add_60 rfl) (mpp 61 rfl ?_)
  refine mp_get (i := 25) (v := .ref 79) dX6_add_61 rfl ((g2 0 (by decide)).trans ((g1 0 (by decide) (by decide)).trans p0_0)) rfl (mpp 64 rfl ?_)
  refine mp_a (a_aload_n dX6_add_64 rfl) (mpp 65 rfl ?_)
  refine mp_get (i := 10) (v := .ref 1) dX6_add_65 rfl ((g2 0 (by decide)).trans ((g1 0 (by decide) (by decide)).trans p0_0)) rfl (mpp 68 rfl ?_)
  refine mp_callv (i := 72) (q' := q_15) (As := [.ref 1]) (rest := []) dX6_add_68 rfl qm_15 (by decide) rfl ((g2 79 (by decide)).trans ((g1 79 (by decide) (by decide)).trans p0_79)) (by decide) (Nat.le_of_ble_eq_true rfl) rfl ⟨rfl, rfl⟩ ⟨Nat.le_of_ble_eq_true rfl, Nat.le_of_ble_eq_true rfl⟩ (EvP.mono (by decide) (x_push ((g2 79 (by decide)).trans ((g1 79 (by decide) (by decide)).trans p0_79)) ((g2 80 (by decide)).trans ((g1 80 (by decide) (by decide)).trans p0_80)) ((g2 81 (by decide)).trans ((g1 81 (by decide) (by decide)).trans p0_81)) ((g2 1 (by decide)).trans ((g1 1 (by decide) (by decide)).trans p0_1)))) (fun r1 P1 g3 => mpp 71 rfl ?_)
  obtain ⟨rfl, g3⟩ := g3
  show MEvP _ none q_20 71 [(0, .ref 0), (1, .int 1), (2, .int (nI w)), (3, .int (nI v))] [] _ _ _ _
  refine mp_a (a_aload_n dX6_add_71 rfl) (mpp 72 rfl ?_)
  refine mp_get (i := 10) (v := .ref 1) dX6_add_72 rfl ((g3 0 (by decide) (by decide)).trans ((g2 0 (by decide)).trans ((g1 0 (by decide) (by decide)).trans p0_0))) rfl (mpp 75 rfl ?_)
  refine mp_a (a_aload_n dX6_add_75 rfl) (mpp 76 rfl ?_)
  refine mp_get (i := 53) (v := .ref 298) dX6_add_76 rfl ((g3 0 (by decide) (by decide)).trans ((g2 0 (by decide)).trans ((g1 0 (by decide) (by decide)).trans p0_0))) rfl (mpp 79 rfl ?_)
  refine mp_callv (i := 90) (q' := q_27) (As := [.ref 298]) (rest := []) dX6_add_79 rfl qm_27 (by decide) rfl ((g3 1 (by decide) (by decide)).trans ((g2 1 (by decide)).trans ((g1 1 (by decide) (by decide)).trans p0_1))) (by decide) (Nat.le_of_ble_eq_true rfl) rfl ⟨rfl, rfl⟩ ⟨Nat.le_of_ble_eq_true rfl, Nat.le_of_ble_eq_true rfl⟩ (EvP.mono (by decide) (x_addCopyOf ((g3 1 (by decide) (by decide)).trans ((g2 1 (by decide)).trans ((g1 1 (by decide) (by decide)).trans p0_1))) ((g3 2 (by decide) (by decide)).trans ((g2 2 (by decide)).trans ((g1 2 (by decide) (by decide)).trans p0_2))) ((g3 3 (by decide) (by decide)).trans ((g2 3 (by decide)).trans ((g1 3 (by decide) (by decide)).trans p0_3))) ((g3 4 (by decide) (by decide)).trans ((g2 4 (by decide)).trans ((g1 4 (by decide) (by decide)).trans p0_4))) ((g3 5 (by decide) (by decide)).trans ((g2 5 (by decide)).trans ((g1 5 (by decide) (by decide)).trans p0_5))) ((g3 298 (by decide) (by decide)).trans ((g2 298 (by decide)).trans hc)) ((g3 299 (by decide) (by decide)).trans ((g2 299 (by decide)).trans hB)) ((g3 300 (by decide) (by decide)).trans hC) hBl hCl)) (fun r1 P1 g4 => mpp 82 rfl ?_)
  obtain ⟨rfl, hs1, g4⟩ := g4
  show MEvP _ none q_20 82 [(0, .ref 0), (1, .int 1), (2, .int (nI w)), (3, .int (nI v))] [] _ _ _ _
  refine mp_a (a_aload_n dX6_add_82 rfl) (mpp 83 rfl ?_)
  refine mp_get (i := 10) (v := .ref 1) dX6_add_83 rfl ((g4 0 (by decide) (by decide) (by decide) (by decide)).trans ((g3 0 (by decide) (by decide)).trans ((g2 0 (by decide)).trans ((g1 0 (by decide) (by decide)).trans p0_0)))) rfl (mpp 86 rfl ?_)
  refine mp_get (i := 87) (v := .int 1) dX6_add_86 rfl hs1 rfl (mpp 89 rfl ?_)
  refine mp_a (a_iconst (v := 1) dX6_add_89 rfl) (mpp 90 rfl ?_)
  refine mp_t (s_isub (v := 0) dX6_add_90 rfl) (mpp 91 rfl ?_)
  exact mp_iret (⟨rfl, (MOD.fr (MOD.fr (MOD.fr (MOD.fr MOD.r (fun t ht => g1 t (by omega) (by omega))) (fun t ht => g2 t (by omega))) (fun t ht => g3 t (by omega) (by omega))) (fun t ht => g4 t (by omega) (by omega) (by omega) (by omega)))⟩) dX6_add_91 (Or.inl rfl)

