theorem dX0_init_0 : decode cX0_init 0 = .ok (.aload_n 0, 1) := by decide +kernel
theorem dX0_init_1 : decode cX0_init 1 = .ok (.invokespecial 3, 3) := by decide +kernel
theorem dX0_init_4 : decode cX0_init 4 = .ok (.aload_n 0, 1) := by decide +kernel
theorem dX0_init_5 : decode cX0_init 5 = .ok (.bipush 8, 2) := by decide +kernel
theorem dX0_init_7 : decode cX0_init 7 = .ok (.anewarray 9, 3) := by decide +kernel
theorem dX0_init_10 : decode cX0_init 10 = .ok (.putfield 11, 3) := by decide +kernel
theorem dX0_init_13 : decode cX0_init 13 = .ok (.iconst 0, 1) := by decide +kernel
theorem dX0_init_14 : decode cX0_init 14 = .ok (.istore_n 1, 1) := by decide +kernel
theorem dX0_init_15 : decode cX0_init 15 = .ok (.iload_n 1, 1) := by decide +kernel
theorem dX0_init_16 : decode cX0_init 16 = .ok (.aload_n 0, 1) := by decide +kernel
theorem dX0_init_17 : decode cX0_init 17 = .ok (.getfield 11, 3) := by decide +kernel
theorem dX0_init_20 : decode cX0_init 20 = .ok (.arraylength, 1) := by decide +kernel
theorem dX0_init_21 : decode cX0_init 21 = .ok (.if_icmp .ge 22, 3) := by decide +kernel
theorem dX0_init_24 : decode cX0_init 24 = .ok (.aload_n 0, 1) := by decide +kernel
theorem dX0_init_25 : decode cX0_init 25 = .ok (.getfield 11, 3) := by decide +kernel
theorem dX0_init_28 : decode cX0_init 28 = .ok (.iload_n 1, 1) := by decide +kernel
theorem dX0_init_29 : decode cX0_init 29 = .ok (.new 9, 3) := by decide +kernel
theorem dX0_init_32 : decode cX0_init 32 = .ok (.dup, 1) := by decide +kernel
theorem dX0_init_33 : decode cX0_init 33 = .ok (.invokespecial 17, 3) := by decide +kernel
theorem dX0_init_36 : decode cX0_init 36 = .ok (.aastore, 1) := by decide +kernel
theorem dX0_init_37 : decode cX0_init 37 = .ok (.iinc 1 1, 3) := by decide +kernel
theorem dX0_init_40 : decode cX0_init 40 = .ok (.goto (-25), 3) := by decide +kernel
theorem dX0_init_43 : decode cX0_init 43 = .ok (.return_, 1) := by decide +kernel
theorem dX1_init_0 : decode cX1_init 0 = .ok (.aload_n 0, 1) := by decide +kernel
theorem dX1_init_1 : decode cX1_init 1 = .ok (.invokespecial 3, 3) := by decide +kernel
theorem dX1_init_4 : decode cX1_init 4 = .ok (.aload_n 0, 1) := by decide +kernel
theorem dX1_init_5 : decode cX1_init 5 = .ok (.bipush 8, 2) := by decide +kernel
theorem dX1_init_7 : decode cX1_init 7 = .ok (.newarray .int, 2) := by decide +kernel
theorem dX1_init_9 : decode cX1_init 9 = .ok (.putfield 9, 3) := by decide +kernel
theorem dX1_init_12 : decode cX1_init 12 = .ok (.aload_n 0, 1) := by decide +kernel
theorem dX1_init_13 : decode cX1_init 13 = .ok (.bipush 8, 2) := by decide +kernel
theorem dX1_init_15 : decode cX1_init 15 = .ok (.newarray .int, 2) := by decide +kernel
theorem dX1_init_17 : decode cX1_init 17 = .ok (.putfield 15, 3) := by decide +kernel
theorem dX1_init_20 : decode cX1_init 20 = .ok (.aload_n 0, 1) := by decide +kernel
theorem dX1_init_21 : decode cX1_init 21 = .ok (.bipush 8, 2) := by decide +kernel
theorem dX1_init_23 : decode cX1_init 23 = .ok (.newarray .int, 2) := by decide +kernel
theorem dX1_init_25 : decode cX1_init 25 = .ok (.putfield 18, 3) := by decide +kernel
theorem dX1_init_28 : decode cX1_init 28 = .ok (.return_, 1) := by decide +kernel
theorem dX2_init_0 : decode cX2_init 0 = .ok (.aload_n 0, 1) := by decide +kernel
theorem dX2_init_1 : decode cX2_init 1 = .ok (.invokespecial 3, 3) := by decide +kernel
theorem dX2_init_4 : decode cX2_init 4 = .ok (.aload_n 0, 1) := by decide +kernel
theorem dX2_init_5 : decode cX2_init 5 = .ok (.bipush 8, 2) := by decide +kernel
theorem dX2_init_7 : decode cX2_init 7 = .ok (.newarray .int, 2) := by decide +kernel
theorem dX2_init_9 : decode cX2_init 9 = .ok (.putfield 9, 3) := by decide +kernel
theorem dX2_init_12 : decode cX2_init 12 = .ok (.aload_n 0, 1) := by decide +kernel
theorem dX2_init_13 : decode cX2_init 13 = .ok (.bipush 8, 2) := by decide +kernel
theorem dX2_init_15 : decode cX2_init 15 = .ok (.newarray .int, 2) := by decide +kernel
theorem dX2_init_17 : decode cX2_init 17 = .ok (.putfield 15, 3) := by decide +kernel
theorem dX2_init_20 : decode cX2_init 20 = .ok (.return_, 1) := by decide +kernel
theorem dX3_init_0 : decode cX3_init 0 = .ok (.aload_n 0, 1) := by decide +kernel
theorem dX3_init_1 : decode cX3_init 1 = .ok (.invokespecial 3, 3) := by decide +kernel
theorem dX3_init_4 : decode cX3_init 4 = .ok (.aload_n 0, 1) := by decide +kernel
theorem dX3_init_5 : decode cX3_init 5 = .ok (.bipush 8, 2) := by decide +kernel
theorem dX3_init_7 : decode cX3_init 7 = .ok (.newarray .int, 2) := by decide +kernel
theorem dX3_init_9 : decode cX3_init 9 = .ok (.putfield 9, 3) := by decide +kernel
theorem dX3_init_12 : decode cX3_init 12 = .ok (.aload_n 0, 1) := by decide +kernel
theorem dX3_init_13 : decode cX3_init 13 = .ok (.bipush 8, 2) := by decide +kernel
theorem dX3_init_15 : decode cX3_init 15 = .ok (.newarray .int, 2) := by decide +kernel
theorem dX3_init_17 : decode cX3_init 17 = .ok (.putfield 15, 3) := by decide +kernel
theorem dX3_init_20 : decode cX3_init 20 = .ok (.return_, 1) := by decide +kernel
theorem dX4_init_0 : decode cX4_init 0 = .ok (.aload_n 0, 1) := by decide +kernel
theorem dX4_init_1 : decode cX4_init 1 = .ok (.invokespecial 3, 3) := by decide +kernel
theorem dX4_init_4 : decode cX4_init 4 = .ok (.aload_n 0, 1) := by decide +kernel
theorem dX4_init_5 : decode cX4_init 5 = .ok (.bipush 80, 2) := by decide +kernel
theorem dX4_init_7 : decode cX4_init 7 = .ok (.newarray .int, 2) := by decide +kernel
theorem dX4_init_9 : decode cX4_init 9 = .ok (.putfield 9, 3) := by decide +kernel
theorem dX4_init_12 : decode cX4_init 12 = .ok (.return_, 1) := by decide +kernel
theorem dX5_init_0 : decode cX5_init 0 = .ok (.aload_n 0, 1) := by decide +kernel
theorem dX5_init_1 : decode cX5_init 1 = .ok (.invokespecial 3, 3) := by decide +kernel
theorem dX5_init_4 : decode cX5_init 4 = .ok (.aload_n 0, 1) := by decide +kernel
theorem dX5_init_5 : decode cX5_init 5 = .ok (.bipush 8, 2) := by decide +kernel
theorem dX5_init_7 : decode cX5_init 7 = .ok (.anewarray 9, 3) := by decide +kernel
theorem dX5_init_10 : decode cX5_init 10 = .ok (.putfield 11, 3) := by decide +kernel
theorem dX5_init_13 : decode cX5_init 13 = .ok (.aload_n 0, 1) := by decide +kernel
theorem dX5_init_14 : decode cX5_init 14 = .ok (.bipush 30, 2) := by decide +kernel
theorem dX5_init_16 : decode cX5_init 16 = .ok (.putfield 17, 3) := by decide +kernel
theorem dX5_init_19 : decode cX5_init 19 = .ok (.iconst 0, 1) := by decide +kernel
theorem dX5_init_20 : decode cX5_init 20 = .ok (.istore_n 1, 1) := by decide +kernel
theorem dX5_init_21 : decode cX5_init 21 = .ok (.iload_n 1, 1) := by decide +kernel
theorem dX5_init_22 : decode cX5_init 22 = .ok (.aload_n 0, 1) := by decide +kernel
theorem dX5_init_23 : decode cX5_init 23 = .ok (.getfield 11, 3) := by decide +kernel
theorem dX5_init_26 : decode cX5_init 26 = .ok (.arraylength, 1) := by decide +kernel
theorem dX5_init_27 : decode cX5_init 27 = .ok (.if_icmp .ge 22, 3) := by decide +kernel
theorem dX5_init_30 : decode cX5_init 30 = .ok (.aload_n 0, 1) := by decide +kernel
theorem dX5_init_31 : decode cX5_init 31 = .ok (.getfield 11, 3) := by decide +kernel
theorem dX5_init_34 : decode cX5_init 34 = .ok (.iload_n 1, 1) := by decide +kernel
theorem dX5_init_35 : decode cX5_init 35 = .ok (.new 9, 3) := by decide +kernel
theorem dX5_init_38 : decode cX5_init 38 = .ok (.dup, 1) := by decide +kernel
theorem dX5_init_39 : decode cX5_init 39 = .ok (.invokespecial 21, 3) := by decide +kernel
theorem dX5_init_42 : decode cX5_init 42 = .ok (.aastore, 1) := by decide +kernel
theorem dX5_init_43 : decode cX5_init 43 = .ok (.iinc 1 1, 3) := by decide +kernel
theorem dX5_init_46 : decode cX5_init 46 = .ok (.goto (-25), 3) := by decide +kernel
theorem dX5_init_49 : decode cX5_init 49 = .ok (.return_, 1) := by decide +kernel
theorem dX6_init_0 : decode cX6_init 0 = .ok (.aload_n 0, 1) := by decide +kernel
theorem dX6_init_1 : decode cX6_init 1 = .ok (.invokespecial 1, 3) := by decide +kernel
theorem dX6_init_4 : decode cX6_init 4 = .ok (.aload_n 0, 1) := by decide +kernel
theorem dX6_init_5 : decode cX6_init 5 = .ok (.new 7, 3) := by decide +kernel
theorem dX6_init_8 : decode cX6_init 8 = .ok (.dup, 1) := by decide +kernel
theorem dX6_init_9 : decode cX6_init 9 = .ok (.invokespecial 9, 3) := by decide +kernel
theorem dX6_init_12 : decode cX6_init 12 = .ok (.putfield 10, 3) := by decide +kernel
theorem dX6_init_15 : decode cX6_init 15 = .ok (.aload_n 0, 1) := by decide +kernel
theorem dX6_init_16 : decode cX6_init 16 = .ok (.new 7, 3) := by decide +kernel
theorem dX6_init_19 : decode cX6_init 19 = .ok (.dup, 1) := by decide +kernel
theorem dX6_init_20 : decode cX6_init 20 = .ok (.invokespecial 9, 3) := by decide +kernel
theorem dX6_init_23 : decode cX6_init 23 = .ok (.putfield 16, 3) := by decide +kernel
theorem dX6_init_26 : decode cX6_init 26 = .ok (.aload_n 0, 1) := by decide +kernel
theorem dX6_init_27 : decode cX6_init 27 = .ok (.new 7, 3) := by decide +kernel
theorem dX6_init_30 : decode cX6_init 30 = .ok (.dup, 1) := by decide +kernel
theorem dX6_init_31 : decode cX6_init 31 = .ok (.invokespecial 9, 3) := by decide +kernel
theorem dX6_init_34 : decode cX6_init 34 = .ok (.putfield 19, 3) := by decide +kernel
theorem dX6_init_37 : decode cX6_init 37 = .ok (.aload_n 0, 1) := by decide +kernel
theorem dX6_init_38 : decode cX6_init 38 = .ok (.new 22, 3) := by decide +kernel
theorem dX6_init_41 : decode cX6_init 41 = .ok (.dup, 1) := by decide +kernel
theorem dX6_init_42 : decode cX6_init 42 = .ok (.invokespecial 24, 3) := by decide +kernel
theorem dX6_init_45 : decode cX6_init 45 = .ok (.putfield 25, 3) := by decide +kernel
theorem dX6_init_48 : decode cX6_init 48 = .ok (.aload_n 0, 1) := by decide +kernel
theorem dX6_init_49 : decode cX6_init 49 = .ok (.new 29, 3) := by decide +kernel
theorem dX6_init_52 : decode cX6_init 52 = .ok (.dup, 1) := by decide +kernel
theorem dX6_init_53 : decode cX6_init 53 = .ok (.invokespecial 31, 3) := by decide +kernel
theorem dX6_init_56 : decode cX6_init 56 = .ok (.putfield 32, 3) := by decide +kernel
theorem dX6_init_59 : decode cX6_init 59 = .ok (.aload_n 0, 1) := by decide +kernel
theorem dX6_init_60 : decode cX6_init 60 = .ok (.new 36, 3) := by decide +kernel
theorem dX6_init_63 : decode cX6_init 63 = .ok (.dup, 1) := by decide +kernel
theorem dX6_init_64 : decode cX6_init 64 = .ok (.invokespecial 38, 3) := by decide +kernel
theorem dX6_init_67 : decode cX6_init 67 = .ok (.putfield 39, 3) := by decide +kernel
theorem dX6_init_70 : decode cX6_init 70 = .ok (.aload_n 0, 1) := by decide +kernel
theorem dX6_init_71 : decode cX6_init 71 = .ok (.new 43, 3) := by decide +kernel
theorem dX6_init_74 : decode cX6_init 74 = .ok (.dup, 1) := by decide +kernel
theorem dX6_init_75 : decode cX6_init 75 = .ok (.invokespecial 45, 3) := by decide +kernel
theorem dX6_init_78 : decode cX6_init 78 = .ok (.putfield 46, 3) := by decide +kernel
theorem dX6_init_81 : decode cX6_init 81 = .ok (.aload_n 0, 1) := by decide +kernel
theorem dX6_init_82 : decode cX6_init 82 = .ok (.new 50, 3) := by decide +kernel
theorem dX6_init_85 : decode cX6_init 85 = .ok (.dup, 1) := by decide +kernel
theorem dX6_init_86 : decode cX6_init 86 = .ok (.invokespecial 52, 3) := by decide +kernel
theorem dX6_init_89 : decode cX6_init 89 = .ok (.putfield 53, 3) := by decide +kernel
theorem dX6_init_92 : decode cX6_init 92 = .ok (.aload_n 0, 1) := by decide +kernel
theorem dX6_init_93 : decode cX6_init 93 = .ok (.sipush (-1004), 3) := by decide +kernel
theorem dX6_init_96 : decode cX6_init 96 = .ok (.putfield 57, 3) := by decide +kernel
theorem dX6_init_99 : decode cX6_init 99 = .ok (.aload_n 0, 1) := by decide +kernel
theorem dX6_init_100 : decode cX6_init 100 = .ok (.sipush (-1004), 3) := by decide +kernel
theorem dX6_init_103 : decode cX6_init 103 = .ok (.putfield 61, 3) := by decide +kernel
theorem dX6_init_106 : decode cX6_init 106 = .ok (.return_, 1) := by decide +kernel
/-! what the constructors make (written by a program) -/
def q_2 : mQ := (yX2_init, cX2_init, 1, none, 0, 2, 2, 16)
theorem qm_2 : mtL[2]? = some q_2 := rfl

def rPiece (x : Nat) : mP := [(2, [.int 0, .int 0, .int 0, .ref (x + 1), .ref (x + 2)]), (8, List.replicate 8 (.int 0)), (8, List.replicate 8 (.int 0))]
set_option maxRecDepth 100000 in
set_option maxHeartbeats 4000000 in
theorem ec_2 {X : mP} {x : Nat} (hx : X.length = x) : Ev 1 2 [.ref (x + 0)] (X ++ [(2, mdef 2)]) none (X ++ rPiece x) := by
  refine Ev.of qm_2 (Nat.le_of_ble_eq_true rfl) rfl ?_
  show MEv _ none q_2 0 [(0, .ref (x + 0))] [] _ 0 0 none _
  refine me_a (a_aload_n dX2_init_0 rfl) (mpe 1 rfl ?_)
  refine me_obj (i := 3) (k := 0) dX2_init_1 rfl (Nat.le_of_ble_eq_true rfl) rfl ⟨Nat.le_of_ble_eq_true rfl, Nat.le_of_ble_eq_true rfl⟩ (mpe 4 rfl ?_)
  refine me_a (a_aload_n dX2_init_4 rfl) (mpe 5 rfl ?_)
  refine me_a (a_bipush (v := 8) dX2_init_5 rfl) (mpe 7 rfl ?_)
  refine ms_newi (k := 1) (N := 8) hx dX2_init_7 (by decide) rfl (by decide) rfl ⟨Nat.le_of_ble_eq_true rfl, Nat.le_of_ble_eq_true rfl⟩ (mpe 9 rfl ?_)
  refine ms_put (i := 9) (j := 0) (l' := [(2, [.int 0, .int 0, .int 0, .ref (x + 1), .null]), (8, List.replicate 8 (.int 0))]) hx dX2_init_9 rfl rfl (Nat.le_of_ble_eq_true rfl) rfl (Or.inr ⟨rfl, rfl, rfl⟩) rfl (mpe 12 rfl ?_)
  refine me_a (a_aload_n dX2_init_12 rfl) (mpe 13 rfl ?_)
  refine me_a (a_bipush (v := 8) dX2_init_13 rfl) (mpe 15 rfl ?_)
  refine ms_newi (k := 2) (N := 8) hx dX2_init_15 (by decide) rfl (by decide) rfl ⟨Nat.le_of_ble_eq_true rfl, Nat.le_of_ble_eq_true rfl⟩ (mpe 17 rfl ?_)
  refine ms_put (i := 15) (j := 0) (l' := [(2, [.int 0, .int 0, .int 0, .ref (x + 1), .ref (x + 2)]), (8, List.replicate 8 (.int 0)), (8, List.replicate 8 (.int 0))]) hx dX2_init_17 rfl rfl (Nat.le_of_ble_eq_true rfl) rfl (Or.inr ⟨rfl, rfl, rfl⟩) rfl (mpe 20 rfl ?_)
  exact ms_ret dX2_init_20 rfl rfl
theorem ei_2 {X l : mP} {x k : Nat} (hx : X.length = x) (hk : l.length = k) : Ev 1 2 [.ref (x + k)] (X ++ (l ++ [(2, mdef 2)])) none (X ++ (l ++ rPiece (x + k))) := by
  have h := ec_2 (X := X ++ l) (x := x + k) (by rw [List.length_append, hx, hk])
  rw [List.append_assoc, List.append_assoc] at h
  exact h
def q_1 : mQ := (yX5_init, cX5_init, 2, none, 0, 5, 25, 176)
theorem qm_1 : mtL[1]? = some q_1 := rfl

def rState (x : Nat) : mP := [(5, [.ref (x + 1), .int 0, .int 30, .int 0]), (10, [.ref (x + 2), .ref (x + 5), .ref (x + 8), .ref (x + 11), .ref (x + 14), .ref (x + 17), .ref (x + 20), .ref (x + 23)]), (2, [.int 0, .int 0, .int 0, .ref (x + 3), .ref (x + 4)]), (8, List.replicate 8 (.int 0)), (8, List.replicate 8 (.int 0)), (2, [.int 0, .int 0, .int 0, .ref (x + 6), .ref (x + 7)]), (8, List.replicate 8 (.int 0)), (8, List.replicate 8 (.int 0)), (2, [.int 0, .int 0, .int 0, .ref (x + 9), .ref (x + 10)]), (8, List.replicate 8 (.int 0)), (8, List.replicate 8 (.int 0)), (2, [.int 0, .int 0, .int 0, .ref (x + 12), .ref (x + 13)]), (8, List.replicate 8 (.int 0)), (8, List.replicate 8 (.int 0)), (2, [.int 0, .int 0, .int 0, .ref (x + 15), .ref (x + 16)]), (8, List.replicate 8 (.int 0)), (8, List.replicate 8 (.int 0)), (2, [.int 0, .int 0, .int 0, .ref (x + 18), .ref (x + 19)]), (8, List.replicate 8 (.int 0)), (8, List.replicate 8 (.int 0)), (2, [.int 0, .int 0, .int 0, .ref (x + 21), .ref (x + 22)]), (8, List.replicate 8 (.int 0)), (8, List.replicate 8 (.int 0)), (2, [.int 0, .int 0, .int 0, .ref (x + 24), .ref (x + 25)]), (8, List.replicate 8 (.int 0)), (8, List.replicate 8 (.int 0))]
set_option maxRecDepth 100000 in
set_option maxHeartbeats 4000000 in
theorem ec_1 {X : mP} {x : Nat} (hx : X.length = x) : Ev 2 1 [.ref (x + 0)] (X ++ [(5, mdef 5)]) none (X ++ rState x) := by
  refine Ev.of qm_1 (Nat.le_of_ble_eq_true rfl) rfl ?_
  show MEv _ none q_1 0 [(0, .ref (x + 0))] [] _ 0 0 none _
  refine me_a (a_aload_n dX5_init_0 rfl) (mpe 1 rfl ?_)
  refine me_obj (i := 3) (k := 0) dX5_init_1 rfl (Nat.le_of_ble_eq_true rfl) rfl ⟨Nat.le_of_ble_eq_true rfl, Nat.le_of_ble_eq_true rfl⟩ (mpe 4 rfl ?_)
  refine me_a (a_aload_n dX5_init_4 rfl) (mpe 5 rfl ?_)
  refine me_a (a_bipush (v := 8) dX5_init_5 rfl) (mpe 7 rfl ?_)
  refine ms_anew (i := 9) (kd := 10) (ci := 2) (k := 1) (N := 8) hx dX5_init_7 rfl (by decide) (by decide) rfl (by decide) rfl ⟨Nat.le_of_ble_eq_true rfl, Nat.le_of_ble_eq_true rfl⟩ (mpe 10 rfl ?_)
  refine ms_put (i := 11) (j := 0) (l' := [(5, [.ref (x + 1), .int 0, .int 0, .int 0]), (10, [.null, .null, .null, .null, .null, .null, .null, .null])]) hx dX5_init_10 rfl rfl (Nat.le_of_ble_eq_true rfl) rfl (Or.inr ⟨rfl, rfl, rfl⟩) rfl (mpe 13 rfl ?_)
  refine me_a (a_aload_n dX5_init_13 rfl) (mpe 14 rfl ?_)
  refine me_a (a_bipush (v := 30) dX5_init_14 rfl) (mpe 16 rfl ?_)
  refine ms_put (i := 17) (j := 0) (l' := [(5, [.ref (x + 1), .int 0, .int 30, .int 0]), (10, [.null, .null, .null, .null, .null, .null, .null, .null])]) hx dX5_init_16 rfl rfl (Nat.le_of_ble_eq_true rfl) rfl (Or.inl rfl) rfl (mpe 19 rfl ?_)
  refine me_a (a_iconst (v := 0) dX5_init_19 rfl) (mpe 20 rfl ?_)
  refine me_a (a_istore_n (L' := [(1, .int 0), (0, .ref (x + 0))]) dX5_init_20 (by decide) rfl) (mpe 21 rfl ?_)
  refine me_a (a_iload_n dX5_init_21 rfl) (mpe 22 rfl ?_)
  refine me_a (a_aload_n dX5_init_22 rfl) (mpe 23 rfl ?_)
  refine ms_get (i := 11) (j := 0) (v := .ref (x + 1)) hx dX5_init_23 rfl rfl rfl (mpe 26 rfl ?_)
  refine ms_alen (j := 1) (n := 8) hx dX5_init_26 rfl (by decide) rfl (mpe 27 rfl ?_)
  refine me_Tf (t := 49) (j_icmp_ge dX5_init_27) (by decide) (by decide) (mpe 30 rfl ?_)
  refine me_a (a_aload_n dX5_init_30 rfl) (mpe 31 rfl ?_)
  refine ms_get (i := 11) (j := 0) (v := .ref (x + 1)) hx dX5_init_31 rfl rfl rfl (mpe 34 rfl ?_)
  refine me_a (a_iload_n dX5_init_34 rfl) (mpe 35 rfl ?_)
  refine ms_new (i := 9) (ci := 2) (k := 2) hx dX5_init_35 rfl rfl ⟨Nat.le_of_ble_eq_true rfl, Nat.le_of_ble_eq_true rfl⟩ (mpe 38 rfl ?_)
  refine me_t (s_dup dX5_init_38 rfl) (mpe 39 rfl ?_)
  refine ms_init (i := 21) (q' := q_2) (l' := [(5, [.ref (x + 1), .int 0, .int 30, .int 0]), (10, [.null, .null, .null, .null, .null, .null, .null, .null]), (2, [.int 0, .int 0, .int 0, .ref (x + 3), .ref (x + 4)]), (8, List.replicate 8 (.int 0)), (8, List.replicate 8 (.int 0))]) dX5_init_39 rfl qm_2 (by decide) rfl rfl (Nat.le_of_ble_eq_true rfl) ⟨Nat.le_of_ble_eq_true rfl, Nat.le_of_ble_eq_true rfl⟩ ((ei_2 (l := [(5, [.ref (x + 1), .int 0, .int 30, .int 0]), (10, [.null, .null, .null, .null, .null, .null, .null, .null])]) hx rfl).mono (by decide)) (mpe 42 rfl ?_)
  refine ms_aast (k := 2) (j := 1) (N := 8) (l' := [(5, [.ref (x + 1), .int 0, .int 30, .int 0]), (10, [.ref (x + 2), .null, .null, .null, .null, .null, .null, .null]), (2, [.int 0, .int 0, .int 0, .ref (x + 3), .ref (x + 4)]), (8, List.replicate 8 (.int 0)), (8, List.replicate 8 (.int 0))]) hx dX5_init_42 rfl rfl (by decide) rfl (by decide) rfl (mpe 43 rfl ?_)
  refine me_a (a_iinc (v := 1) (L' := [(1, .int 1), (0, .ref (x + 0))]) dX5_init_43 (by decide) rfl rfl rfl) (mpe 46 rfl ?_)
  refine me_a (a_goto (t := 21) dX5_init_46 (by decide)) (mpe 21 rfl ?_)
  refine me_a (a_iload_n dX5_init_21 rfl) (mpe 22 rfl ?_)
  refine me_a (a_aload_n dX5_init_22 rfl) (mpe 23 rfl ?_)
  refine ms_get (i := 11) (j := 0) (v := .ref (x + 1)) hx dX5_init_23 rfl rfl rfl (mpe 26 rfl ?_)
  refine ms_alen (j := 1) (n := 8) hx dX5_init_26 rfl (by decide) rfl (mpe 27 rfl ?_)
  refine me_Tf (t := 49) (j_icmp_ge dX5_init_27) (by decide) (by decide) (mpe 30 rfl ?_)
  refine me_a (a_aload_n dX5_init_30 rfl) (mpe 31 rfl ?_)
  refine ms_get (i := 11) (j := 0) (v := .ref (x + 1)) hx dX5_init_31 rfl rfl rfl (mpe 34 rfl ?_)
  refine me_a (a_iload_n dX5_init_34 rfl) (mpe 35 rfl ?_)
  refine ms_new (i := 9) (ci := 2) (k := 5) hx dX5_init_35 rfl rfl ⟨Nat.le_of_ble_eq_true rfl, Nat.le_of_ble_eq_true rfl⟩ (mpe 38 rfl ?_)
  refine me_t (s_dup dX5_init_38 rfl) (mpe 39 rfl ?_)
  refine ms_init (i := 21) (q' := q_2) (l' := [(5, [.ref (x + 1), .int 0, .int 30, .int 0]), (10, [.ref (x + 2), .null, .null, .null, .null, .null, .null, .null]), (2, [.int 0, .int 0, .int 0, .ref (x + 3), .ref (x + 4)]), (8, List.replicate 8 (.int 0)), (8, List.replicate 8 (.int 0)), (2, [.int 0, .int 0, .int 0, .ref (x + 6), .ref (x + 7)]), (8, List.replicate 8 (.int 0)), (8, List.replicate 8 (.int 0))]) dX5_init_39 rfl qm_2 (by decide) rfl rfl (Nat.le_of_ble_eq_true rfl) ⟨Nat.le_of_ble_eq_true rfl, Nat.le_of_ble_eq_true rfl⟩ ((ei_2 (l := [(5, [.ref (x + 1), .int 0, .int 30, .int 0]), (10, [.ref (x + 2), .null, .null, .null, .null, .null, .null, .null]), (2, [.int 0, .int 0, .int 0, .ref (x + 3), .ref (x + 4)]), (8, List.replicate 8 (.int 0)), (8, List.replicate 8 (.int 0))]) hx rfl).mono (by decide)) (mpe 42 rfl ?_)
  refine ms_aast (k := 5) (j := 1) (N := 8) (l' := [(5, [.ref (x + 1), .int 0, .int 30, .int 0]), (10, [.ref (x + 2), .ref (x + 5), .null, .null, .null, .null, .null, .null]), (2, [.int 0, .int 0, .int 0, .ref (x + 3), .ref (x + 4)]), (8, List.replicate 8 (.int 0)), (8, List.replicate 8 (.int 0)), (2, [.int 0, .int 0, .int 0, .ref (x + 6), .ref (x + 7)]), (8, List.replicate 8 (.int 0)), (8, List.replicate 8 (.int 0))]) hx dX5_init_42 rfl rfl (by decide) rfl (by decide) rfl (mpe 43 rfl ?_)
  refine me_a (a_iinc (v := 2) (L' := [(1, .int 2), (0, .ref (x + 0))]) dX5_init_43 (by decide) rfl rfl rfl) (mpe 46 rfl ?_)
  refine me_a (a_goto (t := 21) dX5_init_46 (by decide)) (mpe 21 rfl ?_)
  refine me_a (a_iload_n dX5_init_21 rfl) (mpe 22 rfl ?_)
  refine me_a (a_aload_n dX5_init_22 rfl) (mpe 23 rfl ?_)
  refine ms_get (i := 11) (j := 0) (v := .ref (x + 1)) hx dX5_init_23 rfl rfl rfl (mpe 26 rfl ?_)
  refine ms_alen (j := 1) (n := 8) hx dX5_init_26 rfl (by decide) rfl (mpe 27 rfl ?_)
  refine me_Tf (t := 49) (j_icmp_ge dX5_init_27) (by decide) (by decide) (mpe 30 rfl ?_)
  refine me_a (a_aload_n dX5_init_30 rfl) (mpe 31 rfl ?_)
  refine ms_get (i := 11) (j := 0) (v := .ref (x + 1)) hx dX5_init_31 rfl rfl rfl (mpe 34 rfl ?_)
  refine me_a (a_iload_n dX5_init_34 rfl) (mpe 35 rfl ?_)
  refine ms_new (i := 9) (ci := 2) (k := 8) hx dX5_init_35 rfl rfl ⟨Nat.le_of_ble_eq_true rfl, Nat.le_of_ble_eq_true rfl⟩ (mpe 38 rfl ?_)
  refine me_t (s_dup dX5_init_38 rfl) (mpe 39 rfl ?_)
  refine ms_init (i := 21) (q' := q_2) (l' := [(5, [.ref (x + 1), .int 0, .int 30, .int 0]), (10, [.ref (x + 2), .ref (x + 5), .null, .null, .null, .null, .null, .null]), (2, [.int 0, .int 0, .int 0, .ref (x + 3), .ref (x + 4)]), (8, List.replicate 8 (.int 0)), (8, List.replicate 8 (.int 0)), (2, [.int 0, .int 0, .int 0, .ref (x + 6), .ref (x + 7)]), (8, List.replicate 8 (.int 0)), (8, List.replicate 8 (.int 0)), (2, [.int 0, .int 0, .int 0, .ref (x + 9), .ref (x + 10)]), (8, List.replicate 8 (.int 0)), (8, List.replicate 8 (.int 0))]) dX5_init_39 rfl qm_2 (by decide) rfl rfl (Nat.le_of_ble_eq_true rfl) ⟨Nat.le_of_ble_eq_true rfl, Nat.le_of_ble_eq_true rfl⟩ ((ei_2 (l := [(5, [.ref (x + 1), .int 0, .int 30, .int 0]), (10, [.ref (x + 2), .ref (x + 5), .null, .null, .null, .null, .null, .null]), (2, [.int 0, .int 0, .int 0, .ref (x + 3), .ref (x + 4)]), (8, List.replicate 8 (.int 0)), (8, List.replicate 8 (.int 0)), (2, [.int 0, .int 0, .int 0, .ref (x + 6), .ref (x + 7)]), (8, List.replicate 8 (.int 0)), (8, List.replicate 8 (.int 0))]) hx rfl).mono (by decide)) (mpe 42 rfl ?_)
  refine ms_aast (k := 8) (j := 1) (N := 8) (l' := [(5, [.ref (x + 1), .int 0, .int 30, .int 0]), (10, [.ref (x + 2), .ref (x + 5), .ref (x + 8), .null, .null, .null, .null, .null]), (2, [.int 0, .int 0, .int 0, .ref (x + 3), .ref (x + 4)]), (8, List.replicate 8 (.int 0)), (8, List.replicate 8 (.int 0)), (2, [.int 0, .int 0, .int 0, .ref (x + 6), .ref (x + 7)]), (8, List.replicate 8 (.int 0)), (8, List.replicate 8 (.int 0)), (2, [.int 0, .int 0, .int 0, .ref (x + 9), .ref (x + 10)]), (8, List.replicate 8 (.int 0)), (8, List.replicate 8 (.int 0))]) hx dX5_init_42 rfl rfl (by decide) rfl (by decide) rfl (mpe 43 rfl ?_)
  refine me_a (a_iinc (v := 3) (L' := [(1, .int 3), (0, .ref (x + 0))]) dX5_init_43 (by decide) rfl rfl rfl) (mpe 46 rfl ?_)
  refine me_a (a_goto (t := 21) dX5_init_46 (by decide)) (mpe 21 rfl ?_)
  refine me_a (a_iload_n dX5_init_21 rfl) (mpe 22 rfl ?_)
  refine me_a (a_aload_n dX5_init_22 rfl) (mpe 23 rfl ?_)
  refine ms_get (i := 11) (j := 0) (v := .ref (x + 1)) hx dX5_init_23 rfl rfl rfl (mpe 26 rfl ?_)
  refine ms_alen (j := 1) (n := 8) hx dX5_init_26 rfl (by decide) rfl (mpe 27 rfl ?_)
  refine me_Tf (t := 49) (j_icmp_ge dX5_init_27) (by decide) (by decide) (mpe 30 rfl ?_)
  refine me_a (a_aload_n dX5_init_30 rfl) (mpe 31 rfl ?_)
  refine ms_get (i := 11) (j := 0) (v := .ref (x + 1)) hx dX5_init_31 rfl rfl rfl (mpe 34 rfl ?_)
  refine me_a (a_iload_n dX5_init_34 rfl) (mpe 35 rfl ?_)
  refine ms_new (i := 9) (ci := 2) (k := 11) hx dX5_init_35 rfl rfl ⟨Nat.le_of_ble_eq_true rfl, Nat.le_of_ble_eq_true rfl⟩ (mpe 38 rfl ?_)
  refine me_t (s_dup dX5_init_38 rfl) (mpe 39 rfl ?_)
  refine ms_init (i := 21) (q' := q_2) (l' := [(5, [.ref (x + 1), .int 0, .int 30, .int 0]), (10, [.ref (x + 2), .ref (x + 5), .ref (x + 8), .null, .null, .null, .null, .null]), (2, [.int 0, .int 0, .int 0, .ref (x + 3), .ref (x + 4)]), (8, List.replicate 8 (.int 0)), (8, List.replicate 8 (.int 0)), (2, [.int 0, .int 0, .int 0, .ref (x + 6), .ref (x + 7)]), (8, List.replicate 8 (.int 0)), (8, List.replicate 8 (.int 0)), (2, [.int 0, .int 0, .int 0, .ref (x + 9), .ref (x + 10)]), (8, List.replicate 8 (.int 0)), (8, List.replicate 8 (.int 0)), (2, [.int 0, .int 0, .int 0, .ref (x + 12), .ref (x + 13)]), (8, List.replicate 8 (.int 0)), (8, List.replicate 8 (.int 0))]) dX5_init_39 rfl qm_2 (by decide) rfl rfl (Nat.le_of_ble_eq_true rfl) ⟨Nat.le_of_ble_eq_true rfl, Nat.le_of_ble_eq_true rfl⟩ ((ei_2 (l := [(5, [.ref (x + 1), .int 0, .int 30, .int 0]), (10, [.ref (x + 2), .ref (x + 5), .ref (x + 8), .null, .null, .null, .null, .null]), (2, [.int 0, .int 0, .int 0, .ref (x + 3), .ref (x + 4)]), (8, List.replicate 8 (.int 0)), (8, List.replicate 8 (.int 0)), (2, [.int 0, .int 0, .int 0, .ref (x + 6), .ref (x + 7)]), (8, List.replicate 8 (.int 0)), (8, List.replicate 8 (.int 0)), (2, [.int 0, .int 0, .int 0, .ref (x + 9), .ref (x + 10)]), (8, List.replicate 8 (.int 0)), (8, List.replicate 8 (.int 0))]) hx rfl).mono (by decide)) (mpe 42 rfl ?_)
  refine ms_aast (k := 11) (j := 1) (N := 8) (l' := [(5, [.ref (x + 1), .int 0, .int 30, .int 0]), (10, [.ref (x + 2), .ref (x + 5), .ref (x + 8), .ref (x + 11), .null, .null, .null, .null]), (2, [.int 0, .int 0, .int 0, .ref (x + 3), .ref (x + 4)]), (8, List.replicate 8 (.int 0)), (8, List.replicate 8 (.int 0)), (2, [.int 0, .int 0, .int 0, .ref (x + 6), .ref (x + 7)]), (8, List.replicate 8 (.int 0)), (8, List.replicate 8 (.int 0)), (2, [.int 0, .int 0, .int 0, .ref (x + 9), .ref (x + 10)]), (8, List.replicate 8 (.int 0)), (8, List.replicate 8 (.int 0)), (2, [.int 0, .int 0, .int 0, .ref (x + 12), .ref (x + 13)]), (8, List.replicate 8 (.int 0)), (8, List.replicate 8 (.int 0))]) hx dX5_init_42 rfl rfl (by decide) rfl (by decide) rfl (mpe 43 rfl ?_)
  refine me_a (a_iinc (v := 4) (L' := [(1, .int 4), (0, .ref (x + 0))]) dX5_init_43 (by decide) rfl rfl rfl) (mpe 46 rfl ?_)
  refine me_a (a_goto (t := 21) dX5_init_46 (by decide)) (mpe 21 rfl ?_)
  refine me_a (a_iload_n dX5_init_21 rfl) (mpe 22 rfl ?_)
  refine me_a (a_aload_n dX5_init_22 rfl) (mpe 23 rfl ?_)
  refine ms_get (i := 11) (j := 0) (v := .ref (x + 1)) hx dX5_init_23 rfl rfl rfl (mpe 26 rfl ?_)
  refine ms_alen (j := 1) (n := 8) hx dX5_init_26 rfl (by decide) rfl (mpe 27 rfl ?_)
  refine me_Tf (t := 49) (j_icmp_ge dX5_init_27) (by decide) (by decide) (mpe 30 rfl ?_)
  refine me_a (a_aload_n dX5_init_30 rfl) (mpe 31 rfl ?_)
  refine ms_get (i := 11) (j := 0) (v := .ref (x + 1)) hx dX5_init_31 rfl rfl rfl (mpe 34 rfl ?_)
  refine me_a (a_iload_n dX5_init_34 rfl) (mpe 35 rfl ?_)
  refine ms_new (i := 9) (ci := 2) (k := 14) hx dX5_init_35 rfl rfl ⟨Nat.le_of_ble_eq_true rfl, Nat.le_of_ble_eq_true rfl⟩ (mpe 38 rfl ?_)
  refine me_t (s_dup dX5_init_38 rfl) (mpe 39 rfl ?_)
  refine ms_init (i := 21) (q' := q_2) (l' := [(5, [.ref (x + 1), .int 0, .int 30, .int 0]), (10, [.ref (x + 2), .ref (x + 5), .ref (x + 8), .ref (x + 11), .null, .null, .null, .null]), (2, [.int 0, .int 0, .int 0, .ref (x + 3), .ref (x + 4)]), (8, List.replicate 8 (.int 0)), (8, List.replicate 8 (.int 0)), (2, [.int 0, .int 0, .int 0, .ref (x + 6), .ref (x + 7)]), (8, List.replicate 8 (.int 0)), (8, List.replicate 8 (.int 0)), (2, [.int 0, .int 0, .int 0, .ref (x + 9), .ref (x + 10)]), (8, List.replicate 8 (.int 0)), (8, List.replicate 8 (.int 0)), (2, [.int 0, .int 0, .int 0, .ref (x + 12), .ref (x + 13)]), (8, List.replicate 8 (.int 0)), (8, List.replicate 8 (.int 0)), (2, [.int 0, .int 0, .int 0, .ref (x + 15), .ref (x + 16)]), (8, List.replicate 8 (.int 0)), (8, List.replicate 8 (.int 0))]) dX5_init_39 rfl qm_2 (by decide) rfl rfl (Nat.le_of_ble_eq_true rfl) ⟨Nat.le_of_ble_eq_true rfl, Nat.le_of_ble_eq_true rfl⟩ ((ei_2 (l := [(5, [.ref (x + 1), .int 0, .int 30, .int 0]), (10, [.ref (x + 2), .ref (x + 5), .ref (x + 8), .ref (x + 11), .null, .null, .null, .null]), (2, [.int 0, .int 0, .int 0, .ref (x + 3), .ref (x + 4)]), (8, List.replicate 8 (.int 0)), (8, List.replicate 8 (.int 0)), (2, [.int 0, .int 0, .int 0, .ref (x + 6), .ref (x + 7)]), (8, List.replicate 8 (.int 0)), (8, List.replicate 8 (.int 0)), (2, [.int 0, .int 0, .int 0, .ref (x + 9), .ref (x + 10)]), (8, List.replicate 8 (.int 0)), (8, List.replicate 8 (.int 0)), (2, [.int 0, .int 0, .int 0, .ref (x + 12), .ref (x + 13)]), (8, List.replicate 8 (.int 0)), (8, List.replicate 8 (.int 0))]) hx rfl).mono (by decide)) (mpe 42 rfl ?_)
  refine ms_aast (k := 14) (j := 1) (N := 8) (l' := [(5, [.ref (x + 1), .int 0, .int 30, .int 0]), (10, [.ref (x + 2), .ref (x + 5), .ref (x + 8), .ref (x + 11), .ref (x + 14), .null, .null, .null]), (2, [.int 0, .int 0, .int 0, .ref (x + 3), .ref (x + 4)]), (8, List.replicate 8 (.int 0)), (8, List.replicate 8 (.int 0)), (2, [.int 0, .int 0, .int 0, .ref (x + 6), .ref (x + 7)]), (8, List.replicate 8 (.int 0)), (8, List.replicate 8 (.int 0)), (2, [.int 0, .int 0, .int 0, .ref (x + 9), .ref (x + 10)]), (8, List.replicate 8 (.int 0)), (8, List.replicate 8 (.int 0)), (2, [.int 0, .int 0, .int 0, .ref (x + 12), .ref (x + 13)]), (8, List.replicate 8 (.int 0)), (8, List.replicate 8 (.int 0)), (2, [.int 0, .int 0, .int 0, .ref (x + 15), .ref (x + 16)]), (8, List.replicate 8 (.int 0)), (8, List.replicate 8 (.int 0))]) hx dX5_init_42 rfl rfl (by decide) rfl (by decide) rfl (mpe 43 rfl ?_)
  refine me_a (a_iinc (v := 5) (L' := [(1, .int 5), (0, .ref (x + 0))]) dX5_init_43 (by decide) rfl rfl rfl) (mpe 46 rfl ?_)
  refine me_a (a_goto (t := 21) dX5_init_46 (by decide)) (mpe 21 rfl ?_)
  refine me_a (a_iload_n dX5_init_21 rfl) (mpe 22 rfl ?_)
  refine me_a (a_aload_n dX5_init_22 rfl) (mpe 23 rfl ?_)
  refine ms_get (i := 11) (j := 0) (v := .ref (x + 1)) hx dX5_init_23 rfl rfl rfl (mpe 26 rfl ?_)
  refine ms_alen (j := 1) (n := 8) hx dX5_init_26 rfl (by decide) rfl (mpe 27 rfl ?_)
  refine me_Tf (t := 49) (j_icmp_ge dX5_init_27) (by decide) (by decide) (mpe 30 rfl ?_)
  refine me_a (a_aload_n dX5_init_30 rfl) (mpe 31 rfl ?_)
  refine ms_get (i := 11) (j := 0) (v := .ref (x + 1)) hx dX5_init_31 rfl rfl rfl (mpe 34 rfl ?_)
  refine me_a (a_iload_n dX5_init_34 rfl) (mpe 35 rfl ?_)
  refine ms_new (i := 9) (ci := 2) (k := 17) hx dX5_init_35 rfl rfl ⟨Nat.le_of_ble_eq_true rfl, Nat.le_of_ble_eq_true rfl⟩ (mpe 38 rfl ?_)
  refine me_t (s_dup dX5_init_38 rfl) (mpe 39 rfl ?_)
  refine ms_init (i := 21) (q' := q_2) (l' := [(5, [.ref (x + 1), .int 0, .int 30, .int 0]), (10, [.ref (x + 2), .ref (x + 5), .ref (x + 8), .ref (x + 11), .ref (x + 14), .null, .null, .null]), (2, [.int 0, .int 0, .int 0, .ref (x + 3), .ref (x + 4)]), (8, List.replicate 8 (.int 0)), (8, List.replicate 8 (.int 0)), (2, [.int 0, .int 0, .int 0, .ref (x + 6), .ref (x + 7)]), (8, List.replicate 8 (.int 0)), (8, List.replicate 8 (.int 0)), (2, [.int 0, .int 0, .int 0, .ref (x + 9), .ref (x + 10)]), (8, List.replicate 8 (.int 0)), (8, List.replicate 8 (.int 0)), (2, [.int 0, .int 0, .int 0, .ref (x + 12), .ref (x + 13)]), (8, List.replicate 8 (.int 0)), (8, List.replicate 8 (.int 0)), (2, [.int 0, .int 0, .int 0, .ref (x + 15), .ref (x + 16)]), (8, List.replicate 8 (.int 0)), (8, List.replicate 8 (.int 0)), (2, [.int 0, .int 0, .int 0, .ref (x + 18), .ref (x + 19)]), (8, List.replicate 8 (.int 0)), (8, List.replicate 8 (.int 0))]) dX5_init_39 rfl qm_2 (by decide) rfl rfl (Nat.le_of_ble_eq_true rfl) ⟨Nat.le_of_ble_eq_true rfl, Nat.le_of_ble_eq_true rfl⟩ ((ei_2 (l := [(5, [.ref (x + 1), .int 0, .int 30, .int 0]), (10, [.ref (x + 2), .ref (x + 5), .ref (x + 8), .ref (x + 11), .ref (x + 14), .null, .null, .null]), (2, [.int 0, .int 0, .int 0, .ref (x + 3), .ref (x + 4)]), (8, List.replicate 8 (.int 0)), (8, List.replicate 8 (.int 0)), (2, [.int 0, .int 0, .int 0, .ref (x + 6), .ref (x + 7)]), (8, List.replicate 8 (.int 0)), (8, List.replicate 8 (.int 0)), (2, [.int 0, .int 0, .int 0, .ref (x + 9), .ref (x + 10)]), (8, List.replicate 8 (.int 0)), (8, List.replicate 8 (.int 0)), (2, [.int 0, .int 0, .int 0, .ref (x + 12), .ref (x + 13)]), (8, List.replicate 8 (.int 0)), (8, List.replicate 8 (.int 0)), (2, [.int 0, .int 0, .int 0, .ref (x + 15), .ref (x + 16)]), (8, List.replicate 8 (.int 0)), (8, List.replicate 8 (.int 0))]) hx rfl).mono (by decide)) (mpe 42 rfl ?_)
  refine ms_aast (k := 17) (j := 1) (N := 8) (l' := [(5, [.ref (x + 1), .int 0, .int 30, .int 0]), (10, [.ref (x + 2), .ref (x + 5), .ref (x + 8), .ref (x + 11), .ref (x + 14), .ref (x + 17), .null, .null]), (2, [.int 0, .int 0, .int 0, .ref (x + 3), .ref (x + 4)]), (8, List.replicate 8 (.int 0)), (8, List.replicate 8 (.int 0)), (2, [.int 0, .int 0, .int 0, .ref (x + 6), .ref (x + 7)]), (8, List.replicate 8 (.int 0)), (8, List.replicate 8 (.int 0)), (2, [.int 0, .int 0, .int 0, .ref (x + 9), .ref (x + 10)]), (8, List.replicate 8 (.int 0)), (8, List.replicate 8 (.int 0)), (2, [.int 0, .int 0, .int 0, .ref (x + 12), .ref (x + 13)]), (8, List.replicate 8 (.int 0)), (8, List.replicate 8 (.int 0)), (2, [.int 0, .int 0, .int 0, .ref (x + 15), .ref (x + 16)]), (8, List.replicate 8 (.int 0)), (8, List.replicate 8 (.int 0)), (2, [.int 0, .int 0, .int 0, .ref (x + 18), .ref (x + 19)]), (8, List.replicate 8 (.int 0)), (8, List.replicate 8 (.int 0))]) hx dX5_init_42 rfl rfl (by decide) rfl (by decide) rfl (mpe 43 rfl ?_)
  refine me_a (a_iinc (v := 6) (L' := [(1, .int 6), (0, .ref (x + 0))]) dX5_init_43 (by decide) rfl rfl rfl) (mpe 46 rfl ?_)
  refine me_a (a_goto (t := 21) dX5_init_46 (by decide)) (mpe 21 rfl ?_)
  refine me_a (a_iload_n dX5_init_21 rfl) (mpe 22 rfl ?_)
  refine me_a (a_aload_n dX5_init_22 rfl) (mpe 23 rfl ?_)
  refine ms_get (i := 11) (j := 0) (v := .ref (x + 1)) hx dX5_init_23 rfl rfl rfl (mpe 26 rfl ?_)
  refine ms_alen (j := 1) (n := 8) hx dX5_init_26 rfl (by decide) rfl (mpe 27 rfl ?_)
  refine me_Tf (t := 49) (j_icmp_ge dX5_init_27) (by decide) (by decide) (mpe 30 rfl ?_)
  refine me_a (a_aload_n dX5_init_30 rfl) (mpe 31 rfl ?_)
  refine ms_get (i := 11) (j := 0) (v := .ref (x + 1)) hx dX5_init_31 rfl rfl rfl (mpe 34 rfl ?_)
  refine me_a (a_iload_n dX5_init_34 rfl) (mpe 35 rfl ?_)
  refine ms_new (i := 9) (ci := 2) (k := 20) hx dX5_init_35 rfl rfl ⟨Nat.le_of_ble_eq_true rfl, Nat.le_of_ble_eq_true rfl⟩ (mpe 38 rfl ?_)
  refine me_t (s_dup dX5_init_38 rfl) (mpe 39 rfl ?_)
  refine ms_init (i := 21) (q' := q_2) (l' := [(5, [.ref (x + 1), .int 0, .int 30, .int 0]), (10, [.ref (x + 2), .ref (x + 5), .ref (x + 8), .ref (x + 11), .ref (x + 14), .ref (x + 17), .null, .null]), (2, [.int 0, .int 0, .int 0, .ref (x + 3), .ref (x + 4)]), (8, List.replicate 8 (.int 0)), (8, List.replicate 8 (.int 0)), (2, [.int 0, .int 0, .int 0, .ref (x + 6), .ref (x + 7)]), (8, List.replicate 8 (.int 0)), (8, List.replicate 8 (.int 0)), (2, [.int 0, .int 0, .int 0, .ref (x + 9), .ref (x + 10)]), (8, List.replicate 8 (.int 0)), (8, List.replicate 8 (.int 0)), (2, [.int 0, .int 0, .int 0, .ref (x + 12), .ref (x + 13)]), (8, List.replicate 8 (.int 0)), (8, List.replicate 8 (.int 0)), (2, [.int 0, .int 0, .int 0, .ref (x + 15), .ref (x + 16)]), (8, List.replicate 8 (.int 0)), (8, List.replicate 8 (.int 0)), (2, [.int 0, .int 0, .int 0, .ref (x + 18), .ref (x + 19)]), (8, List.replicate 8 (.int 0)), (8, List.replicate 8 (.int 0)), (2, [.int 0, .int 0, .int 0, .ref (x + 21), .ref (x + 22)]), (8, List.replicate 8 (.int 0)), (8, List.replicate 8 (.int 0))]) dX5_init_39 rfl qm_2 (by decide) rfl rfl (Nat.le_of_ble_eq_true rfl) ⟨Nat.le_of_ble_eq_true rfl, Nat.le_of_ble_eq_true rfl⟩ ((ei_2 (l := [(5, [.ref (x + 1), .int 0, .int 30, .int 0]), (10, [.ref (x + 2), .ref (x + 5), .ref (x + 8), .ref (x + 11), .ref (x + 14), .ref (x + 17), .null, .null]), (2, [.int 0, .int 0, .int 0, .ref (x + 3), .ref (x + 4)]), (8, List.replicate 8 (.int 0)), (8, List.replicate 8 (.int 0)), (2, [.int 0, .int 0, .int 0, .ref (x + 6), .ref (x + 7)]), (8, List.replicate 8 (.int 0)), (8, List.replicate 8 (.int 0)), (2, [.int 0, .int 0, .int 0, .ref (x + 9), .ref (x + 10)]), (8, List.replicate 8 (.int 0)), (8, List.replicate 8 (.int 0)), (2, [.int 0, .int 0, .int 0, .ref (x + 12), .ref (x + 13)]), (8, List.replicate 8 (.int 0)), (8, List.replicate 8 (.int 0)), (2, [.int 0, .int 0, .int 0, .ref (x + 15), .ref (x + 16)]), (8, List.replicate 8 (.int 0)), (8, List.replicate 8 (.int 0)), (2, [.int 0, .int 0, .int 0, .ref (x + 18), .ref (x + 19)]), (8, List.replicate 8 (.int 0)), (8, List.replicate 8 (.int 0))]) hx rfl).mono (by decide)) (mpe 42 rfl ?_)
  refine ms_aast (k := 20) (j := 1) (N := 8) (l' := [(5, [.ref (x + 1), .int 0, .int 30, .int 0]), (10, [.ref (x + 2), .ref (x + 5), .ref (x + 8), .ref (x + 11), .ref (x + 14), .ref (x + 17), .ref (x + 20), .null]), (2, [.int 0, .int 0, .int 0, .ref (x + 3), .ref (x + 4)]), (8, List.replicate 8 (.int 0)), (8, List.replicate 8 (.int 0)), (2, [.int 0, .int 0, .int 0, .ref (x + 6), .ref (x + 7)]), (8, List.replicate 8 (.int 0)), (8, List.replicate 8 (.int 0)), (2, [.int 0, .int 0, .int 0, .ref (x + 9), .ref (x + 10)]), (8, List.replicate 8 (.int 0)), (8, List.replicate 8 (.int 0)), (2, [.int 0, .int 0, .int 0, .ref (x + 12), .ref (x + 13)]), (8, List.replicate 8 (.int 0)), (8, List.replicate 8 (.int 0)), (2, [.int 0, .int 0, .int 0, .ref (x + 15), .ref (x + 16)]), (8, List.replicate 8 (.int 0)), (8, List.replicate 8 (.int 0)), (2, [.int 0, .int 0, .int 0, .ref (x + 18), .ref (x + 19)]), (8, List.replicate 8 (.int 0)), (8, List.replicate 8 (.int 0)), (2, [.int 0, .int 0, .int 0, .ref (x + 21), .ref (x + 22)]), (8, List.replicate 8 (.int 0)), (8, List.replicate 8 (.int 0))]) hx dX5_init_42 rfl rfl (by decide) rfl (by decide) rfl (mpe 43 rfl ?_)
  refine me_a (a_iinc (v := 7) (L' := [(1, .int 7), (0, .ref (x + 0))]) dX5_init_43 (by decide) rfl rfl rfl) (mpe 46 rfl ?_)
  refine me_a (a_goto (t := 21) dX5_init_46 (by decide)) (mpe 21 rfl ?_)
  refine me_a (a_iload_n dX5_init_21 rfl) (mpe 22 rfl ?_)
  refine me_a (a_aload_n dX5_init_22 rfl) (mpe 23 rfl ?_)
  refine ms_get (i := 11) (j := 0) (v := .ref (x + 1)) hx dX5_init_23 rfl rfl rfl (mpe 26 rfl ?_)
  refine ms_alen (j := 1) (n := 8) hx dX5_init_26 rfl (by decide) rfl (mpe 27 rfl ?_)
  refine me_Tf (t := 49) (j_icmp_ge dX5_init_27) (by decide) (by decide) (mpe 30 rfl ?_)
  refine me_a (a_aload_n dX5_init_30 rfl) (mpe 31 rfl ?_)
  refine ms_get (i := 11) (j := 0) (v := .ref (x + 1)) hx dX5_init_31 rfl rfl rfl (mpe 34 rfl ?_)
  refine me_a (a_iload_n dX5_init_34 rfl) (mpe 35 rfl ?_)
  refine ms_new (i := 9) (ci := 2) (k := 23) hx dX5_init_35 rfl rfl ⟨Nat.le_of_ble_eq_true rfl, Nat.le_of_ble_eq_true rfl⟩ (mpe 38 rfl ?_)
  refine me_t (s_dup dX5_init_38 rfl) (mpe 39 rfl ?_)
  refine ms_init (i := 21) (q' := q_2) (l' := [(5, [.ref (x + 1), .int 0, .int 30, .int 0]), (10, [.ref (x + 2), .ref (x + 5), .ref (x + 8), .ref (x + 11), .ref (x + 14), .ref (x + 17), .ref (x + 20), .null]), (2, [.int 0, .int 0, .int 0, .ref (x + 3), .ref (x + 4)]), (8, List.replicate 8 (.int 0)), (8, List.replicate 8 (.int 0)), (2, [.int 0, .int 0, .int 0, .ref (x + 6), .ref (x + 7)]), (8, List.replicate 8 (.int 0)), (8, List.replicate 8 (.int 0)), (2, [.int 0, .int 0, .int 0, .ref (x + 9), .ref (x + 10)]), (8, List.replicate 8 (.int 0)), (8, List.replicate 8 (.int 0)), (2, [.int 0, .int 0, .int 0, .ref (x + 12), .ref (x + 13)]), (8, List.replicate 8 (.int 0)), (8, List.replicate 8 (.int 0)), (2, [.int 0, .int 0, .int 0, .ref (x + 15), .ref (x + 16)]), (8, List.replicate 8 (.int 0)), (8, List.replicate 8 (.int 0)), (2, [.int 0, .int 0, .int 0, .ref (x + 18), .ref (x + 19)]), (8, List.replicate 8 (.int 0)), (8, List.replicate 8 (.int 0)), (2, [.int 0, .int 0, .int 0, .ref (x + 21), .ref (x + 22)]), (8, List.replicate 8 (.int 0)), (8, List.replicate 8 (.int 0)), (2, [.int 0, .int 0, .int 0, .ref (x + 24), .ref (x + 25)]), (8, List.replicate 8 (.int 0)), (8, List.replicate 8 (.int 0))]) dX5_init_39 rfl qm_2 (by decide) rfl rfl (Nat.le_of_ble_eq_true rfl) ⟨Nat.le_of_ble_eq_true rfl, Nat.le_of_ble_eq_true rfl⟩ ((ei_2 (l := [(5, [.ref (x + 1), .int 0, .int 30, .int 0]), (10, [.ref (x + 2), .ref (x + 5), .ref (x + 8), .ref (x + 11), .ref (x + 14), .ref (x + 17), .ref (x + 20), .null]), (2, [.int 0, .int 0, .int 0, .ref (x + 3), .ref (x + 4)]), (8, List.replicate 8 (.int 0)), (8, List.replicate 8 (.int 0)), (2, [.int 0, .int 0, .int 0, .ref (x + 6), .ref (x + 7)]), (8, List.replicate 8 (.int 0)), (8, List.replicate 8 (.int 0)), (2, [.int 0, .int 0, .int 0, .ref (x + 9), .ref (x + 10)]), (8, List.replicate 8 (.int 0)), (8, List.replicate 8 (.int 0)), (2, [.int 0, .int 0, .int 0, .ref (x + 12), .ref (x + 13)]), (8, List.replicate 8 (.int 0)), (8, List.replicate 8 (.int 0)), (2, [.int 0, .int 0, .int 0, .ref (x + 15), .ref (x + 16)]), (8, List.replicate 8 (.int 0)), (8, List.replicate 8 (.int 0)), (2, [.int 0, .int 0, .int 0, .ref (x + 18), .ref (x + 19)]), (8, List.replicate 8 (.int 0)), (8, List.replicate 8 (.int 0)), (2, [.int 0, .int 0, .int 0, .ref (x + 21), .ref (x + 22)]), (8, List.replicate 8 (.int 0)), (8, List.replicate 8 (.int 0))]) hx rfl).mono (by decide)) (mpe 42 rfl ?_)
  refine ms_aast (k := 23) (j := 1) (N := 8) (l' := [(5, [.ref (x + 1), .int 0, .int 30, .int 0]), (10, [.ref (x + 2), .ref (x + 5), .ref (x + 8), .ref (x + 11), .ref (x + 14), .ref (x + 17), .ref (x + 20), .ref (x + 23)]), (2, [.int 0, .int 0, .int 0, .ref (x + 3), .ref (x + 4)]), (8, List.replicate 8 (.int 0)), (8, List.replicate 8 (.int 0)), (2, [.int 0, .int 0, .int 0, .ref (x + 6), .ref (x + 7)]), (8, List.replicate 8 (.int 0)), (8, List.replicate 8 (.int 0)), (2, [.int 0, .int 0, .int 0, .ref (x + 9), .ref (x + 10)]), (8, List.replicate 8 (.int 0)), (8, List.replicate 8 (.int 0)), (2, [.int 0, .int 0, .int 0, .ref (x + 12), .ref (x + 13)]), (8, List.replicate 8 (.int 0)), (8, List.replicate 8 (.int 0)), (2, [.int 0, .int 0, .int 0, .ref (x + 15), .ref (x + 16)]), (8, List.replicate 8 (.int 0)), (8, List.replicate 8 (.int 0)), (2, [.int 0, .int 0, .int 0, .ref (x + 18), .ref (x + 19)]), (8, List.replicate 8 (.int 0)), (8, List.replicate 8 (.int 0)), (2, [.int 0, .int 0, .int 0, .ref (x + 21), .ref (x + 22)]), (8, List.replicate 8 (.int 0)), (8, List.replicate 8 (.int 0)), (2, [.int 0, .int 0, .int 0, .ref (x + 24), .ref (x + 25)]), (8, List.replicate 8 (.int 0)), (8, List.replicate 8 (.int 0))]) hx dX5_init_42 rfl rfl (by decide) rfl (by decide) rfl (mpe 43 rfl ?_)
  refine me_a (a_iinc (v := 8) (L' := [(1, .int 8), (0, .ref (x + 0))]) dX5_init_43 (by decide) rfl rfl rfl) (mpe 46 rfl ?_)
  refine me_a (a_goto (t := 21) dX5_init_46 (by decide)) (mpe 21 rfl ?_)
  refine me_a (a_iload_n dX5_init_21 rfl) (mpe 22 rfl ?_)
  refine me_a (a_aload_n dX5_init_22 rfl) (mpe 23 rfl ?_)
  refine ms_get (i := 11) (j := 0) (v := .ref (x + 1)) hx dX5_init_23 rfl rfl rfl (mpe 26 rfl ?_)
  refine ms_alen (j := 1) (n := 8) hx dX5_init_26 rfl (by decide) rfl (mpe 27 rfl ?_)
  refine me_Tt (t := 49) (j_icmp_ge dX5_init_27) (by decide) (by decide) (mpe 49 rfl ?_)
  exact ms_ret dX5_init_49 rfl rfl
theorem ei_1 {X l : mP} {x k : Nat} (hx : X.length = x) (hk : l.length = k) : Ev 2 1 [.ref (x + k)] (X ++ (l ++ [(5, mdef 5)])) none (X ++ (l ++ rState (x + k))) := by
  have h := ec_1 (X := X ++ l) (x := x + k) (by rw [List.length_append, hx, hk])
  rw [List.append_assoc, List.append_assoc] at h
  exact h
def q_3 : mQ := (yX0_init, cX0_init, 2, none, 0, 0, 209, 1448)
theorem qm_3 : mtL[3]? = some q_3 := rfl

def rHist (x : Nat) : mP := [(0, [.ref (x + 1), .int 0, .int 0, .int 0]), (11, [.ref (x + 2), .ref (x + 28), .ref (x + 54), .ref (x + 80), .ref (x + 106), .ref (x + 132), .ref (x + 158), .ref (x + 184)])] ++ rState (x + 2) ++ rState (x + 28) ++ rState (x + 54) ++ rState (x + 80) ++ rState (x + 106) ++ rState (x + 132) ++ rState (x + 158) ++ rState (x + 184)
set_option maxRecDepth 100000 in
set_option maxHeartbeats 4000000 in
theorem ec_3 {X : mP} {x : Nat} (hx : X.length = x) : Ev 3 3 [.ref (x + 0)] (X ++ [(0, mdef 0)]) none (X ++ rHist x) := by
  refine Ev.of qm_3 (Nat.le_of_ble_eq_true rfl) rfl ?_
  show MEv _ none q_3 0 [(0, .ref (x + 0))] [] _ 0 0 none _
  refine me_a (a_aload_n dX0_init_0 rfl) (mpe 1 rfl ?_)
  refine me_obj (i := 3) (k := 0) dX0_init_1 rfl (Nat.le_of_ble_eq_true rfl) rfl ⟨Nat.le_of_ble_eq_true rfl, Nat.le_of_ble_eq_true rfl⟩ (mpe 4 rfl ?_)
  refine me_a (a_aload_n dX0_init_4 rfl) (mpe 5 rfl ?_)
  refine me_a (a_bipush (v := 8) dX0_init_5 rfl) (mpe 7 rfl ?_)
  refine ms_anew (i := 9) (kd := 11) (ci := 5) (k := 1) (N := 8) hx dX0_init_7 rfl (by decide) (by decide) rfl (by decide) rfl ⟨Nat.le_of_ble_eq_true rfl, Nat.le_of_ble_eq_true rfl⟩ (mpe 10 rfl ?_)
  refine ms_put (i := 11) (j := 0) (l' := [(0, [.ref (x + 1), .int 0, .int 0, .int 0]), (11, [.null, .null, .null, .null, .null, .null, .null, .null])]) hx dX0_init_10 rfl rfl (Nat.le_of_ble_eq_true rfl) rfl (Or.inr ⟨rfl, rfl, rfl⟩) rfl (mpe 13 rfl ?_)
  refine me_a (a_iconst (v := 0) dX0_init_13 rfl) (mpe 14 rfl ?_)
  refine me_a (a_istore_n (L' := [(1, .int 0), (0, .ref (x + 0))]) dX0_init_14 (by decide) rfl) (mpe 15 rfl ?_)
  refine me_a (a_iload_n dX0_init_15 rfl) (mpe 16 rfl ?_)
  refine me_a (a_aload_n dX0_init_16 rfl) (mpe 17 rfl ?_)
  refine ms_get (i := 11) (j := 0) (v := .ref (x + 1)) hx dX0_init_17 rfl rfl rfl (mpe 20 rfl ?_)
  refine ms_alen (j := 1) (n := 8) hx dX0_init_20 rfl (by decide) rfl (mpe 21 rfl ?_)
  refine me_Tf (t := 43) (j_icmp_ge dX0_init_21) (by decide) (by decide) (mpe 24 rfl ?_)
  refine me_a (a_aload_n dX0_init_24 rfl) (mpe 25 rfl ?_)
  refine ms_get (i := 11) (j := 0) (v := .ref (x + 1)) hx dX0_init_25 rfl rfl rfl (mpe 28 rfl ?_)
  refine me_a (a_iload_n dX0_init_28 rfl) (mpe 29 rfl ?_)
  refine ms_new (i := 9) (ci := 5) (k := 2) hx dX0_init_29 rfl rfl ⟨Nat.le_of_ble_eq_true rfl, Nat.le_of_ble_eq_true rfl⟩ (mpe 32 rfl ?_)
  refine me_t (s_dup dX0_init_32 rfl) (mpe 33 rfl ?_)
  refine ms_init (i := 17) (q' := q_1) (l' := [(0, [.ref (x + 1), .int 0, .int 0, .int 0]), (11, [.null, .null, .null, .null, .null, .null, .null, .null])] ++ rState (x + 2)) dX0_init_33 rfl qm_1 (by decide) rfl rfl (Nat.le_of_ble_eq_true rfl) ⟨Nat.le_of_ble_eq_true rfl, Nat.le_of_ble_eq_true rfl⟩ ((ei_1 (l := [(0, [.ref (x + 1), .int 0, .int 0, .int 0]), (11, [.null, .null, .null, .null, .null, .null, .null, .null])]) hx rfl).mono (by decide)) (mpe 36 rfl ?_)
  refine ms_aast (k := 2) (j := 1) (N := 8) (l' := [(0, [.ref (x + 1), .int 0, .int 0, .int 0]), (11, [.ref (x + 2), .null, .null, .null, .null, .null, .null, .null])] ++ rState (x + 2)) hx dX0_init_36 rfl rfl (by decide) rfl (by decide) rfl (mpe 37 rfl ?_)
  refine me_a (a_iinc (v := 1) (L' := [(1, .int 1), (0, .ref (x + 0))]) dX0_init_37 (by decide) rfl rfl rfl) (mpe 40 rfl ?_)
  refine me_a (a_goto (t := 15) dX0_init_40 (by decide)) (mpe 15 rfl ?_)
  refine me_a (a_iload_n dX0_init_15 rfl) (mpe 16 rfl ?_)
  refine me_a (a_aload_n dX0_init_16 rfl) (mpe 17 rfl ?_)
  refine ms_get (i := 11) (j := 0) (v := .ref (x + 1)) hx dX0_init_17 rfl rfl rfl (mpe 20 rfl ?_)
  refine ms_alen (j := 1) (n := 8) hx dX0_init_20 rfl (by decide) rfl (mpe 21 rfl ?_)
  refine me_Tf (t := 43) (j_icmp_ge dX0_init_21) (by decide) (by decide) (mpe 24 rfl ?_)
  refine me_a (a_aload_n dX0_init_24 rfl) (mpe 25 rfl ?_)
  refine ms_get (i := 11) (j := 0) (v := .ref (x + 1)) hx dX0_init_25 rfl rfl rfl (mpe 28 rfl ?_)
  refine me_a (a_iload_n dX0_init_28 rfl) (mpe 29 rfl ?_)
  refine ms_new (i := 9) (ci := 5) (k := 28) hx dX0_init_29 rfl rfl ⟨Nat.le_of_ble_eq_true rfl, Nat.le_of_ble_eq_true rfl⟩ (mpe 32 rfl ?_)
  refine me_t (s_dup dX0_init_32 rfl) (mpe 33 rfl ?_)
  refine ms_init (i := 17) (q' := q_1) (l' := [(0, [.ref (x + 1), .int 0, .int 0, .int 0]), (11, [.ref (x + 2), .null, .null, .null, .null, .null, .null, .null])] ++ rState (x + 2) ++ rState (x + 28)) dX0_init_33 rfl qm_1 (by decide) rfl rfl (Nat.le_of_ble_eq_true rfl) ⟨Nat.le_of_ble_eq_true rfl, Nat.le_of_ble_eq_true rfl⟩ ((ei_1 (l := [(0, [.ref (x + 1), .int 0, .int 0, .int 0]), (11, [.ref (x + 2), .null, .null, .null, .null, .null, .null, .null])] ++ rState (x + 2)) hx rfl).mono (by decide)) (mpe 36 rfl ?_)
  refine ms_aast (k := 28) (j := 1) (N := 8) (l' := [(0, [.ref (x + 1), .int 0, .int 0, .int 0]), (11, [.ref (x + 2), .ref (x + 28), .null, .null, .null, .null, .null, .null])] ++ rState (x + 2) ++ rState (x + 28)) hx dX0_init_36 rfl rfl (by decide) rfl (by decide) rfl (mpe 37 rfl ?_)
  refine me_a (a_iinc (v := 2) (L' := [(1, .int 2), (0, .ref (x + 0))]) dX0_init_37 (by decide) rfl rfl rfl) (mpe 40 rfl ?_)
  refine me_a (a_goto (t := 15) dX0_init_40 (by decide)) (mpe 15 rfl ?_)
  refine me_a (a_iload_n dX0_init_15 rfl) (mpe 16 rfl ?_)
  refine me_a (a_aload_n dX0_init_16 rfl) (mpe 17 rfl ?_)
  refine ms_get (i := 11) (j := 0) (v := .ref (x + 1)) hx dX0_init_17 rfl rfl rfl (mpe 20 rfl ?_)
  refine ms_alen (j := 1) (n := 8) hx dX0_init_20 rfl (by decide) rfl (mpe 21 rfl ?_)
  refine me_Tf (t := 43) (j_icmp_ge dX0_init_21) (by decide) (by decide) (mpe 24 rfl ?_)
  refine me_a (a_aload_n dX0_init_24 rfl) (mpe 25 rfl ?_)
  refine ms_get (i := 11) (j := 0) (v := .ref (x + 1)) hx dX0_init_25 rfl rfl rfl (mpe 28 rfl ?_)
  refine me_a (a_iload_n dX0_init_28 rfl) (mpe 29 rfl ?_)
  refine ms_new (i := 9) (ci := 5) (k := 54) hx dX0_init_29 rfl rfl ⟨Nat.le_of_ble_eq_true rfl, Nat.le_of_ble_eq_true rfl⟩ (mpe 32 rfl ?_)
  refine me_t (s_dup dX0_init_32 rfl) (mpe 33 rfl ?_)
  refine ms_init (i := 17) (q' := q_1) (l' := [(0, [.ref (x + 1), .int 0, .int 0, .int 0]), (11, [.ref (x + 2), .ref (x + 28), .null, .null, .null, .null, .null, .null])] ++ rState (x + 2) ++ rState (x + 28) ++ rState (x + 54)) dX0_init_33 rfl qm_1 (by decide) rfl rfl (Nat.le_of_ble_eq_true rfl) ⟨Nat.le_of_ble_eq_true rfl, Nat.le_of_ble_eq_true rfl⟩ ((ei_1 (l := [(0, [.ref (x + 1), .int 0, .int 0, .int 0]), (11, [.ref (x + 2), .ref (x + 28), .null, .null, .null, .null, .null, .null])] ++ rState (x + 2) ++ rState (x + 28)) hx rfl).mono (by decide)) (mpe 36 rfl ?_)
  refine ms_aast (k := 54) (j := 1) (N := 8) (l' := [(0, [.ref (x + 1), .int 0, .int 0, .int 0]), (11, [.ref (x + 2), .ref (x + 28), .ref (x + 54), .null, .null, .null, .null, .null])] ++ rState (x + 2) ++ rState (x + 28) ++ rState (x + 54)) hx dX0_init_36 rfl rfl (by decide) rfl (by decide) rfl (mpe 37 rfl ?_)
  refine me_a (a_iinc (v := 3) (L' := [(1, .int 3), (0, .ref (x + 0))]) dX0_init_37 (by decide) rfl rfl rfl) (mpe 40 rfl ?_)
  refine me_a (a_goto (t := 15) dX0_init_40 (by decide)) (mpe 15 rfl ?_)
  refine me_a (a_iload_n dX0_init_15 rfl) (mpe 16 rfl ?_)
  refine me_a (a_aload_n dX0_init_16 rfl) (mpe 17 rfl ?_)
  refine ms_get (i := 11) (j := 0) (v := .ref (x + 1)) hx dX0_init_17 rfl rfl rfl (mpe 20 rfl ?_)
  refine ms_alen (j := 1) (n := 8) hx dX0_init_20 rfl (by decide) rfl (mpe 21 rfl ?_)
  refine me_Tf (t := 43) (j_icmp_ge dX0_init_21) (by decide) (by decide) (mpe 24 rfl ?_)
  refine me_a (a_aload_n dX0_init_24 rfl) (mpe 25 rfl ?_)
  refine ms_get (i := 11) (j := 0) (v := .ref (x + 1)) hx dX0_init_25 rfl rfl rfl (mpe 28 rfl ?_)
  refine me_a (a_iload_n dX0_init_28 rfl) (mpe 29 rfl ?_)
  refine ms_new (i := 9) (ci := 5) (k := 80) hx dX0_init_29 rfl rfl ⟨Nat.le_of_ble_eq_true rfl, Nat.le_of_ble_eq_true rfl⟩ (mpe 32 rfl ?_)
  refine me_t (s_dup dX0_init_32 rfl) (mpe 33 rfl ?_)
  refine ms_init (i := 17) (q' := q_1) (l' := [(0, [.ref (x + 1), .int 0, .int 0, .int 0]), (11, [.ref (x + 2), .ref (x + 28), .ref (x + 54), .null, .null, .null, .null, .null])] ++ rState (x + 2) ++ rState (x + 28) ++ rState (x + 54) ++ rState (x + 80)) dX0_init_33 rfl qm_1 (by decide) rfl rfl (Nat.le_of_ble_eq_true rfl) ⟨Nat.le_of_ble_eq_true rfl, Nat.le_of_ble_eq_true rfl⟩ ((ei_1 (l := [(0, [.ref (x + 1), .int 0, .int 0, .int 0]), (11, [.ref (x + 2), .ref (x + 28), .ref (x + 54), .null, .null, .null, .null, .null])] ++ rState (x + 2) ++ rState (x + 28) ++ rState (x + 54)) hx rfl).mono (by decide)) (mpe 36 rfl ?_)
  refine ms_aast (k := 80) (j := 1) (N := 8) (l' := [(0, [.ref (x + 1), .int 0, .int 0, .int 0]), (11, [.ref (x + 2), .ref (x + 28), .ref (x + 54), .ref (x + 80), .null, .null, .null, .null])] ++ rState (x + 2) ++ rState (x + 28) ++ rState (x + 54) ++ rState (x + 80)) hx dX0_init_36 rfl rfl (by decide) rfl (by decide) rfl (mpe 37 rfl ?_)
  refine me_a (a_iinc (v := 4) (L' := [(1, .int 4), (0, .ref (x + 0))]) dX0_init_37 (by decide) rfl rfl rfl) (mpe 40 rfl ?_)
  refine me_a (a_goto (t := 15) dX0_init_40 (by decide)) (mpe 15 rfl ?_)
  refine me_a (a_iload_n dX0_init_15 rfl) (mpe 16 rfl ?_)
  refine me_a (a_aload_n dX0_init_16 rfl) (mpe 17 rfl ?_)
  refine ms_get (i := 11) (j := 0) (v := .ref (x + 1)) hx dX0_init_17 rfl rfl rfl (mpe 20 rfl ?_)
  refine ms_alen (j := 1) (n := 8) hx dX0_init_20 rfl (by decide) rfl (mpe 21 rfl ?_)
  refine me_Tf (t := 43) (j_icmp_ge dX0_init_21) (by decide) (by decide) (mpe 24 rfl ?_)
  refine me_a (a_aload_n dX0_init_24 rfl) (mpe 25 rfl ?_)
  refine ms_get (i := 11) (j := 0) (v := .ref (x + 1)) hx dX0_init_25 rfl rfl rfl (mpe 28 rfl ?_)
  refine me_a (a_iload_n dX0_init_28 rfl) (mpe 29 rfl ?_)
  refine ms_new (i := 9) (ci := 5) (k := 106) hx dX0_init_29 rfl rfl ⟨Nat.le_of_ble_eq_true rfl, Nat.le_of_ble_eq_true rfl⟩ (mpe 32 rfl ?_)
  refine me_t (s_dup dX0_init_32 rfl) (mpe 33 rfl ?_)
  refine ms_init (i := 17) (q' := q_1) (l' := [(0, [.ref (x + 1), .int 0, .int 0, .int 0]), (11, [.ref (x + 2), .ref (x + 28), .ref (x + 54), .ref (x + 80), .null, .null, .null, .null])] ++ rState (x + 2) ++ rState (x + 28) ++ rState (x + 54) ++ rState (x + 80) ++ rState (x + 106)) dX0_init_33 rfl qm_1 (by decide) rfl rfl (Nat.le_of_ble_eq_true rfl) ⟨Nat.le_of_ble_eq_true rfl, Nat.le_of_ble_eq_true rfl⟩ ((ei_1 (l := [(0, [.ref (x + 1), .int 0, .int 0, .int 0]), (11, [.ref (x + 2), .ref (x + 28), .ref (x + 54), .ref (x + 80), .null, .null, .null, .null])] ++ rState (x + 2) ++ rState (x + 28) ++ rState (x + 54) ++ rState (x + 80)) hx rfl).mono (by decide)) (mpe 36 rfl ?_)
  refine ms_aast (k := 106) (j := 1) (N := 8) (l' := [(0, [.ref (x + 1), .int 0, .int 0, .int 0]), (11, [.ref (x + 2), .ref (x + 28), .ref (x + 54), .ref (x + 80), .ref (x + 106), .null, .null, .null])] ++ rState (x + 2) ++ rState (x + 28) ++ rState (x + 54) ++ rState (x + 80) ++ rState (x + 106)) hx dX0_init_36 rfl rfl (by decide) rfl (by decide) rfl (mpe 37 rfl ?_)
  refine me_a (a_iinc (v := 5) (L' := [(1, .int 5), (0, .ref (x + 0))]) dX0_init_37 (by decide) rfl rfl rfl) (mpe 40 rfl ?_)
  refine me_a (a_goto (t := 15) dX0_init_40 (by decide)) (mpe 15 rfl ?_)
  refine me_a (a_iload_n dX0_init_15 rfl) (mpe 16 rfl ?_)
  refine me_a (a_aload_n dX0_init_16 rfl) (mpe 17 rfl ?_)
  refine ms_get (i := 11) (j := 0) (v := .ref (x + 1)) hx dX0_init_17 rfl rfl rfl (mpe 20 rfl ?_)
  refine ms_alen (j := 1) (n := 8) hx dX0_init_20 rfl (by decide) rfl (mpe 21 rfl ?_)
  refine me_Tf (t := 43) (j_icmp_ge dX0_init_21) (by decide) (by decide) (mpe 24 rfl ?_)
  refine me_a (a_aload_n dX0_init_24 rfl) (mpe 25 rfl ?_)
  refine ms_get (i := 11) (j := 0) (v := .ref (x + 1)) hx dX0_init_25 rfl rfl rfl (mpe 28 rfl ?_)
  refine me_a (a_iload_n dX0_init_28 rfl) (mpe 29 rfl ?_)
  refine ms_new (i := 9) (ci := 5) (k := 132) hx dX0_init_29 rfl rfl ⟨Nat.le_of_ble_eq_true rfl, Nat.le_of_ble_eq_true rfl⟩ (mpe 32 rfl ?_)
  refine me_t (s_dup dX0_init_32 rfl) (mpe 33 rfl ?_)
  refine ms_init (i := 17) (q' := q_1) (l' := [(0, [.ref (x + 1), .int 0, .int 0, .int 0]), (11, [.ref (x + 2), .ref (x + 28), .ref (x + 54), .ref (x + 80), .ref (x + 106), .null, .null, .null])] ++ rState (x + 2) ++ rState (x + 28) ++ rState (x + 54) ++ rState (x + 80) ++ rState (x + 106) ++ rState (x + 132)) dX0_init_33 rfl qm_1 (by decide) rfl rfl (Nat.le_of_ble_eq_true rfl) ⟨Nat.le_of_ble_eq_true rfl, Nat.le_of_ble_eq_true rfl⟩ ((ei_1 (l := [(0, [.ref (x + 1), .int 0, .int 0, .int 0]), (11, [.ref (x + 2), .ref (x + 28), .ref (x + 54), .ref (x + 80), .ref (x + 106), .null, .null, .null])] ++ rState (x + 2) ++ rState (x + 28) ++ rState (x + 54) ++ rState (x + 80) ++ rState (x + 106)) hx rfl).mono (by decide)) (mpe 36 rfl ?_)
  refine ms_aast (k := 132) (j := 1) (N := 8) (l' := [(0, [.ref (x + 1), .int 0, .int 0, .int 0]), (11, [.ref (x + 2), .ref (x + 28), .ref (x + 54), .ref (x + 80), .ref (x + 106), .ref (x + 132), .null, .null])] ++ rState (x + 2) ++ rState (x + 28) ++ rState (x + 54) ++ rState (x + 80) ++ rState (x + 106) ++ rState (x + 132)) hx dX0_init_36 rfl rfl (by decide) rfl (by decide) rfl (mpe 37 rfl ?_)
  refine me_a (a_iinc (v := 6) (L' := [(1, .int 6), (0, .ref (x + 0))]) dX0_init_37 (by decide) rfl rfl rfl) (mpe 40 rfl ?_)
  refine me_a (a_goto (t := 15) dX0_init_40 (by decide)) (mpe 15 rfl ?_)
  refine me_a (a_iload_n dX0_init_15 rfl) (mpe 16 rfl ?_)
  refine me_a (a_aload_n dX0_init_16 rfl) (mpe 17 rfl ?_)
  refine ms_get (i := 11) (j := 0) (v := .ref (x + 1)) hx dX0_init_17 rfl rfl rfl (mpe 20 rfl ?_)
  refine ms_alen (j := 1) (n := 8) hx dX0_init_20 rfl (by decide) rfl (mpe 21 rfl ?_)
  refine me_Tf (t := 43) (j_icmp_ge dX0_init_21) (by decide) (by decide) (mpe 24 rfl ?_)
  refine me_a (a_aload_n dX0_init_24 rfl) (mpe 25 rfl ?_)
  refine ms_get (i := 11) (j := 0) (v := .ref (x + 1)) hx dX0_init_25 rfl rfl rfl (mpe 28 rfl ?_)
  refine me_a (a_iload_n dX0_init_28 rfl) (mpe 29 rfl ?_)
  refine ms_new (i := 9) (ci := 5) (k := 158) hx dX0_init_29 rfl rfl ⟨Nat.le_of_ble_eq_true rfl, Nat.le_of_ble_eq_true rfl⟩ (mpe 32 rfl ?_)
  refine me_t (s_dup dX0_init_32 rfl) (mpe 33 rfl ?_)
  refine ms_init (i := 17) (q' := q_1) (l' := [(0, [.ref (x + 1), .int 0, .int 0, .int 0]), (11, [.ref (x + 2), .ref (x + 28), .ref (x + 54), .ref (x + 80), .ref (x + 106), .ref (x + 132), .null, .null])] ++ rState (x + 2) ++ rState (x + 28) ++ rState (x + 54) ++ rState (x + 80) ++ rState (x + 106) ++ rState (x + 132) ++ rState (x + 158)) dX0_init_33 rfl qm_1 (by decide) rfl rfl (Nat.le_of_ble_eq_true rfl) ⟨Nat.le_of_ble_eq_true rfl, Nat.le_of_ble_eq_true rfl⟩ ((ei_1 (l := [(0, [.ref (x + 1), .int 0, .int 0, .int 0]), (11, [.ref (x + 2), .ref (x + 28), .ref (x + 54), .ref (x + 80), .ref (x + 106), .ref (x + 132), .null, .null])] ++ rState (x + 2) ++ rState (x + 28) ++ rState (x + 54) ++ rState (x + 80) ++ rState (x + 106) ++ rState (x + 132)) hx rfl).mono (by decide)) (mpe 36 rfl ?_)
  refine ms_aast (k := 158) (j := 1) (N := 8) (l' := [(0, [.ref (x + 1), .int 0, .int 0, .int 0]), (11, [.ref (x + 2), .ref (x + 28), .ref (x + 54), .ref (x + 80), .ref (x + 106), .ref (x + 132), .ref (x + 158), .null])] ++ rState (x + 2) ++ rState (x + 28) ++ rState (x + 54) ++ rState (x + 80) ++ rState (x + 106) ++ rState (x + 132) ++ rState (x + 158)) hx dX0_init_36 rfl rfl (by decide) rfl (by decide) rfl (mpe 37 rfl ?_)
  refine me_a (a_iinc (v := 7) (L' := [(1, .int 7), (0, .ref (x + 0))]) dX0_init_37 (by decide) rfl rfl rfl) (mpe 40 rfl ?_)
  refine me_a (a_goto (t := 15) dX0_init_40 (by decide)) (mpe 15 rfl ?_)
  refine me_a (a_iload_n dX0_init_15 rfl) (mpe 16 rfl ?_)
  refine me_a (a_aload_n dX0_init_16 rfl) (mpe 17 rfl ?_)
  refine ms_get (i := 11) (j := 0) (v := .ref (x + 1)) hx dX0_init_17 rfl rfl rfl (mpe 20 rfl ?_)
  refine ms_alen (j := 1) (n := 8) hx dX0_init_20 rfl (by decide) rfl (mpe 21 rfl ?_)
  refine me_Tf (t := 43) (j_icmp_ge dX0_init_21) (by decide) (by decide) (mpe 24 rfl ?_)
  refine me_a (a_aload_n dX0_init_24 rfl) (mpe 25 rfl ?_)
  refine ms_get (i := 11) (j := 0) (v := .ref (x + 1)) hx dX0_init_25 rfl rfl rfl (mpe 28 rfl ?_)
  refine me_a (a_iload_n dX0_init_28 rfl) (mpe 29 rfl ?_)
  refine ms_new (i := 9) (ci := 5) (k := 184) hx dX0_init_29 rfl rfl ⟨Nat.le_of_ble_eq_true rfl, Nat.le_of_ble_eq_true rfl⟩ (mpe 32 rfl ?_)
  refine me_t (s_dup dX0_init_32 rfl) (mpe 33 rfl ?_)
  refine ms_init (i := 17) (q' := q_1) (l' := [(0, [.ref (x + 1), .int 0, .int 0, .int 0]), (11, [.ref (x + 2), .ref (x + 28), .ref (x + 54), .ref (x + 80), .ref (x + 106), .ref (x + 132), .ref (x + 158), .null])] ++ rState (x + 2) ++ rState (x + 28) ++ rState (x + 54) ++ rState (x + 80) ++ rState (x + 106) ++ rState (x + 132) ++ rState (x + 158) ++ rState (x + 184)) dX0_init_33 rfl qm_1 (by decide) rfl rfl (Nat.le_of_ble_eq_true rfl) ⟨Nat.le_of_ble_eq_true rfl, Nat.le_of_ble_eq_true rfl⟩ ((ei_1 (l := [(0, [.ref (x + 1), .int 0, .int 0, .int 0]), (11, [.ref (x + 2), .ref (x + 28), .ref (x + 54), .ref (x + 80), .ref (x + 106), .ref (x + 132), .ref (x + 158), .null])] ++ rState (x + 2) ++ rState (x + 28) ++ rState (x + 54) ++ rState (x + 80) ++ rState (x + 106) ++ rState (x + 132) ++ rState (x + 158)) hx rfl).mono (by decide)) (mpe 36 rfl ?_)
  refine ms_aast (k := 184) (j := 1) (N := 8) (l' := [(0, [.ref (x + 1), .int 0, .int 0, .int 0]), (11, [.ref (x + 2), .ref (x + 28), .ref (x + 54), .ref (x + 80), .ref (x + 106), .ref (x + 132), .ref (x + 158), .ref (x + 184)])] ++ rState (x + 2) ++ rState (x + 28) ++ rState (x + 54) ++ rState (x + 80) ++ rState (x + 106) ++ rState (x + 132) ++ rState (x + 158) ++ rState (x + 184)) hx dX0_init_36 rfl rfl (by decide) rfl (by decide) rfl (mpe 37 rfl ?_)
  refine me_a (a_iinc (v := 8) (L' := [(1, .int 8), (0, .ref (x + 0))]) dX0_init_37 (by decide) rfl rfl rfl) (mpe 40 rfl ?_)
  refine me_a (a_goto (t := 15) dX0_init_40 (by decide)) (mpe 15 rfl ?_)
  refine me_a (a_iload_n dX0_init_15 rfl) (mpe 16 rfl ?_)
  refine me_a (a_aload_n dX0_init_16 rfl) (mpe 17 rfl ?_)
  refine ms_get (i := 11) (j := 0) (v := .ref (x + 1)) hx dX0_init_17 rfl rfl rfl (mpe 20 rfl ?_)
  refine ms_alen (j := 1) (n := 8) hx dX0_init_20 rfl (by decide) rfl (mpe 21 rfl ?_)
  refine me_Tt (t := 43) (j_icmp_ge dX0_init_21) (by decide) (by decide) (mpe 43 rfl ?_)
  exact ms_ret dX0_init_43 rfl rfl
theorem ei_3 {X l : mP} {x k : Nat} (hx : X.length = x) (hk : l.length = k) : Ev 3 3 [.ref (x + k)] (X ++ (l ++ [(0, mdef 0)])) none (X ++ (l ++ rHist (x + k))) := by
  have h := ec_3 (X := X ++ l) (x := x + k) (by rw [List.length_append, hx, hk])
  rw [List.append_assoc, List.append_assoc] at h
  exact h
def q_4 : mQ := (yX4_init, cX4_init, 1, none, 0, 4, 1, 80)
theorem qm_4 : mtL[4]? = some q_4 := rfl

def rScript (x : Nat) : mP := [(4, [.ref (x + 1), .int 0, .int 0, .int 0, .int 0, .int 0, .int 0, .int 0]), (8, List.replicate 80 (.int 0))]
set_option maxRecDepth 100000 in
set_option maxHeartbeats 4000000 in
theorem ec_4 {X : mP} {x : Nat} (hx : X.length = x) : Ev 1 4 [.ref (x + 0)] (X ++ [(4, mdef 4)]) none (X ++ rScript x) := by
  refine Ev.of qm_4 (Nat.le_of_ble_eq_true rfl) rfl ?_
  show MEv _ none q_4 0 [(0, .ref (x + 0))] [] _ 0 0 none _
  refine me_a (a_aload_n dX4_init_0 rfl) (mpe 1 rfl ?_)
  refine me_obj (i := 3) (k := 0) dX4_init_1 rfl (Nat.le_of_ble_eq_true rfl) rfl ⟨Nat.le_of_ble_eq_true rfl, Nat.le_of_ble_eq_true rfl⟩ (mpe 4 rfl ?_)
  refine me_a (a_aload_n dX4_init_4 rfl) (mpe 5 rfl ?_)
  refine me_a (a_bipush (v := 80) dX4_init_5 rfl) (mpe 7 rfl ?_)
  refine ms_newi (k := 1) (N := 80) hx dX4_init_7 (by decide) rfl (by decide) rfl ⟨Nat.le_of_ble_eq_true rfl, Nat.le_of_ble_eq_true rfl⟩ (mpe 9 rfl ?_)
  refine ms_put (i := 9) (j := 0) (l' := [(4, [.ref (x + 1), .int 0, .int 0, .int 0, .int 0, .int 0, .int 0, .int 0]), (8, List.replicate 80 (.int 0))]) hx dX4_init_9 rfl rfl (Nat.le_of_ble_eq_true rfl) rfl (Or.inr ⟨rfl, rfl, rfl⟩) rfl (mpe 12 rfl ?_)
  exact ms_ret dX4_init_12 rfl rfl
theorem ei_4 {X l : mP} {x k : Nat} (hx : X.length = x) (hk : l.length = k) : Ev 1 4 [.ref (x + k)] (X ++ (l ++ [(4, mdef 4)])) none (X ++ (l ++ rScript (x + k))) := by
  have h := ec_4 (X := X ++ l) (x := x + k) (by rw [List.length_append, hx, hk])
  rw [List.append_assoc, List.append_assoc] at h
  exact h
def q_5 : mQ := (yX3_init, cX3_init, 1, none, 0, 3, 2, 16)
theorem qm_5 : mtL[5]? = some q_5 := rfl

def rReducer (x : Nat) : mP := [(3, [.int 0, .int 0, .ref (x + 1), .ref (x + 2)]), (8, List.replicate 8 (.int 0)), (8, List.replicate 8 (.int 0))]
set_option maxRecDepth 100000 in
set_option maxHeartbeats 4000000 in
theorem ec_5 {X : mP} {x : Nat} (hx : X.length = x) : Ev 1 5 [.ref (x + 0)] (X ++ [(3, mdef 3)]) none (X ++ rReducer x) := by
  refine Ev.of qm_5 (Nat.le_of_ble_eq_true rfl) rfl ?_
  show MEv _ none q_5 0 [(0, .ref (x + 0))] [] _ 0 0 none _
  refine me_a (a_aload_n dX3_init_0 rfl) (mpe 1 rfl ?_)
  refine me_obj (i := 3) (k := 0) dX3_init_1 rfl (Nat.le_of_ble_eq_true rfl) rfl ⟨Nat.le_of_ble_eq_true rfl, Nat.le_of_ble_eq_true rfl⟩ (mpe 4 rfl ?_)
  refine me_a (a_aload_n dX3_init_4 rfl) (mpe 5 rfl ?_)
  refine me_a (a_bipush (v := 8) dX3_init_5 rfl) (mpe 7 rfl ?_)
  refine ms_newi (k := 1) (N := 8) hx dX3_init_7 (by decide) rfl (by decide) rfl ⟨Nat.le_of_ble_eq_true rfl, Nat.le_of_ble_eq_true rfl⟩ (mpe 9 rfl ?_)
  refine ms_put (i := 9) (j := 0) (l' := [(3, [.int 0, .int 0, .ref (x + 1), .null]), (8, List.replicate 8 (.int 0))]) hx dX3_init_9 rfl rfl (Nat.le_of_ble_eq_true rfl) rfl (Or.inr ⟨rfl, rfl, rfl⟩) rfl (mpe 12 rfl ?_)
  refine me_a (a_aload_n dX3_init_12 rfl) (mpe 13 rfl ?_)
  refine me_a (a_bipush (v := 8) dX3_init_13 rfl) (mpe 15 rfl ?_)
  refine ms_newi (k := 2) (N := 8) hx dX3_init_15 (by decide) rfl (by decide) rfl ⟨Nat.le_of_ble_eq_true rfl, Nat.le_of_ble_eq_true rfl⟩ (mpe 17 rfl ?_)
  refine ms_put (i := 15) (j := 0) (l' := [(3, [.int 0, .int 0, .ref (x + 1), .ref (x + 2)]), (8, List.replicate 8 (.int 0)), (8, List.replicate 8 (.int 0))]) hx dX3_init_17 rfl rfl (Nat.le_of_ble_eq_true rfl) rfl (Or.inr ⟨rfl, rfl, rfl⟩) rfl (mpe 20 rfl ?_)
  exact ms_ret dX3_init_20 rfl rfl
theorem ei_5 {X l : mP} {x k : Nat} (hx : X.length = x) (hk : l.length = k) : Ev 1 5 [.ref (x + k)] (X ++ (l ++ [(3, mdef 3)])) none (X ++ (l ++ rReducer (x + k))) := by
  have h := ec_5 (X := X ++ l) (x := x + k) (by rw [List.length_append, hx, hk])
  rw [List.append_assoc, List.append_assoc] at h
  exact h
def q_6 : mQ := (yX1_init, cX1_init, 1, none, 0, 1, 3, 24)
theorem qm_6 : mtL[6]? = some q_6 := rfl

def rLayers (x : Nat) : mP := [(1, [.int 0, .ref (x + 1), .ref (x + 2), .ref (x + 3)]), (8, List.replicate 8 (.int 0)), (8, List.replicate 8 (.int 0)), (8, List.replicate 8 (.int 0))]
set_option maxRecDepth 100000 in
set_option maxHeartbeats 4000000 in
theorem ec_6 {X : mP} {x : Nat} (hx : X.length = x) : Ev 1 6 [.ref (x + 0)] (X ++ [(1, mdef 1)]) none (X ++ rLayers x) := by
  refine Ev.of qm_6 (Nat.le_of_ble_eq_true rfl) rfl ?_
  show MEv _ none q_6 0 [(0, .ref (x + 0))] [] _ 0 0 none _
  refine me_a (a_aload_n dX1_init_0 rfl) (mpe 1 rfl ?_)
  refine me_obj (i := 3) (k := 0) dX1_init_1 rfl (Nat.le_of_ble_eq_true rfl) rfl ⟨Nat.le_of_ble_eq_true rfl, Nat.le_of_ble_eq_true rfl⟩ (mpe 4 rfl ?_)
  refine me_a (a_aload_n dX1_init_4 rfl) (mpe 5 rfl ?_)
  refine me_a (a_bipush (v := 8) dX1_init_5 rfl) (mpe 7 rfl ?_)
  refine ms_newi (k := 1) (N := 8) hx dX1_init_7 (by decide) rfl (by decide) rfl ⟨Nat.le_of_ble_eq_true rfl, Nat.le_of_ble_eq_true rfl⟩ (mpe 9 rfl ?_)
  refine ms_put (i := 9) (j := 0) (l' := [(1, [.int 0, .ref (x + 1), .null, .null]), (8, List.replicate 8 (.int 0))]) hx dX1_init_9 rfl rfl (Nat.le_of_ble_eq_true rfl) rfl (Or.inr ⟨rfl, rfl, rfl⟩) rfl (mpe 12 rfl ?_)
  refine me_a (a_aload_n dX1_init_12 rfl) (mpe 13 rfl ?_)
  refine me_a (a_bipush (v := 8) dX1_init_13 rfl) (mpe 15 rfl ?_)
  refine ms_newi (k := 2) (N := 8) hx dX1_init_15 (by decide) rfl (by decide) rfl ⟨Nat.le_of_ble_eq_true rfl, Nat.le_of_ble_eq_true rfl⟩ (mpe 17 rfl ?_)
  refine ms_put (i := 15) (j := 0) (l' := [(1, [.int 0, .ref (x + 1), .ref (x + 2), .null]), (8, List.replicate 8 (.int 0)), (8, List.replicate 8 (.int 0))]) hx dX1_init_17 rfl rfl (Nat.le_of_ble_eq_true rfl) rfl (Or.inr ⟨rfl, rfl, rfl⟩) rfl (mpe 20 rfl ?_)
  refine me_a (a_aload_n dX1_init_20 rfl) (mpe 21 rfl ?_)
  refine me_a (a_bipush (v := 8) dX1_init_21 rfl) (mpe 23 rfl ?_)
  refine ms_newi (k := 3) (N := 8) hx dX1_init_23 (by decide) rfl (by decide) rfl ⟨Nat.le_of_ble_eq_true rfl, Nat.le_of_ble_eq_true rfl⟩ (mpe 25 rfl ?_)
  refine ms_put (i := 18) (j := 0) (l' := [(1, [.int 0, .ref (x + 1), .ref (x + 2), .ref (x + 3)]), (8, List.replicate 8 (.int 0)), (8, List.replicate 8 (.int 0)), (8, List.replicate 8 (.int 0))]) hx dX1_init_25 rfl rfl (Nat.le_of_ble_eq_true rfl) rfl (Or.inr ⟨rfl, rfl, rfl⟩) rfl (mpe 28 rfl ?_)
  exact ms_ret dX1_init_28 rfl rfl
theorem ei_6 {X l : mP} {x k : Nat} (hx : X.length = x) (hk : l.length = k) : Ev 1 6 [.ref (x + k)] (X ++ (l ++ [(1, mdef 1)])) none (X ++ (l ++ rLayers (x + k))) := by
  have h := ec_6 (X := X ++ l) (x := x + k) (by rw [List.length_append, hx, hk])
  rw [List.append_assoc, List.append_assoc] at h
  exact h
def q_0 : mQ := (yX6_init, cX6_init, 1, none, 0, 6, 300, 2149)
theorem qm_0 : mtL[0]? = some q_0 := rfl

def rTheatre (x : Nat) : mP := [(6, [.ref (x + 1), .ref (x + 27), .ref (x + 53), .ref (x + 79), .ref (x + 289), .ref (x + 291), .ref (x + 294), .ref (x + 298), .int 0, .int (-1004), .int 0, .int 0, .int (-1004)])] ++ rState (x + 1) ++ rState (x + 27) ++ rState (x + 53) ++ rHist (x + 79) ++ rScript (x + 289) ++ rReducer (x + 291) ++ rLayers (x + 294) ++ rPiece (x + 298)
set_option maxRecDepth 100000 in
set_option maxHeartbeats 4000000 in
theorem ec_0 {X : mP} {x : Nat} (hx : X.length = x) : Ev 4 0 [.ref (x + 0)] (X ++ [(6, mdef 6)]) none (X ++ rTheatre x) := by
  refine Ev.of qm_0 (Nat.le_of_ble_eq_true rfl) rfl ?_
  show MEv _ none q_0 0 [(0, .ref (x + 0))] [] _ 0 0 none _
  refine me_a (a_aload_n dX6_init_0 rfl) (mpe 1 rfl ?_)
  refine me_obj (i := 1) (k := 0) dX6_init_1 rfl (Nat.le_of_ble_eq_true rfl) rfl ⟨Nat.le_of_ble_eq_true rfl, Nat.le_of_ble_eq_true rfl⟩ (mpe 4 rfl ?_)
  refine me_a (a_aload_n dX6_init_4 rfl) (mpe 5 rfl ?_)
  refine ms_new (i := 7) (ci := 5) (k := 1) hx dX6_init_5 rfl rfl ⟨Nat.le_of_ble_eq_true rfl, Nat.le_of_ble_eq_true rfl⟩ (mpe 8 rfl ?_)
  refine me_t (s_dup dX6_init_8 rfl) (mpe 9 rfl ?_)
  refine ms_init (i := 9) (q' := q_1) (l' := [(6, [.null, .null, .null, .null, .null, .null, .null, .null, .int 0, .int 0, .int 0, .int 0, .int 0])] ++ rState (x + 1)) dX6_init_9 rfl qm_1 (by decide) rfl rfl (Nat.le_of_ble_eq_true rfl) ⟨Nat.le_of_ble_eq_true rfl, Nat.le_of_ble_eq_true rfl⟩ ((ei_1 (l := [(6, [.null, .null, .null, .null, .null, .null, .null, .null, .int 0, .int 0, .int 0, .int 0, .int 0])]) hx rfl).mono (by decide)) (mpe 12 rfl ?_)
  refine ms_put (i := 10) (j := 0) (l' := [(6, [.ref (x + 1), .null, .null, .null, .null, .null, .null, .null, .int 0, .int 0, .int 0, .int 0, .int 0])] ++ rState (x + 1)) hx dX6_init_12 rfl rfl (Nat.le_of_ble_eq_true rfl) rfl (Or.inr ⟨rfl, rfl, rfl⟩) rfl (mpe 15 rfl ?_)
  refine me_a (a_aload_n dX6_init_15 rfl) (mpe 16 rfl ?_)
  refine ms_new (i := 7) (ci := 5) (k := 27) hx dX6_init_16 rfl rfl ⟨Nat.le_of_ble_eq_true rfl, Nat.le_of_ble_eq_true rfl⟩ (mpe 19 rfl ?_)
  refine me_t (s_dup dX6_init_19 rfl) (mpe 20 rfl ?_)
  refine ms_init (i := 9) (q' := q_1) (l' := [(6, [.ref (x + 1), .null, .null, .null, .null, .null, .null, .null, .int 0, .int 0, .int 0, .int 0, .int 0])] ++ rState (x + 1) ++ rState (x + 27)) dX6_init_20 rfl qm_1 (by decide) rfl rfl (Nat.le_of_ble_eq_true rfl) ⟨Nat.le_of_ble_eq_true rfl, Nat.le_of_ble_eq_true rfl⟩ ((ei_1 (l := [(6, [.ref (x + 1), .null, .null, .null, .null, .null, .null, .null, .int 0, .int 0, .int 0, .int 0, .int 0])] ++ rState (x + 1)) hx rfl).mono (by decide)) (mpe 23 rfl ?_)
  refine ms_put (i := 16) (j := 0) (l' := [(6, [.ref (x + 1), .ref (x + 27), .null, .null, .null, .null, .null, .null, .int 0, .int 0, .int 0, .int 0, .int 0])] ++ rState (x + 1) ++ rState (x + 27)) hx dX6_init_23 rfl rfl (Nat.le_of_ble_eq_true rfl) rfl (Or.inr ⟨rfl, rfl, rfl⟩) rfl (mpe 26 rfl ?_)
  refine me_a (a_aload_n dX6_init_26 rfl) (mpe 27 rfl ?_)
  refine ms_new (i := 7) (ci := 5) (k := 53) hx dX6_init_27 rfl rfl ⟨Nat.le_of_ble_eq_true rfl, Nat.le_of_ble_eq_true rfl⟩ (mpe 30 rfl ?_)
  refine me_t (s_dup dX6_init_30 rfl) (mpe 31 rfl ?_)
  refine ms_init (i := 9) (q' := q_1) (l' := [(6, [.ref (x + 1), .ref (x + 27), .null, .null, .null, .null, .null, .null, .int 0, .int 0, .int 0, .int 0, .int 0])] ++ rState (x + 1) ++ rState (x + 27) ++ rState (x + 53)) dX6_init_31 rfl qm_1 (by decide) rfl rfl (Nat.le_of_ble_eq_true rfl) ⟨Nat.le_of_ble_eq_true rfl, Nat.le_of_ble_eq_true rfl⟩ ((ei_1 (l := [(6, [.ref (x + 1), .ref (x + 27), .null, .null, .null, .null, .null, .null, .int 0, .int 0, .int 0, .int 0, .int 0])] ++ rState (x + 1) ++ rState (x + 27)) hx rfl).mono (by decide)) (mpe 34 rfl ?_)
  refine ms_put (i := 19) (j := 0) (l' := [(6, [.ref (x + 1), .ref (x + 27), .ref (x + 53), .null, .null, .null, .null, .null, .int 0, .int 0, .int 0, .int 0, .int 0])] ++ rState (x + 1) ++ rState (x + 27) ++ rState (x + 53)) hx dX6_init_34 rfl rfl (Nat.le_of_ble_eq_true rfl) rfl (Or.inr ⟨rfl, rfl, rfl⟩) rfl (mpe 37 rfl ?_)
  refine me_a (a_aload_n dX6_init_37 rfl) (mpe 38 rfl ?_)
  refine ms_new (i := 22) (ci := 0) (k := 79) hx dX6_init_38 rfl rfl ⟨Nat.le_of_ble_eq_true rfl, Nat.le_of_ble_eq_true rfl⟩ (mpe 41 rfl ?_)
  refine me_t (s_dup dX6_init_41 rfl) (mpe 42 rfl ?_)
  refine ms_init (i := 24) (q' := q_3) (l' := [(6, [.ref (x + 1), .ref (x + 27), .ref (x + 53), .null, .null, .null, .null, .null, .int 0, .int 0, .int 0, .int 0, .int 0])] ++ rState (x + 1) ++ rState (x + 27) ++ rState (x + 53) ++ rHist (x + 79)) dX6_init_42 rfl qm_3 (by decide) rfl rfl (Nat.le_of_ble_eq_true rfl) ⟨Nat.le_of_ble_eq_true rfl, Nat.le_of_ble_eq_true rfl⟩ ((ei_3 (l := [(6, [.ref (x + 1), .ref (x + 27), .ref (x + 53), .null, .null, .null, .null, .null, .int 0, .int 0, .int 0, .int 0, .int 0])] ++ rState (x + 1) ++ rState (x + 27) ++ rState (x + 53)) hx rfl).mono (by decide)) (mpe 45 rfl ?_)
  refine ms_put (i := 25) (j := 0) (l' := [(6, [.ref (x + 1), .ref (x + 27), .ref (x + 53), .ref (x + 79), .null, .null, .null, .null, .int 0, .int 0, .int 0, .int 0, .int 0])] ++ rState (x + 1) ++ rState (x + 27) ++ rState (x + 53) ++ rHist (x + 79)) hx dX6_init_45 rfl rfl (Nat.le_of_ble_eq_true rfl) rfl (Or.inr ⟨rfl, rfl, rfl⟩) rfl (mpe 48 rfl ?_)
  refine me_a (a_aload_n dX6_init_48 rfl) (mpe 49 rfl ?_)
  refine ms_new (i := 29) (ci := 4) (k := 289) hx dX6_init_49 rfl rfl ⟨Nat.le_of_ble_eq_true rfl, Nat.le_of_ble_eq_true rfl⟩ (mpe 52 rfl ?_)
  refine me_t (s_dup dX6_init_52 rfl) (mpe 53 rfl ?_)
  refine ms_init (i := 31) (q' := q_4) (l' := [(6, [.ref (x + 1), .ref (x + 27), .ref (x + 53), .ref (x + 79), .null, .null, .null, .null, .int 0, .int 0, .int 0, .int 0, .int 0])] ++ rState (x + 1) ++ rState (x + 27) ++ rState (x + 53) ++ rHist (x + 79) ++ rScript (x + 289)) dX6_init_53 rfl qm_4 (by decide) rfl rfl (Nat.le_of_ble_eq_true rfl) ⟨Nat.le_of_ble_eq_true rfl, Nat.le_of_ble_eq_true rfl⟩ ((ei_4 (l := [(6, [.ref (x + 1), .ref (x + 27), .ref (x + 53), .ref (x + 79), .null, .null, .null, .null, .int 0, .int 0, .int 0, .int 0, .int 0])] ++ rState (x + 1) ++ rState (x + 27) ++ rState (x + 53) ++ rHist (x + 79)) hx rfl).mono (by decide)) (mpe 56 rfl ?_)
  refine ms_put (i := 32) (j := 0) (l' := [(6, [.ref (x + 1), .ref (x + 27), .ref (x + 53), .ref (x + 79), .ref (x + 289), .null, .null, .null, .int 0, .int 0, .int 0, .int 0, .int 0])] ++ rState (x + 1) ++ rState (x + 27) ++ rState (x + 53) ++ rHist (x + 79) ++ rScript (x + 289)) hx dX6_init_56 rfl rfl (Nat.le_of_ble_eq_true rfl) rfl (Or.inr ⟨rfl, rfl, rfl⟩) rfl (mpe 59 rfl ?_)
  refine me_a (a_aload_n dX6_init_59 rfl) (mpe 60 rfl ?_)
  refine ms_new (i := 36) (ci := 3) (k := 291) hx dX6_init_60 rfl rfl ⟨Nat.le_of_ble_eq_true rfl, Nat.le_of_ble_eq_true rfl⟩ (mpe 63 rfl ?_)
  refine me_t (s_dup dX6_init_63 rfl) (mpe 64 rfl ?_)
  refine ms_init (i := 38) (q' := q_5) (l' := [(6, [.ref (x + 1), .ref (x + 27), .ref (x + 53), .ref (x + 79), .ref (x + 289), .null, .null, .null, .int 0, .int 0, .int 0, .int 0, .int 0])] ++ rState (x + 1) ++ rState (x + 27) ++ rState (x + 53) ++ rHist (x + 79) ++ rScript (x + 289) ++ rReducer (x + 291)) dX6_init_64 rfl qm_5 (by decide) rfl rfl (Nat.le_of_ble_eq_true rfl) ⟨Nat.le_of_ble_eq_true rfl, Nat.le_of_ble_eq_true rfl⟩ ((ei_5 (l := [(6, [.ref (x + 1), .ref (x + 27), .ref (x + 53), .ref (x + 79), .ref (x + 289), .null, .null, .null, .int 0, .int 0, .int 0, .int 0, .int 0])] ++ rState (x + 1) ++ rState (x + 27) ++ rState (x + 53) ++ rHist (x + 79) ++ rScript (x + 289)) hx rfl).mono (by decide)) (mpe 67 rfl ?_)
  refine ms_put (i := 39) (j := 0) (l' := [(6, [.ref (x + 1), .ref (x + 27), .ref (x + 53), .ref (x + 79), .ref (x + 289), .ref (x + 291), .null, .null, .int 0, .int 0, .int 0, .int 0, .int 0])] ++ rState (x + 1) ++ rState (x + 27) ++ rState (x + 53) ++ rHist (x + 79) ++ rScript (x + 289) ++ rReducer (x + 291)) hx dX6_init_67 rfl rfl (Nat.le_of_ble_eq_true rfl) rfl (Or.inr ⟨rfl, rfl, rfl⟩) rfl (mpe 70 rfl ?_)
  refine me_a (a_aload_n dX6_init_70 rfl) (mpe 71 rfl ?_)
  refine ms_new (i := 43) (ci := 1) (k := 294) hx dX6_init_71 rfl rfl ⟨Nat.le_of_ble_eq_true rfl, Nat.le_of_ble_eq_true rfl⟩ (mpe 74 rfl ?_)
  refine me_t (s_dup dX6_init_74 rfl) (mpe 75 rfl ?_)
  refine ms_init (i := 45) (q' := q_6) (l' := [(6, [.ref (x + 1), .ref (x + 27), .ref (x + 53), .ref (x + 79), .ref (x + 289), .ref (x + 291), .null, .null, .int 0, .int 0, .int 0, .int 0, .int 0])] ++ rState (x + 1) ++ rState (x + 27) ++ rState (x + 53) ++ rHist (x + 79) ++ rScript (x + 289) ++ rReducer (x + 291) ++ rLayers (x + 294)) dX6_init_75 rfl qm_6 (by decide) rfl rfl (Nat.le_of_ble_eq_true rfl) ⟨Nat.le_of_ble_eq_true rfl, Nat.le_of_ble_eq_true rfl⟩ ((ei_6 (l := [(6, [.ref (x + 1), .ref (x + 27), .ref (x + 53), .ref (x + 79), .ref (x + 289), .ref (x + 291), .null, .null, .int 0, .int 0, .int 0, .int 0, .int 0])] ++ rState (x + 1) ++ rState (x + 27) ++ rState (x + 53) ++ rHist (x + 79) ++ rScript (x + 289) ++ rReducer (x + 291)) hx rfl).mono (by decide)) (mpe 78 rfl ?_)
  refine ms_put (i := 46) (j := 0) (l' := [(6, [.ref (x + 1), .ref (x + 27), .ref (x + 53), .ref (x + 79), .ref (x + 289), .ref (x + 291), .ref (x + 294), .null, .int 0, .int 0, .int 0, .int 0, .int 0])] ++ rState (x + 1) ++ rState (x + 27) ++ rState (x + 53) ++ rHist (x + 79) ++ rScript (x + 289) ++ rReducer (x + 291) ++ rLayers (x + 294)) hx dX6_init_78 rfl rfl (Nat.le_of_ble_eq_true rfl) rfl (Or.inr ⟨rfl, rfl, rfl⟩) rfl (mpe 81 rfl ?_)
  refine me_a (a_aload_n dX6_init_81 rfl) (mpe 82 rfl ?_)
  refine ms_new (i := 50) (ci := 2) (k := 298) hx dX6_init_82 rfl rfl ⟨Nat.le_of_ble_eq_true rfl, Nat.le_of_ble_eq_true rfl⟩ (mpe 85 rfl ?_)
  refine me_t (s_dup dX6_init_85 rfl) (mpe 86 rfl ?_)
  refine ms_init (i := 52) (q' := q_2) (l' := [(6, [.ref (x + 1), .ref (x + 27), .ref (x + 53), .ref (x + 79), .ref (x + 289), .ref (x + 291), .ref (x + 294), .null, .int 0, .int 0, .int 0, .int 0, .int 0])] ++ rState (x + 1) ++ rState (x + 27) ++ rState (x + 53) ++ rHist (x + 79) ++ rScript (x + 289) ++ rReducer (x + 291) ++ rLayers (x + 294) ++ rPiece (x + 298)) dX6_init_86 rfl qm_2 (by decide) rfl rfl (Nat.le_of_ble_eq_true rfl) ⟨Nat.le_of_ble_eq_true rfl, Nat.le_of_ble_eq_true rfl⟩ ((ei_2 (l := [(6, [.ref (x + 1), .ref (x + 27), .ref (x + 53), .ref (x + 79), .ref (x + 289), .ref (x + 291), .ref (x + 294), .null, .int 0, .int 0, .int 0, .int 0, .int 0])] ++ rState (x + 1) ++ rState (x + 27) ++ rState (x + 53) ++ rHist (x + 79) ++ rScript (x + 289) ++ rReducer (x + 291) ++ rLayers (x + 294)) hx rfl).mono (by decide)) (mpe 89 rfl ?_)
  refine ms_put (i := 53) (j := 0) (l' := [(6, [.ref (x + 1), .ref (x + 27), .ref (x + 53), .ref (x + 79), .ref (x + 289), .ref (x + 291), .ref (x + 294), .ref (x + 298), .int 0, .int 0, .int 0, .int 0, .int 0])] ++ rState (x + 1) ++ rState (x + 27) ++ rState (x + 53) ++ rHist (x + 79) ++ rScript (x + 289) ++ rReducer (x + 291) ++ rLayers (x + 294) ++ rPiece (x + 298)) hx dX6_init_89 rfl rfl (Nat.le_of_ble_eq_true rfl) rfl (Or.inr ⟨rfl, rfl, rfl⟩) rfl (mpe 92 rfl ?_)
  refine me_a (a_aload_n dX6_init_92 rfl) (mpe 93 rfl ?_)
  refine me_a (a_sipush (v := -1004) dX6_init_93 rfl) (mpe 96 rfl ?_)
  refine ms_put (i := 57) (j := 0) (l' := [(6, [.ref (x + 1), .ref (x + 27), .ref (x + 53), .ref (x + 79), .ref (x + 289), .ref (x + 291), .ref (x + 294), .ref (x + 298), .int 0, .int (-1004), .int 0, .int 0, .int 0])] ++ rState (x + 1) ++ rState (x + 27) ++ rState (x + 53) ++ rHist (x + 79) ++ rScript (x + 289) ++ rReducer (x + 291) ++ rLayers (x + 294) ++ rPiece (x + 298)) hx dX6_init_96 rfl rfl (Nat.le_of_ble_eq_true rfl) rfl (Or.inl rfl) rfl (mpe 99 rfl ?_)
  refine me_a (a_aload_n dX6_init_99 rfl) (mpe 100 rfl ?_)
  refine me_a (a_sipush (v := -1004) dX6_init_100 rfl) (mpe 103 rfl ?_)
  refine ms_put (i := 61) (j := 0) (l' := [(6, [.ref (x + 1), .ref (x + 27), .ref (x + 53), .ref (x + 79), .ref (x + 289), .ref (x + 291), .ref (x + 294), .ref (x + 298), .int 0, .int (-1004), .int 0, .int 0, .int (-1004)])] ++ rState (x + 1) ++ rState (x + 27) ++ rState (x + 53) ++ rHist (x + 79) ++ rScript (x + 289) ++ rReducer (x + 291) ++ rLayers (x + 294) ++ rPiece (x + 298)) hx dX6_init_103 rfl rfl (Nat.le_of_ble_eq_true rfl) rfl (Or.inl rfl) rfl (mpe 106 rfl ?_)
  exact ms_ret dX6_init_106 rfl rfl
theorem ei_0 {X l : mP} {x k : Nat} (hx : X.length = x) (hk : l.length = k) : Ev 4 0 [.ref (x + k)] (X ++ (l ++ [(6, mdef 6)])) none (X ++ (l ++ rTheatre (x + k))) := by
  have h := ec_0 (X := X ++ l) (x := x + k) (by rw [List.length_append, hx, hk])
  rw [List.append_assoc, List.append_assoc] at h
  exact h
