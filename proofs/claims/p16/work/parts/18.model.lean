theorem dX7_init_0 : decode cX7_init 0 = .ok (.aload_n 0, 1) := by decide +kernel
theorem dX7_init_1 : decode cX7_init 1 = .ok (.invokespecial 3, 3) := by decide +kernel
theorem dX7_init_4 : decode cX7_init 4 = .ok (.aload_n 0, 1) := by decide +kernel
theorem dX7_init_5 : decode cX7_init 5 = .ok (.sipush 155, 3) := by decide +kernel
theorem dX7_init_8 : decode cX7_init 8 = .ok (.newarray .int, 2) := by decide +kernel
theorem dX7_init_10 : decode cX7_init 10 = .ok (.putfield 9, 3) := by decide +kernel
theorem dX7_init_13 : decode cX7_init 13 = .ok (.aload_n 0, 1) := by decide +kernel
theorem dX7_init_14 : decode cX7_init 14 = .ok (.sipush 155, 3) := by decide +kernel
theorem dX7_init_17 : decode cX7_init 17 = .ok (.newarray .int, 2) := by decide +kernel
theorem dX7_init_19 : decode cX7_init 19 = .ok (.putfield 13, 3) := by decide +kernel
theorem dX7_init_22 : decode cX7_init 22 = .ok (.aload_n 0, 1) := by decide +kernel
theorem dX7_init_23 : decode cX7_init 23 = .ok (.sipush 155, 3) := by decide +kernel
theorem dX7_init_26 : decode cX7_init 26 = .ok (.newarray .int, 2) := by decide +kernel
theorem dX7_init_28 : decode cX7_init 28 = .ok (.putfield 16, 3) := by decide +kernel
theorem dX7_init_31 : decode cX7_init 31 = .ok (.aload_n 0, 1) := by decide +kernel
theorem dX7_init_32 : decode cX7_init 32 = .ok (.sipush 1240, 3) := by decide +kernel
theorem dX7_init_35 : decode cX7_init 35 = .ok (.newarray .int, 2) := by decide +kernel
theorem dX7_init_37 : decode cX7_init 37 = .ok (.putfield 19, 3) := by decide +kernel
theorem dX7_init_40 : decode cX7_init 40 = .ok (.aload_n 0, 1) := by decide +kernel
theorem dX7_init_41 : decode cX7_init 41 = .ok (.bipush 8, 2) := by decide +kernel
theorem dX7_init_43 : decode cX7_init 43 = .ok (.newarray .int, 2) := by decide +kernel
theorem dX7_init_45 : decode cX7_init 45 = .ok (.putfield 22, 3) := by decide +kernel
theorem dX7_init_48 : decode cX7_init 48 = .ok (.aload_n 0, 1) := by decide +kernel
theorem dX7_init_49 : decode cX7_init 49 = .ok (.bipush 8, 2) := by decide +kernel
theorem dX7_init_51 : decode cX7_init 51 = .ok (.newarray .int, 2) := by decide +kernel
theorem dX7_init_53 : decode cX7_init 53 = .ok (.putfield 25, 3) := by decide +kernel
theorem dX7_init_56 : decode cX7_init 56 = .ok (.aload_n 0, 1) := by decide +kernel
theorem dX7_init_57 : decode cX7_init 57 = .ok (.bipush 8, 2) := by decide +kernel
theorem dX7_init_59 : decode cX7_init 59 = .ok (.newarray .int, 2) := by decide +kernel
theorem dX7_init_61 : decode cX7_init 61 = .ok (.putfield 28, 3) := by decide +kernel
theorem dX7_init_64 : decode cX7_init 64 = .ok (.aload_n 0, 1) := by decide +kernel
theorem dX7_init_65 : decode cX7_init 65 = .ok (.bipush 8, 2) := by decide +kernel
theorem dX7_init_67 : decode cX7_init 67 = .ok (.newarray .int, 2) := by decide +kernel
theorem dX7_init_69 : decode cX7_init 69 = .ok (.putfield 31, 3) := by decide +kernel
theorem dX7_init_72 : decode cX7_init 72 = .ok (.aload_n 0, 1) := by decide +kernel
theorem dX7_init_73 : decode cX7_init 73 = .ok (.bipush 7, 2) := by decide +kernel
theorem dX7_init_75 : decode cX7_init 75 = .ok (.newarray .int, 2) := by decide +kernel
theorem dX7_init_77 : decode cX7_init 77 = .ok (.putfield 34, 3) := by decide +kernel
theorem dX7_init_80 : decode cX7_init 80 = .ok (.aload_n 0, 1) := by decide +kernel
theorem dX7_init_81 : decode cX7_init 81 = .ok (.bipush 7, 2) := by decide +kernel
theorem dX7_init_83 : decode cX7_init 83 = .ok (.newarray .int, 2) := by decide +kernel
theorem dX7_init_85 : decode cX7_init 85 = .ok (.putfield 37, 3) := by decide +kernel
theorem dX7_init_88 : decode cX7_init 88 = .ok (.aload_n 0, 1) := by decide +kernel
theorem dX7_init_89 : decode cX7_init 89 = .ok (.bipush 8, 2) := by decide +kernel
theorem dX7_init_91 : decode cX7_init 91 = .ok (.newarray .int, 2) := by decide +kernel
theorem dX7_init_93 : decode cX7_init 93 = .ok (.putfield 40, 3) := by decide +kernel
theorem dX7_init_96 : decode cX7_init 96 = .ok (.aload_n 0, 1) := by decide +kernel
theorem dX7_init_97 : decode cX7_init 97 = .ok (.bipush 7, 2) := by decide +kernel
theorem dX7_init_99 : decode cX7_init 99 = .ok (.newarray .boolean, 2) := by decide +kernel
theorem dX7_init_101 : decode cX7_init 101 = .ok (.putfield 43, 3) := by decide +kernel
theorem dX7_init_104 : decode cX7_init 104 = .ok (.aload_n 0, 1) := by decide +kernel
theorem dX7_init_105 : decode cX7_init 105 = .ok (.bipush 80, 2) := by decide +kernel
theorem dX7_init_107 : decode cX7_init 107 = .ok (.newarray .int, 2) := by decide +kernel
theorem dX7_init_109 : decode cX7_init 109 = .ok (.putfield 47, 3) := by decide +kernel
theorem dX7_init_112 : decode cX7_init 112 = .ok (.aload_n 0, 1) := by decide +kernel
theorem dX7_init_113 : decode cX7_init 113 = .ok (.getfield 9, 3) := by decide +kernel
theorem dX7_init_116 : decode cX7_init 116 = .ok (.iconst 1, 1) := by decide +kernel
theorem dX7_init_117 : decode cX7_init 117 = .ok (.bipush 30, 2) := by decide +kernel
theorem dX7_init_119 : decode cX7_init 119 = .ok (.iastore, 1) := by decide +kernel
theorem dX7_init_120 : decode cX7_init 120 = .ok (.aload_n 0, 1) := by decide +kernel
theorem dX7_init_121 : decode cX7_init 121 = .ok (.sipush (-1004), 3) := by decide +kernel
theorem dX7_init_124 : decode cX7_init 124 = .ok (.putfield 50, 3) := by decide +kernel
theorem dX7_init_127 : decode cX7_init 127 = .ok (.return_, 1) := by decide +kernel
/-! what the constructor of the reference makes (written by a program) -/
def q_122 : mQ := (yX7_init, cX7_init, 1, none, 0, 7, 13, 1846)
theorem qm_122 : mtL[122]? = some q_122 := rfl

def rModel (x : Nat) : mP := [(7, [.ref (x + 1), .ref (x + 2), .ref (x + 3), .ref (x + 4), .int 0, .int 0, .int 0, .int (-1004), .int 0, .ref (x + 5), .ref (x + 6), .ref (x + 7), .ref (x + 8), .int 0, .int 0, .ref (x + 9), .ref (x + 10), .ref (x + 11), .ref (x + 12), .int 0, .int 0, .int 0, .ref (x + 13), .int 0, .int 0, .int 0, .int 0, .int 0, .int 0, .int 0]), (8, (List.replicate 155 (.int 0)).set 1 (.int 30)), (8, List.replicate 155 (.int 0)), (8, List.replicate 155 (.int 0)), (8, List.replicate 1240 (.int 0)), (8, List.replicate 8 (.int 0)), (8, List.replicate 8 (.int 0)), (8, List.replicate 8 (.int 0)), (8, List.replicate 8 (.int 0)), (8, List.replicate 7 (.int 0)), (8, List.replicate 7 (.int 0)), (8, List.replicate 8 (.int 0)), (9, List.replicate 7 (.int 0)), (8, List.replicate 80 (.int 0))]
set_option maxRecDepth 100000 in
set_option maxHeartbeats 4000000 in
theorem ec_122 {X : mP} {x : Nat} (hx : X.length = x) : Ev 1 122 [.ref (x + 0)] (X ++ [(7, mdef 7)]) none (X ++ rModel x) := by
  refine Ev.of qm_122 (Nat.le_of_ble_eq_true rfl) rfl ?_
  show MEv _ none q_122 0 [(0, .ref (x + 0))] [] _ 0 0 none _
  refine me_a (a_aload_n dX7_init_0 rfl) (mpe 1 rfl ?_)
  refine me_obj (i := 3) (k := 0) dX7_init_1 rfl (Nat.le_of_ble_eq_true rfl) rfl ⟨Nat.le_of_ble_eq_true rfl, Nat.le_of_ble_eq_true rfl⟩ (mpe 4 rfl ?_)
  refine me_a (a_aload_n dX7_init_4 rfl) (mpe 5 rfl ?_)
  refine me_a (a_sipush (v := 155) dX7_init_5 rfl) (mpe 8 rfl ?_)
  refine ms_newi (k := 1) (N := 155) hx dX7_init_8 (by decide) rfl (by decide) rfl ⟨Nat.le_of_ble_eq_true rfl, Nat.le_of_ble_eq_true rfl⟩ (mpe 10 rfl ?_)
  refine ms_put (i := 9) (j := 0) (l' := [(7, [.ref (x + 1), .null, .null, .null, .int 0, .int 0, .int 0, .int 0, .int 0, .null, .null, .null, .null, .int 0, .int 0, .null, .null, .null, .null, .int 0, .int 0, .int 0, .null, .int 0, .int 0, .int 0, .int 0, .int 0, .int 0, .int 0]), (8, List.replicate 155 (.int 0))]) hx dX7_init_10 rfl rfl (Nat.le_of_ble_eq_true rfl) rfl (Or.inr ⟨rfl, rfl, rfl⟩) rfl (mpe 13 rfl ?_)
  refine me_a (a_aload_n dX7_init_13 rfl) (mpe 14 rfl ?_)
  refine me_a (a_sipush (v := 155) dX7_init_14 rfl) (mpe 17 rfl ?_)
  refine ms_newi (k := 2) (N := 155) hx dX7_init_17 (by decide) rfl (by decide) rfl ⟨Nat.le_of_ble_eq_true rfl, Nat.le_of_ble_eq_true rfl⟩ (mpe 19 rfl ?_)
  refine ms_put (i := 13) (j := 0) (l' := [(7, [.ref (x + 1), .ref (x + 2), .null, .null, .int 0, .int 0, .int 0, .int 0, .int 0, .null, .null, .null, .null, .int 0, .int 0, .null, .null, .null, .null, .int 0, .int 0, .int 0, .null, .int 0, .int 0, .int 0, .int 0, .int 0, .int 0, .int 0]), (8, List.replicate 155 (.int 0)), (8, List.replicate 155 (.int 0))]) hx dX7_init_19 rfl rfl (Nat.le_of_ble_eq_true rfl) rfl (Or.inr ⟨rfl, rfl, rfl⟩) rfl (mpe 22 rfl ?_)
  refine me_a (a_aload_n dX7_init_22 rfl) (mpe 23 rfl ?_)
  refine me_a (a_sipush (v := 155) dX7_init_23 rfl) (mpe 26 rfl ?_)
  refine ms_newi (k := 3) (N := 155) hx dX7_init_26 (by decide) rfl (by decide) rfl ⟨Nat.le_of_ble_eq_true rfl, Nat.le_of_ble_eq_true rfl⟩ (mpe 28 rfl ?_)
  refine ms_put (i := 16) (j := 0) (l' := [(7, [.ref (x + 1), .ref (x + 2), .ref (x + 3), .null, .int 0, .int 0, .int 0, .int 0, .int 0, .null, .null, .null, .null, .int 0, .int 0, .null, .null, .null, .null, .int 0, .int 0, .int 0, .null, .int 0, .int 0, .int 0, .int 0, .int 0, .int 0, .int 0]), (8, List.replicate 155 (.int 0)), (8, List.replicate 155 (.int 0)), (8, List.replicate 155 (.int 0))]) hx dX7_init_28 rfl rfl (Nat.le_of_ble_eq_true rfl) rfl (Or.inr ⟨rfl, rfl, rfl⟩) rfl (mpe 31 rfl ?_)
  refine me_a (a_aload_n dX7_init_31 rfl) (mpe 32 rfl ?_)
  refine me_a (a_sipush (v := 1240) dX7_init_32 rfl) (mpe 35 rfl ?_)
  refine ms_newi (k := 4) (N := 1240) hx dX7_init_35 (by decide) rfl (by decide) rfl ⟨Nat.le_of_ble_eq_true rfl, Nat.le_of_ble_eq_true rfl⟩ (mpe 37 rfl ?_)
  refine ms_put (i := 19) (j := 0) (l' := [(7, [.ref (x + 1), .ref (x + 2), .ref (x + 3), .ref (x + 4), .int 0, .int 0, .int 0, .int 0, .int 0, .null, .null, .null, .null, .int 0, .int 0, .null, .null, .null, .null, .int 0, .int 0, .int 0, .null, .int 0, .int 0, .int 0, .int 0, .int 0, .int 0, .int 0]), (8, List.replicate 155 (.int 0)), (8, List.replicate 155 (.int 0)), (8, List.replicate 155 (.int 0)), (8, List.replicate 1240 (.int 0))]) hx dX7_init_37 rfl rfl (Nat.le_of_ble_eq_true rfl) rfl (Or.inr ⟨rfl, rfl, rfl⟩) rfl (mpe 40 rfl ?_)
  refine me_a (a_aload_n dX7_init_40 rfl) (mpe 41 rfl ?_)
  refine me_a (a_bipush (v := 8) dX7_init_41 rfl) (mpe 43 rfl ?_)
  refine ms_newi (k := 5) (N := 8) hx dX7_init_43 (by decide) rfl (by decide) rfl ⟨Nat.le_of_ble_eq_true rfl, Nat.le_of_ble_eq_true rfl⟩ (mpe 45 rfl ?_)
  refine ms_put (i := 22) (j := 0) (l' := [(7, [.ref (x + 1), .ref (x + 2), .ref (x + 3), .ref (x + 4), .int 0, .int 0, .int 0, .int 0, .int 0, .ref (x + 5), .null, .null, .null, .int 0, .int 0, .null, .null, .null, .null, .int 0, .int 0, .int 0, .null, .int 0, .int 0, .int 0, .int 0, .int 0, .int 0, .int 0]), (8, List.replicate 155 (.int 0)), (8, List.replicate 155 (.int 0)), (8, List.replicate 155 (.int 0)), (8, List.replicate 1240 (.int 0)), (8, List.replicate 8 (.int 0))]) hx dX7_init_45 rfl rfl (Nat.le_of_ble_eq_true rfl) rfl (Or.inr ⟨rfl, rfl, rfl⟩) rfl (mpe 48 rfl ?_)
  refine me_a (a_aload_n dX7_init_48 rfl) (mpe 49 rfl ?_)
  refine me_a (a_bipush (v := 8) dX7_init_49 rfl) (mpe 51 rfl ?_)
  refine ms_newi (k := 6) (N := 8) hx dX7_init_51 (by decide) rfl (by decide) rfl ⟨Nat.le_of_ble_eq_true rfl, Nat.le_of_ble_eq_true rfl⟩ (mpe 53 rfl ?_)
  refine ms_put (i := 25) (j := 0) (l' := [(7, [.ref (x + 1), .ref (x + 2), .ref (x + 3), .ref (x + 4), .int 0, .int 0, .int 0, .int 0, .int 0, .ref (x + 5), .ref (x + 6), .null, .null, .int 0, .int 0, .null, .null, .null, .null, .int 0, .int 0, .int 0, .null, .int 0, .int 0, .int 0, .int 0, .int 0, .int 0, .int 0]), (8, List.replicate 155 (.int 0)), (8, List.replicate 155 (.int 0)), (8, List.replicate 155 (.int 0)), (8, List.replicate 1240 (.int 0)), (8, List.replicate 8 (.int 0)), (8, List.replicate 8 (.int 0))]) hx dX7_init_53 rfl rfl (Nat.le_of_ble_eq_true rfl) rfl (Or.inr ⟨rfl, rfl, rfl⟩) rfl (mpe 56 rfl ?_)
  refine me_a (a_aload_n dX7_init_56 rfl) (mpe 57 rfl ?_)
  refine me_a (a_bipush (v := 8) dX7_init_57 rfl) (mpe 59 rfl ?_)
  refine ms_newi (k := 7) (N := 8) hx dX7_init_59 (by decide) rfl (by decide) rfl ⟨Nat.le_of_ble_eq_true rfl, Nat.le_of_ble_eq_true rfl⟩ (mpe 61 rfl ?_)
  refine ms_put (i := 28) (j := 0) (l' := [(7, [.ref (x + 1), .ref (x + 2), .ref (x + 3), .ref (x + 4), .int 0, .int 0, .int 0, .int 0, .int 0, .ref (x + 5), .ref (x + 6), .ref (x + 7), .null, .int 0, .int 0, .null, .null, .null, .null, .int 0, .int 0, .int 0, .null, .int 0, .int 0, .int 0, .int 0, .int 0, .int 0, .int 0]), (8, List.replicate 155 (.int 0)), (8, List.replicate 155 (.int 0)), (8, List.replicate 155 (.int 0)), (8, List.replicate 1240 (.int 0)), (8, List.replicate 8 (.int 0)), (8, List.replicate 8 (.int 0)), (8, List.replicate 8 (.int 0))]) hx dX7_init_61 rfl rfl (Nat.le_of_ble_eq_true rfl) rfl (Or.inr ⟨rfl, rfl, rfl⟩) rfl (mpe 64 rfl ?_)
  refine me_a (a_aload_n dX7_init_64 rfl) (mpe 65 rfl ?_)
  refine me_a (a_bipush (v := 8) dX7_init_65 rfl) (mpe 67 rfl ?_)
  refine ms_newi (k := 8) (N := 8) hx dX7_init_67 (by decide) rfl (by decide) rfl ⟨Nat.le_of_ble_eq_true rfl, Nat.le_of_ble_eq_true rfl⟩ (mpe 69 rfl ?_)
  refine ms_put (i := 31) (j := 0) (l' := [(7, [.ref (x + 1), .ref (x + 2), .ref (x + 3), .ref (x + 4), .int 0, .int 0, .int 0, .int 0, .int 0, .ref (x + 5), .ref (x + 6), .ref (x + 7), .ref (x + 8), .int 0, .int 0, .null, .null, .null, .null, .int 0, .int 0, .int 0, .null, .int 0, .int 0, .int 0, .int 0, .int 0, .int 0, .int 0]), (8, List.replicate 155 (.int 0)), (8, List.replicate 155 (.int 0)), (8, List.replicate 155 (.int 0)), (8, List.replicate 1240 (.int 0)), (8, List.replicate 8 (.int 0)), (8, List.replicate 8 (.int 0)), (8, List.replicate 8 (.int 0)), (8, List.replicate 8 (.int 0))]) hx dX7_init_69 rfl rfl (Nat.le_of_ble_eq_true rfl) rfl (Or.inr ⟨rfl, rfl, rfl⟩) rfl (mpe 72 rfl ?_)
  refine me_a (a_aload_n dX7_init_72 rfl) (mpe 73 rfl ?_)
  refine me_a (a_bipush (v := 7) dX7_init_73 rfl) (mpe 75 rfl ?_)
  refine ms_newi (k := 9) (N := 7) hx dX7_init_75 (by decide) rfl (by decide) rfl ⟨Nat.le_of_ble_eq_true rfl, Nat.le_of_ble_eq_true rfl⟩ (mpe 77 rfl ?_)
  refine ms_put (i := 34) (j := 0) (l' := [(7, [.ref (x + 1), .ref (x + 2), .ref (x + 3), .ref (x + 4), .int 0, .int 0, .int 0, .int 0, .int 0, .ref (x + 5), .ref (x + 6), .ref (x + 7), .ref (x + 8), .int 0, .int 0, .ref (x + 9), .null, .null, .null, .int 0, .int 0, .int 0, .null, .int 0, .int 0, .int 0, .int 0, .int 0, .int 0, .int 0]), (8, List.replicate 155 (.int 0)), (8, List.replicate 155 (.int 0)), (8, List.replicate 155 (.int 0)), (8, List.replicate 1240 (.int 0)), (8, List.replicate 8 (.int 0)), (8, List.replicate 8 (.int 0)), (8, List.replicate 8 (.int 0)), (8, List.replicate 8 (.int 0)), (8, List.replicate 7 (.int 0))]) hx dX7_init_77 rfl rfl (Nat.le_of_ble_eq_true rfl) rfl (Or.inr ⟨rfl, rfl, rfl⟩) rfl (mpe 80 rfl ?_)
  refine me_a (a_aload_n dX7_init_80 rfl) (mpe 81 rfl ?_)
  refine me_a (a_bipush (v := 7) dX7_init_81 rfl) (mpe 83 rfl ?_)
  refine ms_newi (k := 10) (N := 7) hx dX7_init_83 (by decide) rfl (by decide) rfl ⟨Nat.le_of_ble_eq_true rfl, Nat.le_of_ble_eq_true rfl⟩ (mpe 85 rfl ?_)
  refine ms_put (i := 37) (j := 0) (l' := [(7, [.ref (x + 1), .ref (x + 2), .ref (x + 3), .ref (x + 4), .int 0, .int 0, .int 0, .int 0, .int 0, .ref (x + 5), .ref (x + 6), .ref (x + 7), .ref (x + 8), .int 0, .int 0, .ref (x + 9), .ref (x + 10), .null, .null, .int 0, .int 0, .int 0, .null, .int 0, .int 0, .int 0, .int 0, .int 0, .int 0, .int 0]), (8, List.replicate 155 (.int 0)), (8, List.replicate 155 (.int 0)), (8, List.replicate 155 (.int 0)), (8, List.replicate 1240 (.int 0)), (8, List.replicate 8 (.int 0)), (8, List.replicate 8 (.int 0)), (8, List.replicate 8 (.int 0)), (8, List.replicate 8 (.int 0)), (8, List.replicate 7 (.int 0)), (8, List.replicate 7 (.int 0))]) hx dX7_init_85 rfl rfl (Nat.le_of_ble_eq_true rfl) rfl (Or.inr ⟨rfl, rfl, rfl⟩) rfl (mpe 88 rfl ?_)
  refine me_a (a_aload_n dX7_init_88 rfl) (mpe 89 rfl ?_)
  refine me_a (a_bipush (v := 8) dX7_init_89 rfl) (mpe 91 rfl ?_)
  refine ms_newi (k := 11) (N := 8) hx dX7_init_91 (by decide) rfl (by decide) rfl ⟨Nat.le_of_ble_eq_true rfl, Nat.le_of_ble_eq_true rfl⟩ (mpe 93 rfl ?_)
  refine ms_put (i := 40) (j := 0) (l' := [(7, [.ref (x + 1), .ref (x + 2), .ref (x + 3), .ref (x + 4), .int 0, .int 0, .int 0, .int 0, .int 0, .ref (x + 5), .ref (x + 6), .ref (x + 7), .ref (x + 8), .int 0, .int 0, .ref (x + 9), .ref (x + 10), .ref (x + 11), .null, .int 0, .int 0, .int 0, .null, .int 0, .int 0, .int 0, .int 0, .int 0, .int 0, .int 0]), (8, List.replicate 155 (.int 0)), (8, List.replicate 155 (.int 0)), (8, List.replicate 155 (.int 0)), (8, List.replicate 1240 (.int 0)), (8, List.replicate 8 (.int 0)), (8, List.replicate 8 (.int 0)), (8, List.replicate 8 (.int 0)), (8, List.replicate 8 (.int 0)), (8, List.replicate 7 (.int 0)), (8, List.replicate 7 (.int 0)), (8, List.replicate 8 (.int 0))]) hx dX7_init_93 rfl rfl (Nat.le_of_ble_eq_true rfl) rfl (Or.inr ⟨rfl, rfl, rfl⟩) rfl (mpe 96 rfl ?_)
  refine me_a (a_aload_n dX7_init_96 rfl) (mpe 97 rfl ?_)
  refine me_a (a_bipush (v := 7) dX7_init_97 rfl) (mpe 99 rfl ?_)
  refine ms_newz (k := 12) (N := 7) hx dX7_init_99 (by decide) rfl (by decide) rfl ⟨Nat.le_of_ble_eq_true rfl, Nat.le_of_ble_eq_true rfl⟩ (mpe 101 rfl ?_)
  refine ms_put (i := 43) (j := 0) (l' := [(7, [.ref (x + 1), .ref (x + 2), .ref (x + 3), .ref (x + 4), .int 0, .int 0, .int 0, .int 0, .int 0, .ref (x + 5), .ref (x + 6), .ref (x + 7), .ref (x + 8), .int 0, .int 0, .ref (x + 9), .ref (x + 10), .ref (x + 11), .ref (x + 12), .int 0, .int 0, .int 0, .null, .int 0, .int 0, .int 0, .int 0, .int 0, .int 0, .int 0]), (8, List.replicate 155 (.int 0)), (8, List.replicate 155 (.int 0)), (8, List.replicate 155 (.int 0)), (8, List.replicate 1240 (.int 0)), (8, List.replicate 8 (.int 0)), (8, List.replicate 8 (.int 0)), (8, List.replicate 8 (.int 0)), (8, List.replicate 8 (.int 0)), (8, List.replicate 7 (.int 0)), (8, List.replicate 7 (.int 0)), (8, List.replicate 8 (.int 0)), (9, List.replicate 7 (.int 0))]) hx dX7_init_101 rfl rfl (Nat.le_of_ble_eq_true rfl) rfl (Or.inr ⟨rfl, rfl, rfl⟩) rfl (mpe 104 rfl ?_)
  refine me_a (a_aload_n dX7_init_104 rfl) (mpe 105 rfl ?_)
  refine me_a (a_bipush (v := 80) dX7_init_105 rfl) (mpe 107 rfl ?_)
  refine ms_newi (k := 13) (N := 80) hx dX7_init_107 (by decide) rfl (by decide) rfl ⟨Nat.le_of_ble_eq_true rfl, Nat.le_of_ble_eq_true rfl⟩ (mpe 109 rfl ?_)
  refine ms_put (i := 47) (j := 0) (l' := [(7, [.ref (x + 1), .ref (x + 2), .ref (x + 3), .ref (x + 4), .int 0, .int 0, .int 0, .int 0, .int 0, .ref (x + 5), .ref (x + 6), .ref (x + 7), .ref (x + 8), .int 0, .int 0, .ref (x + 9), .ref (x + 10), .ref (x + 11), .ref (x + 12), .int 0, .int 0, .int 0, .ref (x + 13), .int 0, .int 0, .int 0, .int 0, .int 0, .int 0, .int 0]), (8, List.replicate 155 (.int 0)), (8, List.replicate 155 (.int 0)), (8, List.replicate 155 (.int 0)), (8, List.replicate 1240 (.int 0)), (8, List.replicate 8 (.int 0)), (8, List.replicate 8 (.int 0)), (8, List.replicate 8 (.int 0)), (8, List.replicate 8 (.int 0)), (8, List.replicate 7 (.int 0)), (8, List.replicate 7 (.int 0)), (8, List.replicate 8 (.int 0)), (9, List.replicate 7 (.int 0)), (8, List.replicate 80 (.int 0))]) hx dX7_init_109 rfl rfl (Nat.le_of_ble_eq_true rfl) rfl (Or.inr ⟨rfl, rfl, rfl⟩) rfl (mpe 112 rfl ?_)
  refine me_a (a_aload_n dX7_init_112 rfl) (mpe 113 rfl ?_)
  refine ms_get (i := 9) (j := 0) (v := .ref (x + 1)) hx dX7_init_113 rfl rfl rfl (mpe 116 rfl ?_)
  refine me_a (a_iconst (v := 1) dX7_init_116 rfl) (mpe 117 rfl ?_)
  refine me_a (a_bipush (v := 30) dX7_init_117 rfl) (mpe 119 rfl ?_)
  refine ms_iast (j := 1) (N := 155) (l' := [(7, [.ref (x + 1), .ref (x + 2), .ref (x + 3), .ref (x + 4), .int 0, .int 0, .int 0, .int 0, .int 0, .ref (x + 5), .ref (x + 6), .ref (x + 7), .ref (x + 8), .int 0, .int 0, .ref (x + 9), .ref (x + 10), .ref (x + 11), .ref (x + 12), .int 0, .int 0, .int 0, .ref (x + 13), .int 0, .int 0, .int 0, .int 0, .int 0, .int 0, .int 0]), (8, (List.replicate 155 (.int 0)).set 1 (.int 30)), (8, List.replicate 155 (.int 0)), (8, List.replicate 155 (.int 0)), (8, List.replicate 1240 (.int 0)), (8, List.replicate 8 (.int 0)), (8, List.replicate 8 (.int 0)), (8, List.replicate 8 (.int 0)), (8, List.replicate 8 (.int 0)), (8, List.replicate 7 (.int 0)), (8, List.replicate 7 (.int 0)), (8, List.replicate 8 (.int 0)), (9, List.replicate 7 (.int 0)), (8, List.replicate 80 (.int 0))]) hx dX7_init_119 rfl rfl (by decide) rfl (mpe 120 rfl ?_)
  refine me_a (a_aload_n dX7_init_120 rfl) (mpe 121 rfl ?_)
  refine me_a (a_sipush (v := -1004) dX7_init_121 rfl) (mpe 124 rfl ?_)
  refine ms_put (i := 50) (j := 0) (l' := [(7, [.ref (x + 1), .ref (x + 2), .ref (x + 3), .ref (x + 4), .int 0, .int 0, .int 0, .int (-1004), .int 0, .ref (x + 5), .ref (x + 6), .ref (x + 7), .ref (x + 8), .int 0, .int 0, .ref (x + 9), .ref (x + 10), .ref (x + 11), .ref (x + 12), .int 0, .int 0, .int 0, .ref (x + 13), .int 0, .int 0, .int 0, .int 0, .int 0, .int 0, .int 0]), (8, (List.replicate 155 (.int 0)).set 1 (.int 30)), (8, List.replicate 155 (.int 0)), (8, List.replicate 155 (.int 0)), (8, List.replicate 1240 (.int 0)), (8, List.replicate 8 (.int 0)), (8, List.replicate 8 (.int 0)), (8, List.replicate 8 (.int 0)), (8, List.replicate 8 (.int 0)), (8, List.replicate 7 (.int 0)), (8, List.replicate 7 (.int 0)), (8, List.replicate 8 (.int 0)), (9, List.replicate 7 (.int 0)), (8, List.replicate 80 (.int 0))]) hx dX7_init_124 rfl rfl (Nat.le_of_ble_eq_true rfl) rfl (Or.inl rfl) rfl (mpe 127 rfl ?_)
  exact ms_ret dX7_init_127 rfl rfl
theorem ei_122 {X l : mP} {x k : Nat} (hx : X.length = x) (hk : l.length = k) : Ev 1 122 [.ref (x + k)] (X ++ (l ++ [(7, mdef 7)])) none (X ++ (l ++ rModel (x + k))) := by
  have h := ec_122 (X := X ++ l) (x := x + k) (by rw [List.length_append, hx, hk])
  rw [List.append_assoc, List.append_assoc] at h
  exact h
