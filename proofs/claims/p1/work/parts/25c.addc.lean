theorem dX2_creaseCount_0 : decode cX2_creaseCount 0 = .ok (.aload_n 0, 1) := by decide +kernel
theorem dX2_creaseCount_1 : decode cX2_creaseCount 1 = .ok (.getfield 18, 3) := by decide +kernel
theorem dX2_creaseCount_4 : decode cX2_creaseCount 4 = .ok (.ifCond .ne 12, 3) := by decide +kernel
theorem dX2_creaseCount_7 : decode cX2_creaseCount 7 = .ok (.aload_n 0, 1) := by decide +kernel
theorem dX2_creaseCount_8 : decode cX2_creaseCount 8 = .ok (.getfield 26, 3) := by decide +kernel
theorem dX2_creaseCount_11 : decode cX2_creaseCount 11 = .ok (.iconst 1, 1) := by decide +kernel
theorem dX2_creaseCount_12 : decode cX2_creaseCount 12 = .ok (.isub, 1) := by decide +kernel
theorem dX2_creaseCount_13 : decode cX2_creaseCount 13 = .ok (.goto 7, 3) := by decide +kernel
theorem dX2_creaseCount_16 : decode cX2_creaseCount 16 = .ok (.aload_n 0, 1) := by decide +kernel
theorem dX2_creaseCount_17 : decode cX2_creaseCount 17 = .ok (.getfield 26, 3) := by decide +kernel
theorem dX2_creaseCount_20 : decode cX2_creaseCount 20 = .ok (.ireturn, 1) := by decide +kernel
theorem dX2_takeCreases_0 : decode cX2_takeCreases 0 = .ok (.iload_n 1, 1) := by decide +kernel
theorem dX2_takeCreases_1 : decode cX2_takeCreases 1 = .ok (.ifCond .lt 7, 3) := by decide +kernel
theorem dX2_takeCreases_4 : decode cX2_takeCreases 4 = .ok (.iconst 1, 1) := by decide +kernel
theorem dX2_takeCreases_5 : decode cX2_takeCreases 5 = .ok (.goto 4, 3) := by decide +kernel
theorem dX2_takeCreases_8 : decode cX2_takeCreases 8 = .ok (.iconst 0, 1) := by decide +kernel
theorem dX2_takeCreases_9 : decode cX2_takeCreases 9 = .ok (.istore_n 2, 1) := by decide +kernel
theorem dX2_takeCreases_10 : decode cX2_takeCreases 10 = .ok (.iload_n 1, 1) := by decide +kernel
theorem dX2_takeCreases_11 : decode cX2_takeCreases 11 = .ok (.istore_n 3, 1) := by decide +kernel
theorem dX2_takeCreases_12 : decode cX2_takeCreases 12 = .ok (.aload_n 0, 1) := by decide +kernel
theorem dX2_takeCreases_13 : decode cX2_takeCreases 13 = .ok (.invokevirtual 37, 3) := by decide +kernel
theorem dX2_takeCreases_16 : decode cX2_takeCreases 16 = .ok (.iconst 1, 1) := by decide +kernel
theorem dX2_takeCreases_17 : decode cX2_takeCreases 17 = .ok (.isub, 1) := by decide +kernel
theorem dX2_takeCreases_18 : decode cX2_takeCreases 18 = .ok (.istore 4, 2) := by decide +kernel
theorem dX2_takeCreases_20 : decode cX2_takeCreases 20 = .ok (.iload 4, 2) := by decide +kernel
theorem dX2_takeCreases_22 : decode cX2_takeCreases 22 = .ok (.ifCond .lt 47, 3) := by decide +kernel
theorem dX2_takeCreases_25 : decode cX2_takeCreases 25 = .ok (.iload_n 2, 1) := by decide +kernel
theorem dX2_takeCreases_26 : decode cX2_takeCreases 26 = .ok (.ifCond .eq 17, 3) := by decide +kernel
theorem dX2_takeCreases_29 : decode cX2_takeCreases 29 = .ok (.iload_n 3, 1) := by decide +kernel
theorem dX2_takeCreases_30 : decode cX2_takeCreases 30 = .ok (.bipush 10, 2) := by decide +kernel
theorem dX2_takeCreases_32 : decode cX2_takeCreases 32 = .ok (.irem, 1) := by decide +kernel
theorem dX2_takeCreases_33 : decode cX2_takeCreases 33 = .ok (.invokestatic 40, 3) := by decide +kernel
theorem dX2_takeCreases_36 : decode cX2_takeCreases 36 = .ok (.ifCond .eq 7, 3) := by decide +kernel
theorem dX2_takeCreases_39 : decode cX2_takeCreases 39 = .ok (.iconst 1, 1) := by decide +kernel
theorem dX2_takeCreases_40 : decode cX2_takeCreases 40 = .ok (.goto 4, 3) := by decide +kernel
theorem dX2_takeCreases_43 : decode cX2_takeCreases 43 = .ok (.iconst 0, 1) := by decide +kernel
theorem dX2_takeCreases_44 : decode cX2_takeCreases 44 = .ok (.istore_n 2, 1) := by decide +kernel
theorem dX2_takeCreases_45 : decode cX2_takeCreases 45 = .ok (.aload_n 0, 1) := by decide +kernel
theorem dX2_takeCreases_46 : decode cX2_takeCreases 46 = .ok (.getfield 15, 3) := by decide +kernel
theorem dX2_takeCreases_49 : decode cX2_takeCreases 49 = .ok (.iload 4, 2) := by decide +kernel
theorem dX2_takeCreases_51 : decode cX2_takeCreases 51 = .ok (.iload_n 3, 1) := by decide +kernel
theorem dX2_takeCreases_52 : decode cX2_takeCreases 52 = .ok (.bipush 10, 2) := by decide +kernel
theorem dX2_takeCreases_54 : decode cX2_takeCreases 54 = .ok (.irem, 1) := by decide +kernel
theorem dX2_takeCreases_55 : decode cX2_takeCreases 55 = .ok (.invokestatic 29, 3) := by decide +kernel
theorem dX2_takeCreases_58 : decode cX2_takeCreases 58 = .ok (.iload_n 3, 1) := by decide +kernel
theorem dX2_takeCreases_59 : decode cX2_takeCreases 59 = .ok (.bipush 10, 2) := by decide +kernel
theorem dX2_takeCreases_61 : decode cX2_takeCreases 61 = .ok (.idiv, 1) := by decide +kernel
theorem dX2_takeCreases_62 : decode cX2_takeCreases 62 = .ok (.istore_n 3, 1) := by decide +kernel
theorem dX2_takeCreases_63 : decode cX2_takeCreases 63 = .ok (.iinc 4 (-1), 3) := by decide +kernel
theorem dX2_takeCreases_66 : decode cX2_takeCreases 66 = .ok (.goto (-46), 3) := by decide +kernel
theorem dX2_takeCreases_69 : decode cX2_takeCreases 69 = .ok (.iload_n 2, 1) := by decide +kernel
theorem dX2_takeCreases_70 : decode cX2_takeCreases 70 = .ok (.ifCond .eq 11, 3) := by decide +kernel
theorem dX2_takeCreases_73 : decode cX2_takeCreases 73 = .ok (.iload_n 3, 1) := by decide +kernel
theorem dX2_takeCreases_74 : decode cX2_takeCreases 74 = .ok (.ifCond .ne 7, 3) := by decide +kernel
theorem dX2_takeCreases_77 : decode cX2_takeCreases 77 = .ok (.iconst 1, 1) := by decide +kernel
theorem dX2_takeCreases_78 : decode cX2_takeCreases 78 = .ok (.goto 4, 3) := by decide +kernel
theorem dX2_takeCreases_81 : decode cX2_takeCreases 81 = .ok (.iconst 0, 1) := by decide +kernel
theorem dX2_takeCreases_82 : decode cX2_takeCreases 82 = .ok (.ireturn, 1) := by decide +kernel
theorem dX6_copyRow_0 : decode cX6_copyRow 0 = .ok (.iconst 0, 1) := by decide +kernel
theorem dX6_copyRow_1 : decode cX6_copyRow 1 = .ok (.istore_n 2, 1) := by decide +kernel
theorem dX6_copyRow_2 : decode cX6_copyRow 2 = .ok (.iload_n 2, 1) := by decide +kernel
theorem dX6_copyRow_3 : decode cX6_copyRow 3 = .ok (.aload_n 0, 1) := by decide +kernel
theorem dX6_copyRow_4 : decode cX6_copyRow 4 = .ok (.arraylength, 1) := by decide +kernel
theorem dX6_copyRow_5 : decode cX6_copyRow 5 = .ok (.if_icmp .ge 21, 3) := by decide +kernel
theorem dX6_copyRow_8 : decode cX6_copyRow 8 = .ok (.iload_n 2, 1) := by decide +kernel
theorem dX6_copyRow_9 : decode cX6_copyRow 9 = .ok (.aload_n 1, 1) := by decide +kernel
theorem dX6_copyRow_10 : decode cX6_copyRow 10 = .ok (.arraylength, 1) := by decide +kernel
theorem dX6_copyRow_11 : decode cX6_copyRow 11 = .ok (.if_icmp .ge 15, 3) := by decide +kernel
theorem dX6_copyRow_14 : decode cX6_copyRow 14 = .ok (.aload_n 1, 1) := by decide +kernel
theorem dX6_copyRow_15 : decode cX6_copyRow 15 = .ok (.iload_n 2, 1) := by decide +kernel
theorem dX6_copyRow_16 : decode cX6_copyRow 16 = .ok (.aload_n 0, 1) := by decide +kernel
theorem dX6_copyRow_17 : decode cX6_copyRow 17 = .ok (.iload_n 2, 1) := by decide +kernel
theorem dX6_copyRow_18 : decode cX6_copyRow 18 = .ok (.iaload, 1) := by decide +kernel
theorem dX6_copyRow_19 : decode cX6_copyRow 19 = .ok (.iastore, 1) := by decide +kernel
theorem dX6_copyRow_20 : decode cX6_copyRow 20 = .ok (.iinc 2 1, 3) := by decide +kernel
theorem dX6_copyRow_23 : decode cX6_copyRow 23 = .ok (.goto (-21), 3) := by decide +kernel
theorem dX6_copyRow_26 : decode cX6_copyRow 26 = .ok (.return_, 1) := by decide +kernel
theorem dX6_isCreaseKind_0 : decode cX6_isCreaseKind 0 = .ok (.iload_n 0, 1) := by decide +kernel
theorem dX6_isCreaseKind_1 : decode cX6_isCreaseKind 1 = .ok (.ifCond .eq 13, 3) := by decide +kernel
theorem dX6_isCreaseKind_4 : decode cX6_isCreaseKind 4 = .ok (.iload_n 0, 1) := by decide +kernel
theorem dX6_isCreaseKind_5 : decode cX6_isCreaseKind 5 = .ok (.iconst 1, 1) := by decide +kernel
theorem dX6_isCreaseKind_6 : decode cX6_isCreaseKind 6 = .ok (.if_icmp .eq 8, 3) := by decide +kernel
theorem dX6_isCreaseKind_9 : decode cX6_isCreaseKind 9 = .ok (.iload_n 0, 1) := by decide +kernel
theorem dX6_isCreaseKind_10 : decode cX6_isCreaseKind 10 = .ok (.iconst 2, 1) := by decide +kernel
theorem dX6_isCreaseKind_11 : decode cX6_isCreaseKind 11 = .ok (.if_icmp .ne 7, 3) := by decide +kernel
theorem dX6_isCreaseKind_14 : decode cX6_isCreaseKind 14 = .ok (.iconst 1, 1) := by decide +kernel
theorem dX6_isCreaseKind_15 : decode cX6_isCreaseKind 15 = .ok (.goto 4, 3) := by decide +kernel
theorem dX6_isCreaseKind_18 : decode cX6_isCreaseKind 18 = .ok (.iconst 0, 1) := by decide +kernel
theorem dX6_isCreaseKind_19 : decode cX6_isCreaseKind 19 = .ok (.ireturn, 1) := by decide +kernel
def q_19 : mQ := (yX6_copyRow, cX6_copyRow, 3, none, 2, 6, 0, 0)
theorem qm_19 : mtL[19]? = some q_19 := rfl
def q_24 : mQ := (yX2_takeCreases, cX2_takeCreases, 5, (some FieldType.boolean), 1, 2, 0, 0)
theorem qm_24 : mtL[24]? = some q_24 := rfl
def q_25 : mQ := (yX2_creaseCount, cX2_creaseCount, 1, (some FieldType.int), 0, 2, 0, 0)
theorem qm_25 : mtL[25]? = some q_25 := rfl
def q_26 : mQ := (yX6_isCreaseKind, cX6_isCreaseKind, 1, (some FieldType.boolean), 1, 6, 0, 0)
theorem qm_26 : mtL[26]? = some q_26 := rfl
set_option maxRecDepth 100000 in
set_option maxHeartbeats 4000000 in
theorem x_isKc_0 {P : mP}  : EvP 1 26 [.int 0] P (fun r P' => r = some (.int 1) ∧ P' = P) := by
  refine EvP.of qm_26 (Nat.le_of_ble_eq_true rfl) rfl ?_
  show MEvP _ none q_26 0 [(0, .int 0)] [] _ 0 0 _
  refine mp_a (a_iload_n dX6_isCreaseKind_0 rfl) (mpp 1 rfl ?_)
  refine mp_Tt (t := 14) (j_if_eq dX6_isCreaseKind_1) (by decide) (by decide) ?_
  refine mp_a (a_iconst (v := 1) dX6_isCreaseKind_14 rfl) (mpp 15 rfl ?_)
  refine mp_a (a_goto (t := 19) dX6_isCreaseKind_15 (by decide)) ?_
  exact mp_iret (⟨rfl, rfl⟩) dX6_isCreaseKind_19 (Or.inr ⟨rfl, by decide⟩)

set_option maxRecDepth 100000 in
set_option maxHeartbeats 4000000 in
theorem x_isKc_1 {P : mP}  : EvP 1 26 [.int 1] P (fun r P' => r = some (.int 1) ∧ P' = P) := by
  refine EvP.of qm_26 (Nat.le_of_ble_eq_true rfl) rfl ?_
  show MEvP _ none q_26 0 [(0, .int 1)] [] _ 0 0 _
  refine mp_a (a_iload_n dX6_isCreaseKind_0 rfl) (mpp 1 rfl ?_)
  refine mp_Tf (t := 14) (j_if_eq dX6_isCreaseKind_1) (by decide) (by decide) (mpp 4 rfl ?_)
  refine mp_a (a_iload_n dX6_isCreaseKind_4 rfl) (mpp 5 rfl ?_)
  refine mp_a (a_iconst (v := 1) dX6_isCreaseKind_5 rfl) (mpp 6 rfl ?_)
  refine mp_Tt (t := 14) (j_icmp_eq dX6_isCreaseKind_6) (by decide) (by decide) ?_
  refine mp_a (a_iconst (v := 1) dX6_isCreaseKind_14 rfl) (mpp 15 rfl ?_)
  refine mp_a (a_goto (t := 19) dX6_isCreaseKind_15 (by decide)) ?_
  exact mp_iret (⟨rfl, rfl⟩) dX6_isCreaseKind_19 (Or.inr ⟨rfl, by decide⟩)

set_option maxRecDepth 100000 in
set_option maxHeartbeats 4000000 in
theorem x_isKc_2 {P : mP}  : EvP 1 26 [.int 2] P (fun r P' => r = some (.int 1) ∧ P' = P) := by
  refine EvP.of qm_26 (Nat.le_of_ble_eq_true rfl) rfl ?_
  show MEvP _ none q_26 0 [(0, .int 2)] [] _ 0 0 _
  refine mp_a (a_iload_n dX6_isCreaseKind_0 rfl) (mpp 1 rfl ?_)
  refine mp_Tf (t := 14) (j_if_eq dX6_isCreaseKind_1) (by decide) (by decide) (mpp 4 rfl ?_)
  refine mp_a (a_iload_n dX6_isCreaseKind_4 rfl) (mpp 5 rfl ?_)
  refine mp_a (a_iconst (v := 1) dX6_isCreaseKind_5 rfl) (mpp 6 rfl ?_)
  refine mp_Tf (t := 14) (j_icmp_eq dX6_isCreaseKind_6) (by decide) (by decide) (mpp 9 rfl ?_)
  refine mp_a (a_iload_n dX6_isCreaseKind_9 rfl) (mpp 10 rfl ?_)
  refine mp_a (a_iconst (v := 2) dX6_isCreaseKind_10 rfl) (mpp 11 rfl ?_)
  refine mp_Tf (t := 18) (j_icmp_ne dX6_isCreaseKind_11) (by decide) (by decide) (mpp 14 rfl ?_)
  refine mp_a (a_iconst (v := 1) dX6_isCreaseKind_14 rfl) (mpp 15 rfl ?_)
  refine mp_a (a_goto (t := 19) dX6_isCreaseKind_15 (by decide)) ?_
  exact mp_iret (⟨rfl, rfl⟩) dX6_isCreaseKind_19 (Or.inr ⟨rfl, by decide⟩)

theorem x_isK_t {P : mP} {e : Nat} (h : e ≤ 2) : EvP 1 26 [.int (nI e)] P (fun r P' => r = some (.int 1) ∧ P' = P) := by
  match e, h with
  | 0, _ => exact x_isKc_0
  | 1, _ => exact x_isKc_1
  | 2, _ => exact x_isKc_2
  | e + 3, h => exact absurd h (by omega)
theorem x_isK_f {P : mP} {e : Nat} (h : 2 < e) (h2 : e < 2 ^ 31) : EvP 1 26 [.int (nI e)] P (fun r P' => r = some (.int 0) ∧ P' = P) := by
  refine EvP.of qm_26 (Nat.le_of_ble_eq_true rfl) rfl ?_
  show MEvP _ none q_26 0 [(0, .int (nI e))] [] _ 0 0 _
  refine mp_a (a_iload_n dX6_isCreaseKind_0 rfl) (mpp 1 rfl ?_)
  refine mp_Tf (t := 14) (j_if_eq dX6_isCreaseKind_1) (fun q => absurd ((nI_eq (a := e) (b := 0) (by omega) (by omega)).mp q) (by omega)) (by decide) (mpp 4 rfl ?_)
  refine mp_a (a_iload_n dX6_isCreaseKind_4 rfl) (mpp 5 rfl ?_)
  refine mp_a (a_iconst (v := 1) dX6_isCreaseKind_5 rfl) (mpp 6 rfl ?_)
  refine mp_Tf (t := 14) (j_icmp_eq dX6_isCreaseKind_6) (fun q => absurd ((nI_eq (a := e) (b := 1) (by omega) (by omega)).mp q) (by omega)) (by decide) (mpp 9 rfl ?_)
  refine mp_a (a_iload_n dX6_isCreaseKind_9 rfl) (mpp 10 rfl ?_)
  refine mp_a (a_iconst (v := 2) dX6_isCreaseKind_10 rfl) (mpp 11 rfl ?_)
  refine mp_Tt (t := 18) (j_icmp_ne dX6_isCreaseKind_11) (fun q => absurd ((nI_eq (a := e) (b := 2) (by omega) (by omega)).mp q) (by omega)) (by decide) ?_
  refine mp_a (a_iconst (v := 0) dX6_isCreaseKind_18 rfl) (mpp 19 rfl ?_)
  exact mp_iret (⟨rfl, rfl⟩) dX6_isCreaseKind_19 (Or.inr ⟨rfl, by decide⟩)
def okC : Nat → Nat → Bool
  | 0, _ => true
  | j + 1, w => decide (w % 10 ≤ 2) && okC j (w / 10)
def crok : Nat → Nat → Bool
  | 0, w => decide (w = 0)
  | j + 1, w => decide (w % 10 ≤ 2) && crok j (w / 10)
theorem crok_eq : ∀ (m f w : Nat), w < 10 ^ f → crok m w = (decide (ndf f w ≤ m) && okC m w) := by
  intro m
  induction m with
  | zero =>
    intro f w hw
    cases f with
    | zero =>
      have h0 : w = 0 := by simpa using hw
      subst h0
      rfl
    | succ f =>
      by_cases h0 : w = 0
      · subst h0
        rfl
      · rw [ndf_s h0]
        simp [crok, okC, h0]
  | succ m ih =>
    intro f w hw
    by_cases h0 : w = 0
    · subst h0
      have h := ih f 0 hw
      rw [ndf_0] at h ⊢
      simp only [crok, okC, Nat.zero_mod, Nat.zero_div, h]
      simp
    · cases f with
      | zero => exact absurd (by simpa using hw) h0
      | succ f =>
        have h := ih f (w / 10) (pow10 hw)
        simp only [crok, okC, h, ndf_s h0, Nat.add_le_add_iff_right]
        cases decide (w % 10 ≤ 2) <;> cases decide (ndf f (w / 10) ≤ m) <;> rfl
theorem x_cc0 {P : mP} {m : Nat} (h : P[298]? = some (2, [.int 0, .int (nI (m + 1)), .int 0, .ref 299, .ref 300])) : EvP 1 25 [.ref 298] P (fun r P' => r = some (.int (nI m)) ∧ P' = P) := by
  refine EvP.of qm_25 (Nat.le_of_ble_eq_true rfl) rfl ?_
  show MEvP _ none q_25 0 [(0, .ref 298)] [] _ 0 0 _
  refine mp_a (a_aload_n dX2_creaseCount_0 rfl) (mpp 1 rfl ?_)
  refine mp_get (i := 18) (v := .int 0) dX2_creaseCount_1 rfl h rfl (mpp 4 rfl ?_)
  refine mp_Tf (t := 16) (j_if_ne dX2_creaseCount_4) (by decide) (by decide) (mpp 7 rfl ?_)
  refine mp_a (a_aload_n dX2_creaseCount_7 rfl) (mpp 8 rfl ?_)
  refine mp_get (i := 26) (v := .int (nI (m + 1))) dX2_creaseCount_8 rfl h rfl (mpp 11 rfl ?_)
  refine mp_a (a_iconst (v := 1) dX2_creaseCount_11 rfl) (mpp 12 rfl ?_)
  refine mp_t (s_isub (v := (nI m)) dX2_creaseCount_12 (nI_pred m)) (mpp 13 rfl ?_)
  refine mp_a (a_goto (t := 20) dX2_creaseCount_13 (by decide)) ?_
  exact mp_iret (⟨rfl, rfl⟩) dX2_creaseCount_20 (Or.inl rfl)
theorem x_cc1 {P : mP} {m : Nat} (h : P[298]? = some (2, [.int 1, .int (nI m), .int 0, .ref 299, .ref 300])) : EvP 1 25 [.ref 298] P (fun r P' => r = some (.int (nI m)) ∧ P' = P) := by
  refine EvP.of qm_25 (Nat.le_of_ble_eq_true rfl) rfl ?_
  show MEvP _ none q_25 0 [(0, .ref 298)] [] _ 0 0 _
  refine mp_a (a_aload_n dX2_creaseCount_0 rfl) (mpp 1 rfl ?_)
  refine mp_get (i := 18) (v := .int 1) dX2_creaseCount_1 rfl h rfl (mpp 4 rfl ?_)
  refine mp_Tt (t := 16) (j_if_ne dX2_creaseCount_4) (by decide) (by decide) ?_
  refine mp_a (a_aload_n dX2_creaseCount_16 rfl) (mpp 17 rfl ?_)
  refine mp_get (i := 26) (v := .int (nI m)) dX2_creaseCount_17 rfl h rfl (mpp 20 rfl ?_)
  exact mp_iret (⟨rfl, rfl⟩) dX2_creaseCount_20 (Or.inl rfl)
set_option maxHeartbeats 4000000 in
theorem x_tc0 {kd c nz : Int32} {Φ : Option Value → mP → Prop} : ∀ (j : Nat) (v : Int32) (A : List Value) (Q : mP), j ≤ 8 → A.length = 8 → Q[298]? = some (2, [.int kd, .int c, .int 0, .ref 299, .ref 300]) → Q[300]? = some (8, A) → (∀ Q' : mP, (∀ t : Nat, t ≠ 300 → Q'[t]? = Q[t]?) → (∃ B : List Value, Q'[300]? = some (8, B) ∧ B.length = 8) → Φ (some (.int 0)) Q') → MEvP 5 none q_24 20 [(4, .int (nI j - 1)), (3, .int v), (2, .int 0), (0, .ref 298), (1, .int nz)] [] Q 0 0 Φ := by
  intro j
  induction j with
  | zero =>
    intro v A Q hj hA hQ hR kk
    refine mp_a (a_iload dX2_takeCreases_20 rfl) (mpp 22 rfl ?_)
    refine mp_Tt (t := 69) (j_if_lt dX2_takeCreases_22) (by decide) (by decide) ?_
    refine mp_a (a_iload_n dX2_takeCreases_69 rfl) (mpp 70 rfl ?_)
    refine mp_Tt (t := 81) (j_if_eq dX2_takeCreases_70) (by decide) (by decide) ?_
    refine mp_a (a_iconst (v := 0) dX2_takeCreases_81 rfl) (mpp 82 rfl ?_)
    exact mp_iret (kk Q (fun _ _ => rfl) ⟨A, hR, hA⟩) dX2_takeCreases_82 (Or.inr ⟨rfl, by decide⟩)
  | succ j ih =>
    intro v A Q hj hA hQ hR kk
    rw [nI_pred]
    refine mp_a (a_iload dX2_takeCreases_20 rfl) (mpp 22 rfl ?_)
    refine mp_Tf (t := 69) (j_if_lt dX2_takeCreases_22) (fun q => absurd ((nI_ltI (a := j) (b := 0) (by omega) (by omega)).mp q) (by omega)) (by decide) (mpp 25 rfl ?_)
    refine mp_a (a_iload_n dX2_takeCreases_25 rfl) (mpp 26 rfl ?_)
    refine mp_Tt (t := 43) (j_if_eq dX2_takeCreases_26) (by decide) (by decide) ?_
    refine mp_a (a_iconst (v := 0) dX2_takeCreases_43 rfl) (mpp 44 rfl ?_)
    refine mp_a (a_istore_n (L' := [(2, .int 0), (4, .int (nI j)), (3, .int v), (0, .ref 298), (1, .int nz)]) dX2_takeCreases_44 (by decide) rfl) (mpp 45 rfl ?_)
    refine mp_a (a_aload_n dX2_takeCreases_45 rfl) (mpp 46 rfl ?_)
    refine mp_get (i := 15) (v := .ref 300) dX2_takeCreases_46 rfl hQ rfl (mpp 49 rfl ?_)
    refine mp_a (a_iload dX2_takeCreases_49 rfl) (mpp 51 rfl ?_)
    refine mp_a (a_iload_n dX2_takeCreases_51 rfl) (mpp 52 rfl ?_)
    refine mp_a (a_bipush (v := 10) dX2_takeCreases_52 rfl) (mpp 54 rfl ?_)
    refine mp_t (s_irem (v := (v - v / 10 * 10)) dX2_takeCreases_54 (by decide) rfl) (mpp 55 rfl ?_)
    refine mp_calls (i := 29) (q' := q_22) (As := [.ref 300, .int (nI j), .int (v - v / 10 * 10)]) (rest := []) dX2_takeCreases_55 rfl qm_22 (by decide) rfl (Nat.le_of_ble_eq_true rfl) rfl ⟨rfl, rfl⟩ ⟨Nat.le_of_ble_eq_true rfl, Nat.le_of_ble_eq_true rfl⟩ (EvP.mono (by decide) (x_putN (j := j) hR hA (by omega))) (fun r1 P1 g1 => mpp 58 rfl ?_)
    obtain ⟨rfl, rfl⟩ := g1
    show MEvP _ none q_24 58 [(2, .int 0), (4, .int (nI j)), (3, .int v), (0, .ref 298), (1, .int nz)] [] _ _ _ _
    refine mp_a (a_iload_n dX2_takeCreases_58 rfl) (mpp 59 rfl ?_)
    refine mp_a (a_bipush (v := 10) dX2_takeCreases_59 rfl) (mpp 61 rfl ?_)
    refine mp_t (s_idiv (v := (v / 10)) dX2_takeCreases_61 (by decide) rfl) (mpp 62 rfl ?_)
    refine mp_a (a_istore_n (L' := [(3, .int (v / 10)), (2, .int 0), (4, .int (nI j)), (0, .ref 298), (1, .int nz)]) dX2_takeCreases_62 (by decide) rfl) (mpp 63 rfl ?_)
    refine mp_a (a_iinc (v := ((nI j) - 1)) (L' := [(4, .int ((nI j) - 1)), (3, .int (v / 10)), (2, .int 0), (0, .ref 298), (1, .int nz)]) dX2_takeCreases_63 (by decide) rfl (i_m1 (nI j)) rfl) (mpp 66 rfl ?_)
    refine mp_a (a_goto (t := 20) dX2_takeCreases_66 (by decide)) ?_
    exact ih _ _ _ (by omega) (List.length_set.trans hA) (mset_ne hQ (by decide)) (mset_eq hR) (fun Q' hf hB => kk Q' (fun t ht => (hf t ht).trans (List.getElem?_set_ne (Ne.symm ht))) hB)
theorem x_tc1 {kd c nz : Int32} {Φ : Option Value → mP → Prop} : ∀ (j w : Nat) (A : List Value) (Q : mP), j ≤ 8 → w < 2 ^ 31 → A.length = 8 → Q[298]? = some (2, [.int kd, .int c, .int 0, .ref 299, .ref 300]) → Q[300]? = some (8, A) → (∀ Q' : mP, (∀ t : Nat, t ≠ 300 → Q'[t]? = Q[t]?) → (∃ B : List Value, Q'[300]? = some (8, B) ∧ B.length = 8) → Φ (some (.int (if crok j w = true then 1 else 0))) Q') → MEvP 5 none q_24 20 [(4, .int (nI j - 1)), (3, .int (nI w)), (2, .int 1), (0, .ref 298), (1, .int nz)] [] Q 0 0 Φ := by
  intro j
  induction j with
  | zero =>
    intro w A Q hj hw hA hQ hR kk
    by_cases h0 : w = 0
    · have e : (if crok 0 w = true then (1 : Int32) else 0) = 1 := by simp [crok, h0]
      rw [e] at kk
      refine mp_a (a_iload dX2_takeCreases_20 rfl) (mpp 22 rfl ?_)
      refine mp_Tt (t := 69) (j_if_lt dX2_takeCreases_22) (by decide) (by decide) ?_
      refine mp_a (a_iload_n dX2_takeCreases_69 rfl) (mpp 70 rfl ?_)
      refine mp_Tf (t := 81) (j_if_eq dX2_takeCreases_70) (by decide) (by decide) (mpp 73 rfl ?_)
      refine mp_a (a_iload_n dX2_takeCreases_73 rfl) (mpp 74 rfl ?_)
      refine mp_Tf (t := 81) (j_if_ne dX2_takeCreases_74) (fun q => q (((nI_eq (a := w) (b := 0) (by omega) (by omega)).mpr (by omega)))) (by decide) (mpp 77 rfl ?_)
      refine mp_a (a_iconst (v := 1) dX2_takeCreases_77 rfl) (mpp 78 rfl ?_)
      refine mp_a (a_goto (t := 82) dX2_takeCreases_78 (by decide)) ?_
      exact mp_iret (kk Q (fun _ _ => rfl) ⟨A, hR, hA⟩) dX2_takeCreases_82 (Or.inr ⟨rfl, by decide⟩)
    · have e : (if crok 0 w = true then (1 : Int32) else 0) = 0 := by simp [crok, h0]
      rw [e] at kk
      refine mp_a (a_iload dX2_takeCreases_20 rfl) (mpp 22 rfl ?_)
      refine mp_Tt (t := 69) (j_if_lt dX2_takeCreases_22) (by decide) (by decide) ?_
      refine mp_a (a_iload_n dX2_takeCreases_69 rfl) (mpp 70 rfl ?_)
      refine mp_Tf (t := 81) (j_if_eq dX2_takeCreases_70) (by decide) (by decide) (mpp 73 rfl ?_)
      refine mp_a (a_iload_n dX2_takeCreases_73 rfl) (mpp 74 rfl ?_)
      refine mp_Tt (t := 81) (j_if_ne dX2_takeCreases_74) (fun q => absurd ((nI_eq (a := w) (b := 0) (by omega) (by omega)).mp q) (by omega)) (by decide) ?_
      refine mp_a (a_iconst (v := 0) dX2_takeCreases_81 rfl) (mpp 82 rfl ?_)
      exact mp_iret (kk Q (fun _ _ => rfl) ⟨A, hR, hA⟩) dX2_takeCreases_82 (Or.inr ⟨rfl, by decide⟩)
  | succ j ih =>
    intro w A Q hj hw hA hQ hR kk
    rw [nI_pred]
    by_cases hz : w % 10 ≤ 2
    · have e : crok (j + 1) w = crok j (w / 10) := by simp [crok, hz]
      rw [e] at kk

      refine mp_a (a_iload dX2_takeCreases_20 rfl) (mpp 22 rfl ?_)
      refine mp_Tf (t := 69) (j_if_lt dX2_takeCreases_22) (fun q => absurd ((nI_ltI (a := j) (b := 0) (by omega) (by omega)).mp q) (by omega)) (by decide) (mpp 25 rfl ?_)
      refine mp_a (a_iload_n dX2_takeCreases_25 rfl) (mpp 26 rfl ?_)
      refine mp_Tf (t := 43) (j_if_eq dX2_takeCreases_26) (by decide) (by decide) (mpp 29 rfl ?_)
      refine mp_a (a_iload_n dX2_takeCreases_29 rfl) (mpp 30 rfl ?_)
      refine mp_a (a_bipush (v := 10) dX2_takeCreases_30 rfl) (mpp 32 rfl ?_)
      refine mp_t (s_irem (v := (nI (w % 10))) dX2_takeCreases_32 (by decide) (i_rem10 (by omega))) (mpp 33 rfl ?_)
      refine mp_calls (i := 40) (q' := q_26) (As := [.int (nI (w % 10))]) (rest := []) dX2_takeCreases_33 rfl qm_26 (by decide) rfl (Nat.le_of_ble_eq_true rfl) rfl ⟨rfl, rfl⟩ ⟨Nat.le_of_ble_eq_true rfl, Nat.le_of_ble_eq_true rfl⟩ (EvP.mono (by decide) (x_isK_t hz)) (fun r1 P1 g1 => mpp 36 rfl ?_)
      obtain ⟨rfl, rfl⟩ := g1
      show MEvP _ none q_24 36 [(4, .int (nI j)), (3, .int (nI w)), (2, .int 1), (0, .ref 298), (1, .int nz)] [.int 1] _ _ _ _
      refine mp_Tf (t := 43) (j_if_eq dX2_takeCreases_36) (by decide) (by decide) (mpp 39 rfl ?_)
      refine mp_a (a_iconst (v := 1) dX2_takeCreases_39 rfl) (mpp 40 rfl ?_)
      refine mp_a (a_goto (t := 44) dX2_takeCreases_40 (by decide)) ?_
      refine mp_a (a_istore_n (L' := [(2, .int 1), (4, .int (nI j)), (3, .int (nI w)), (0, .ref 298), (1, .int nz)]) dX2_takeCreases_44 (by decide) rfl) (mpp 45 rfl ?_)
      refine mp_a (a_aload_n dX2_takeCreases_45 rfl) (mpp 46 rfl ?_)
      refine mp_get (i := 15) (v := .ref 300) dX2_takeCreases_46 rfl hQ rfl (mpp 49 rfl ?_)
      refine mp_a (a_iload dX2_takeCreases_49 rfl) (mpp 51 rfl ?_)
      refine mp_a (a_iload_n dX2_takeCreases_51 rfl) (mpp 52 rfl ?_)
      refine mp_a (a_bipush (v := 10) dX2_takeCreases_52 rfl) (mpp 54 rfl ?_)
      refine mp_t (s_irem (v := (nI (w % 10))) dX2_takeCreases_54 (by decide) (i_rem10 (by omega))) (mpp 55 rfl ?_)
      refine mp_calls (i := 29) (q' := q_22) (As := [.ref 300, .int (nI j), .int (nI (w % 10))]) (rest := []) dX2_takeCreases_55 rfl qm_22 (by decide) rfl (Nat.le_of_ble_eq_true rfl) rfl ⟨rfl, rfl⟩ ⟨Nat.le_of_ble_eq_true rfl, Nat.le_of_ble_eq_true rfl⟩ (EvP.mono (by decide) (x_putN (j := j) hR hA (by omega))) (fun r1 P1 g2 => mpp 58 rfl ?_)
      obtain ⟨rfl, rfl⟩ := g2
      show MEvP _ none q_24 58 [(2, .int 1), (4, .int (nI j)), (3, .int (nI w)), (0, .ref 298), (1, .int nz)] [] _ _ _ _
      refine mp_a (a_iload_n dX2_takeCreases_58 rfl) (mpp 59 rfl ?_)
      refine mp_a (a_bipush (v := 10) dX2_takeCreases_59 rfl) (mpp 61 rfl ?_)
      refine mp_t (s_idiv (v := (nI (w / 10))) dX2_takeCreases_61 (by decide) (i_div10 (by omega))) (mpp 62 rfl ?_)
      refine mp_a (a_istore_n (L' := [(3, .int (nI (w / 10))), (2, .int 1), (4, .int (nI j)), (0, .ref 298), (1, .int nz)]) dX2_takeCreases_62 (by decide) rfl) (mpp 63 rfl ?_)
      refine mp_a (a_iinc (v := ((nI j) - 1)) (L' := [(4, .int ((nI j) - 1)), (3, .int (nI (w / 10))), (2, .int 1), (0, .ref 298), (1, .int nz)]) dX2_takeCreases_63 (by decide) rfl (i_m1 (nI j)) rfl) (mpp 66 rfl ?_)
      refine mp_a (a_goto (t := 20) dX2_takeCreases_66 (by decide)) ?_
      exact ih (w / 10) _ _ (by omega) (by omega) (List.length_set.trans hA) (mset_ne hQ (by decide)) (mset_eq hR) (fun Q' hf hB => kk Q' (fun t ht => (hf t ht).trans (List.getElem?_set_ne (Ne.symm ht))) hB)
    · have e : (if crok (j + 1) w = true then (1 : Int32) else 0) = 0 := by simp [crok, hz]
      rw [e] at kk
      refine mp_a (a_iload dX2_takeCreases_20 rfl) (mpp 22 rfl ?_)
      refine mp_Tf (t := 69) (j_if_lt dX2_takeCreases_22) (fun q => absurd ((nI_ltI (a := j) (b := 0) (by omega) (by omega)).mp q) (by omega)) (by decide) (mpp 25 rfl ?_)
      refine mp_a (a_iload_n dX2_takeCreases_25 rfl) (mpp 26 rfl ?_)
      refine mp_Tf (t := 43) (j_if_eq dX2_takeCreases_26) (by decide) (by decide) (mpp 29 rfl ?_)
      refine mp_a (a_iload_n dX2_takeCreases_29 rfl) (mpp 30 rfl ?_)
      refine mp_a (a_bipush (v := 10) dX2_takeCreases_30 rfl) (mpp 32 rfl ?_)
      refine mp_t (s_irem (v := (nI (w % 10))) dX2_takeCreases_32 (by decide) (i_rem10 (by omega))) (mpp 33 rfl ?_)
      refine mp_calls (i := 40) (q' := q_26) (As := [.int (nI (w % 10))]) (rest := []) dX2_takeCreases_33 rfl qm_26 (by decide) rfl (Nat.le_of_ble_eq_true rfl) rfl ⟨rfl, rfl⟩ ⟨Nat.le_of_ble_eq_true rfl, Nat.le_of_ble_eq_true rfl⟩ (EvP.mono (by decide) (x_isK_f (by omega) (by omega))) (fun r1 P1 g1 => mpp 36 rfl ?_)
      obtain ⟨rfl, rfl⟩ := g1
      show MEvP _ none q_24 36 [(4, .int (nI j)), (3, .int (nI w)), (2, .int 1), (0, .ref 298), (1, .int nz)] [.int 0] _ _ _ _
      refine mp_Tt (t := 43) (j_if_eq dX2_takeCreases_36) (by decide) (by decide) ?_
      refine mp_a (a_iconst (v := 0) dX2_takeCreases_43 rfl) (mpp 44 rfl ?_)
      refine mp_a (a_istore_n (L' := [(2, .int 0), (4, .int (nI j)), (3, .int (nI w)), (0, .ref 298), (1, .int nz)]) dX2_takeCreases_44 (by decide) rfl) (mpp 45 rfl ?_)
      refine mp_a (a_aload_n dX2_takeCreases_45 rfl) (mpp 46 rfl ?_)
      refine mp_get (i := 15) (v := .ref 300) dX2_takeCreases_46 rfl hQ rfl (mpp 49 rfl ?_)
      refine mp_a (a_iload dX2_takeCreases_49 rfl) (mpp 51 rfl ?_)
      refine mp_a (a_iload_n dX2_takeCreases_51 rfl) (mpp 52 rfl ?_)
      refine mp_a (a_bipush (v := 10) dX2_takeCreases_52 rfl) (mpp 54 rfl ?_)
      refine mp_t (s_irem (v := (nI (w % 10))) dX2_takeCreases_54 (by decide) (i_rem10 (by omega))) (mpp 55 rfl ?_)
      refine mp_calls (i := 29) (q' := q_22) (As := [.ref 300, .int (nI j), .int (nI (w % 10))]) (rest := []) dX2_takeCreases_55 rfl qm_22 (by decide) rfl (Nat.le_of_ble_eq_true rfl) rfl ⟨rfl, rfl⟩ ⟨Nat.le_of_ble_eq_true rfl, Nat.le_of_ble_eq_true rfl⟩ (EvP.mono (by decide) (x_putN (j := j) hR hA (by omega))) (fun r1 P1 g2 => mpp 58 rfl ?_)
      obtain ⟨rfl, rfl⟩ := g2
      show MEvP _ none q_24 58 [(2, .int 0), (4, .int (nI j)), (3, .int (nI w)), (0, .ref 298), (1, .int nz)] [] _ _ _ _
      refine mp_a (a_iload_n dX2_takeCreases_58 rfl) (mpp 59 rfl ?_)
      refine mp_a (a_bipush (v := 10) dX2_takeCreases_59 rfl) (mpp 61 rfl ?_)
      refine mp_t (s_idiv (v := (nI (w / 10))) dX2_takeCreases_61 (by decide) (i_div10 (by omega))) (mpp 62 rfl ?_)
      refine mp_a (a_istore_n (L' := [(3, .int (nI (w / 10))), (2, .int 0), (4, .int (nI j)), (0, .ref 298), (1, .int nz)]) dX2_takeCreases_62 (by decide) rfl) (mpp 63 rfl ?_)
      refine mp_a (a_iinc (v := ((nI j) - 1)) (L' := [(4, .int ((nI j) - 1)), (3, .int (nI (w / 10))), (2, .int 0), (0, .ref 298), (1, .int nz)]) dX2_takeCreases_63 (by decide) rfl (i_m1 (nI j)) rfl) (mpp 66 rfl ?_)
      refine mp_a (a_goto (t := 20) dX2_takeCreases_66 (by decide)) ?_
      exact x_tc0 j _ _ _ (by omega) (List.length_set.trans hA) (mset_ne hQ (by decide)) (mset_eq hR) (fun Q' hf hB => kk Q' (fun t ht => (hf t ht).trans (List.getElem?_set_ne (Ne.symm ht))) hB)
set_option maxHeartbeats 4000000 in
theorem x_takeCreases0 {P : mP} {m w : Nat} (hw : w < 2 ^ 31) (hm : m ≤ 8) (h298 : P[298]? = some (2, [.int 0, .int (nI (m + 1)), .int 0, .ref 299, .ref 300])) (h300 : P[300]? = some (8, A8)) : EvP 6 24 [.ref 298, .int (nI w)] P (fun r P' => r = some (.int (if crok m w = true then 1 else 0)) ∧ (∀ t : Nat, t ≠ 300 → P'[t]? = P[t]?) ∧ (∃ B : List Value, P'[300]? = some (8, B) ∧ B.length = 8)) := by
  refine EvP.of qm_24 (Nat.le_of_ble_eq_true rfl) rfl ?_
  show MEvP _ none q_24 0 [(0, .ref 298), (1, .int (nI w))] [] _ 0 0 _
  refine mp_a (a_iload_n dX2_takeCreases_0 rfl) (mpp 1 rfl ?_)
  refine mp_Tf (t := 8) (j_if_lt dX2_takeCreases_1) (fun q => absurd ((nI_ltI (a := w) (b := 0) (by omega) (by omega)).mp q) (by omega)) (by decide) (mpp 4 rfl ?_)
  refine mp_a (a_iconst (v := 1) dX2_takeCreases_4 rfl) (mpp 5 rfl ?_)
  refine mp_a (a_goto (t := 9) dX2_takeCreases_5 (by decide)) ?_
  refine mp_a (a_istore_n (L' := [(2, .int 1), (0, .ref 298), (1, .int (nI w))]) dX2_takeCreases_9 (by decide) rfl) (mpp 10 rfl ?_)
  refine mp_a (a_iload_n dX2_takeCreases_10 rfl) (mpp 11 rfl ?_)
  refine mp_a (a_istore_n (L' := [(3, .int (nI w)), (2, .int 1), (0, .ref 298), (1, .int (nI w))]) dX2_takeCreases_11 (by decide) rfl) (mpp 12 rfl ?_)
  refine mp_a (a_aload_n dX2_takeCreases_12 rfl) (mpp 13 rfl ?_)
  refine mp_callv (i := 37) (q' := q_25) (As := []) (rest := []) dX2_takeCreases_13 rfl qm_25 (by decide) rfl h298 (by decide) (Nat.le_of_ble_eq_true rfl) rfl ⟨rfl, rfl⟩ ⟨Nat.le_of_ble_eq_true rfl, Nat.le_of_ble_eq_true rfl⟩ (EvP.mono (by decide) (x_cc0 h298)) (fun r1 P1 g1 => mpp 16 rfl ?_)
  obtain ⟨rfl, rfl⟩ := g1
  show MEvP _ none q_24 16 [(3, .int (nI w)), (2, .int 1), (0, .ref 298), (1, .int (nI w))] [.int (nI m)] _ _ _ _
  refine mp_a (a_iconst (v := 1) dX2_takeCreases_16 rfl) (mpp 17 rfl ?_)
  refine mp_t (s_isub (v := ((nI m) - 1)) dX2_takeCreases_17 rfl) (mpp 18 rfl ?_)
  refine mp_a (a_istore (L' := [(4, .int ((nI m) - 1)), (3, .int (nI w)), (2, .int 1), (0, .ref 298), (1, .int (nI w))]) dX2_takeCreases_18 (by decide) rfl) (mpp 20 rfl ?_)
  exact x_tc1 m w A8 _ hm hw rfl h298 h300 (fun Q' hf hB => ⟨rfl, hf, hB⟩)
set_option maxHeartbeats 4000000 in
theorem x_takeCreasesN0 {P : mP} {m : Nat} {nz : Int32} (hn : nz < 0) (hm : m ≤ 8) (h298 : P[298]? = some (2, [.int 0, .int (nI (m + 1)), .int 0, .ref 299, .ref 300])) (h300 : P[300]? = some (8, A8)) : EvP 6 24 [.ref 298, .int nz] P (fun r P' => r = some (.int 0) ∧ (∀ t : Nat, t ≠ 300 → P'[t]? = P[t]?) ∧ (∃ B : List Value, P'[300]? = some (8, B) ∧ B.length = 8)) := by
  refine EvP.of qm_24 (Nat.le_of_ble_eq_true rfl) rfl ?_
  show MEvP _ none q_24 0 [(0, .ref 298), (1, .int nz)] [] _ 0 0 _
  refine mp_a (a_iload_n dX2_takeCreases_0 rfl) (mpp 1 rfl ?_)
  refine mp_Tt (t := 8) (j_if_lt dX2_takeCreases_1) hn (by decide) ?_
  refine mp_a (a_iconst (v := 0) dX2_takeCreases_8 rfl) (mpp 9 rfl ?_)
  refine mp_a (a_istore_n (L' := [(2, .int 0), (0, .ref 298), (1, .int nz)]) dX2_takeCreases_9 (by decide) rfl) (mpp 10 rfl ?_)
  refine mp_a (a_iload_n dX2_takeCreases_10 rfl) (mpp 11 rfl ?_)
  refine mp_a (a_istore_n (L' := [(3, .int nz), (2, .int 0), (0, .ref 298), (1, .int nz)]) dX2_takeCreases_11 (by decide) rfl) (mpp 12 rfl ?_)
  refine mp_a (a_aload_n dX2_takeCreases_12 rfl) (mpp 13 rfl ?_)
  refine mp_callv (i := 37) (q' := q_25) (As := []) (rest := []) dX2_takeCreases_13 rfl qm_25 (by decide) rfl h298 (by decide) (Nat.le_of_ble_eq_true rfl) rfl ⟨rfl, rfl⟩ ⟨Nat.le_of_ble_eq_true rfl, Nat.le_of_ble_eq_true rfl⟩ (EvP.mono (by decide) (x_cc0 h298)) (fun r1 P1 g1 => mpp 16 rfl ?_)
  obtain ⟨rfl, rfl⟩ := g1
  show MEvP _ none q_24 16 [(3, .int nz), (2, .int 0), (0, .ref 298), (1, .int nz)] [.int (nI m)] _ _ _ _
  refine mp_a (a_iconst (v := 1) dX2_takeCreases_16 rfl) (mpp 17 rfl ?_)
  refine mp_t (s_isub (v := ((nI m) - 1)) dX2_takeCreases_17 rfl) (mpp 18 rfl ?_)
  refine mp_a (a_istore (L' := [(4, .int ((nI m) - 1)), (3, .int nz), (2, .int 0), (0, .ref 298), (1, .int nz)]) dX2_takeCreases_18 (by decide) rfl) (mpp 20 rfl ?_)
  exact x_tc0 m nz A8 _ hm rfl h298 h300 (fun Q' hf hB => ⟨rfl, hf, hB⟩)
set_option maxHeartbeats 4000000 in
theorem x_takeCreases1 {P : mP} {m w : Nat} (hw : w < 2 ^ 31) (hm : m ≤ 8) (h298 : P[298]? = some (2, [.int 1, .int (nI m), .int 0, .ref 299, .ref 300])) (h300 : P[300]? = some (8, A8)) : EvP 6 24 [.ref 298, .int (nI w)] P (fun r P' => r = some (.int (if crok m w = true then 1 else 0)) ∧ (∀ t : Nat, t ≠ 300 → P'[t]? = P[t]?) ∧ (∃ B : List Value, P'[300]? = some (8, B) ∧ B.length = 8)) := by
  refine EvP.of qm_24 (Nat.le_of_ble_eq_true rfl) rfl ?_
  show MEvP _ none q_24 0 [(0, .ref 298), (1, .int (nI w))] [] _ 0 0 _
  refine mp_a (a_iload_n dX2_takeCreases_0 rfl) (mpp 1 rfl ?_)
  refine mp_Tf (t := 8) (j_if_lt dX2_takeCreases_1) (fun q => absurd ((nI_ltI (a := w) (b := 0) (by omega) (by omega)).mp q) (by omega)) (by decide) (mpp 4 rfl ?_)
  refine mp_a (a_iconst (v := 1) dX2_takeCreases_4 rfl) (mpp 5 rfl ?_)
  refine mp_a (a_goto (t := 9) dX2_takeCreases_5 (by decide)) ?_
  refine mp_a (a_istore_n (L' := [(2, .int 1), (0, .ref 298), (1, .int (nI w))]) dX2_takeCreases_9 (by decide) rfl) (mpp 10 rfl ?_)
  refine mp_a (a_iload_n dX2_takeCreases_10 rfl) (mpp 11 rfl ?_)
  refine mp_a (a_istore_n (L' := [(3, .int (nI w)), (2, .int 1), (0, .ref 298), (1, .int (nI w))]) dX2_takeCreases_11 (by decide) rfl) (mpp 12 rfl ?_)
  refine mp_a (a_aload_n dX2_takeCreases_12 rfl) (mpp 13 rfl ?_)
  refine mp_callv (i := 37) (q' := q_25) (As := []) (rest := []) dX2_takeCreases_13 rfl qm_25 (by decide) rfl h298 (by decide) (Nat.le_of_ble_eq_true rfl) rfl ⟨rfl, rfl⟩ ⟨Nat.le_of_ble_eq_true rfl, Nat.le_of_ble_eq_true rfl⟩ (EvP.mono (by decide) (x_cc1 h298)) (fun r1 P1 g1 => mpp 16 rfl ?_)
  obtain ⟨rfl, rfl⟩ := g1
  show MEvP _ none q_24 16 [(3, .int (nI w)), (2, .int 1), (0, .ref 298), (1, .int (nI w))] [.int (nI m)] _ _ _ _
  refine mp_a (a_iconst (v := 1) dX2_takeCreases_16 rfl) (mpp 17 rfl ?_)
  refine mp_t (s_isub (v := ((nI m) - 1)) dX2_takeCreases_17 rfl) (mpp 18 rfl ?_)
  refine mp_a (a_istore (L' := [(4, .int ((nI m) - 1)), (3, .int (nI w)), (2, .int 1), (0, .ref 298), (1, .int (nI w))]) dX2_takeCreases_18 (by decide) rfl) (mpp 20 rfl ?_)
  exact x_tc1 m w A8 _ hm hw rfl h298 h300 (fun Q' hf hB => ⟨rfl, hf, hB⟩)
set_option maxHeartbeats 4000000 in
theorem x_takeCreasesN1 {P : mP} {m : Nat} {nz : Int32} (hn : nz < 0) (hm : m ≤ 8) (h298 : P[298]? = some (2, [.int 1, .int (nI m), .int 0, .ref 299, .ref 300])) (h300 : P[300]? = some (8, A8)) : EvP 6 24 [.ref 298, .int nz] P (fun r P' => r = some (.int 0) ∧ (∀ t : Nat, t ≠ 300 → P'[t]? = P[t]?) ∧ (∃ B : List Value, P'[300]? = some (8, B) ∧ B.length = 8)) := by
  refine EvP.of qm_24 (Nat.le_of_ble_eq_true rfl) rfl ?_
  show MEvP _ none q_24 0 [(0, .ref 298), (1, .int nz)] [] _ 0 0 _
  refine mp_a (a_iload_n dX2_takeCreases_0 rfl) (mpp 1 rfl ?_)
  refine mp_Tt (t := 8) (j_if_lt dX2_takeCreases_1) hn (by decide) ?_
  refine mp_a (a_iconst (v := 0) dX2_takeCreases_8 rfl) (mpp 9 rfl ?_)
  refine mp_a (a_istore_n (L' := [(2, .int 0), (0, .ref 298), (1, .int nz)]) dX2_takeCreases_9 (by decide) rfl) (mpp 10 rfl ?_)
  refine mp_a (a_iload_n dX2_takeCreases_10 rfl) (mpp 11 rfl ?_)
  refine mp_a (a_istore_n (L' := [(3, .int nz), (2, .int 0), (0, .ref 298), (1, .int nz)]) dX2_takeCreases_11 (by decide) rfl) (mpp 12 rfl ?_)
  refine mp_a (a_aload_n dX2_takeCreases_12 rfl) (mpp 13 rfl ?_)
  refine mp_callv (i := 37) (q' := q_25) (As := []) (rest := []) dX2_takeCreases_13 rfl qm_25 (by decide) rfl h298 (by decide) (Nat.le_of_ble_eq_true rfl) rfl ⟨rfl, rfl⟩ ⟨Nat.le_of_ble_eq_true rfl, Nat.le_of_ble_eq_true rfl⟩ (EvP.mono (by decide) (x_cc1 h298)) (fun r1 P1 g1 => mpp 16 rfl ?_)
  obtain ⟨rfl, rfl⟩ := g1
  show MEvP _ none q_24 16 [(3, .int nz), (2, .int 0), (0, .ref 298), (1, .int nz)] [.int (nI m)] _ _ _ _
  refine mp_a (a_iconst (v := 1) dX2_takeCreases_16 rfl) (mpp 17 rfl ?_)
  refine mp_t (s_isub (v := ((nI m) - 1)) dX2_takeCreases_17 rfl) (mpp 18 rfl ?_)
  refine mp_a (a_istore (L' := [(4, .int ((nI m) - 1)), (3, .int nz), (2, .int 0), (0, .ref 298), (1, .int nz)]) dX2_takeCreases_18 (by decide) rfl) (mpp 20 rfl ?_)
  exact x_tc0 m nz A8 _ hm rfl h298 h300 (fun Q' hf hB => ⟨rfl, hf, hB⟩)
theorem mgs {A : List Value} {j : Nat} {x : Int32} (h : j < A.length) : mint ((A.set j (.int x)).getD j .null) = x := by simp [List.getD, h, mint]
set_option maxHeartbeats 4000000 in
theorem x_copyRow_loop {P : mP} {a b : Nat} {vs : List Value} (hab : a ≠ b) (hv : vs.length = 8) : ∀ (n k : Nat) (w : List Value) (Q : mP), k + n = 8 → w.length = 8 → Q[a]? = some (8, vs) → Q[b]? = some (8, w) → (∀ t : Nat, t ≠ b → Q[t]? = P[t]?) → MEvP 0 none q_19 2 [(2, .int (nI k)), (0, .ref a), (1, .ref b)] [] Q 0 0 (fun r P' => r = none ∧ ∀ t : Nat, t ≠ b → P'[t]? = P[t]?) := by
  intro n
  induction n with
  | zero =>
    intro k w Q hk hl h1 h2 hf
    have hk : k = 8 := by omega
    subst hk
    refine mp_a (a_iload_n dX6_copyRow_2 rfl) (mpp 3 rfl ?_)
    refine mp_a (a_aload_n dX6_copyRow_3 rfl) (mpp 4 rfl ?_)
    refine mp_len (n := 8) dX6_copyRow_4 h1 (by decide) (by rw [hv]; rfl) (mpp 5 rfl ?_)
    refine mp_Tt (t := 26) (j_icmp_ge dX6_copyRow_5) (by decide) (by decide) ?_
    exact mp_ret (⟨rfl, hf⟩) dX6_copyRow_26 rfl
  | succ n ih =>
    intro k w Q hk hl h1 h2 hf
    refine mp_a (a_iload_n dX6_copyRow_2 rfl) (mpp 3 rfl ?_)
    refine mp_a (a_aload_n dX6_copyRow_3 rfl) (mpp 4 rfl ?_)
    refine mp_len (n := 8) dX6_copyRow_4 h1 (by decide) (by rw [hv]; rfl) (mpp 5 rfl ?_)
    refine mp_Tf (t := 26) (j_icmp_ge dX6_copyRow_5) (fun q => absurd ((nI_leI (a := 8) (b := k) (by omega) (by omega)).mp q) (by omega)) (by decide) (mpp 8 rfl ?_)
    refine mp_a (a_iload_n dX6_copyRow_8 rfl) (mpp 9 rfl ?_)
    refine mp_a (a_aload_n dX6_copyRow_9 rfl) (mpp 10 rfl ?_)
    refine mp_len (n := 8) dX6_copyRow_10 h2 (by decide) (by rw [hl]; rfl) (mpp 11 rfl ?_)
    refine mp_Tf (t := 26) (j_icmp_ge dX6_copyRow_11) (fun q => absurd ((nI_leI (a := 8) (b := k) (by omega) (by omega)).mp q) (by omega)) (by decide) (mpp 14 rfl ?_)
    refine mp_a (a_aload_n dX6_copyRow_14 rfl) (mpp 15 rfl ?_)
    refine mp_a (a_iload_n dX6_copyRow_15 rfl) (mpp 16 rfl ?_)
    refine mp_a (a_aload_n dX6_copyRow_16 rfl) (mpp 17 rfl ?_)
    refine mp_a (a_iload_n dX6_copyRow_17 rfl) (mpp 18 rfl ?_)
    refine mp_ial (N := 8) (v := (mint (vs.getD (k) .null))) dX6_copyRow_18 h1 hv (i_in (by omega) (by decide)) (by rw [nI_clamp (by omega)]) (mpp 19 rfl ?_)
    refine mp_ias (N := 8) dX6_copyRow_19 h2 hl (i_in (by omega) (by decide)) (mpp 20 rfl ?_)
    rw [show (nI (k)).toNatClampNeg = k from nI_clamp (by omega)]
    refine mp_a (a_iinc (v := (nI (k + 1))) (L' := [(2, .int (nI (k + 1))), (0, .ref a), (1, .ref b)]) dX6_copyRow_20 (by decide) rfl (nI_1 (k)) rfl) (mpp 23 rfl ?_)
    refine mp_a (a_goto (t := 2) dX6_copyRow_23 (by decide)) ?_
    exact ih (k + 1) _ _ (by omega) (List.length_set.trans hl) (mset_ne h1 (Ne.symm hab)) (mset_eq h2) (fun t ht => (List.getElem?_set_ne (Ne.symm ht)).trans (hf t ht))
theorem x_copyRow {P : mP} {a b : Nat} {vs w : List Value} (ha : P[a]? = some (8, vs)) (hb : P[b]? = some (8, w)) (hv : vs.length = 8) (hl : w.length = 8) (hab : a ≠ b) : EvP 1 19 [.ref a, .ref b] P (fun r P' => r = none ∧ ∀ t : Nat, t ≠ b → P'[t]? = P[t]?) := by
  refine EvP.of qm_19 (Nat.le_of_ble_eq_true rfl) rfl ?_
  show MEvP _ none q_19 0 [(0, .ref a), (1, .ref b)] [] _ 0 0 _
  refine mp_a (a_iconst (v := 0) dX6_copyRow_0 rfl) (mpp 1 rfl ?_)
  refine mp_a (a_istore_n (L' := [(2, .int 0), (0, .ref a), (1, .ref b)]) dX6_copyRow_1 (by decide) rfl) (mpp 2 rfl ?_)
  exact x_copyRow_loop hab hv 8 0 w P (by omega) hl ha hb (fun _ _ => rfl)
