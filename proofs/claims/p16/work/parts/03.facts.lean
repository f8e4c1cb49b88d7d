/-! tables: classes, fields, methods, calls, with the words of the tables that each rests on (written by a program) -/
def mNest : Cond → Bool
  | .methodLinkNest _ _ _ _ => true
  | .fieldLinkNest _ _ _ _ _ _ => true
  | _ => false
def lw_good : List Cond := lw_tbl.filter goodWord
def lw_nests : List Cond := lw_tbl.filter mNest
theorem mgd {w : Cond} (i : Nat) (h : lw_tbl[i]? = some w) (g : goodWord w = true) : w ∈ lw_good := List.mem_filter.mpr ⟨List.mem_of_getElem? h, g⟩
theorem mns {w : Cond} (i : Nat) (h : lw_tbl[i]? = some w) (g : mNest w = true) : w ∈ lw_nests := List.mem_filter.mpr ⟨List.mem_of_getElem? h, g⟩
def mkB (i : Nat) (w : Cond) : Bool := decide (lw_tbl[i]? = some w) && goodWord w
theorem mkB_ok {i : Nat} {w : Cond} (h : mkB i w = true) : w ∈ lw_good := by
  unfold mkB at h
  rw [Bool.and_eq_true] at h
  exact mgd i (of_decide_eq_true h.1) h.2
def mnB (i : Nat) (w : Cond) : Bool := decide (lw_tbl[i]? = some w) && mNest w
theorem mnB_ok {i : Nat} {w : Cond} (h : mnB i w = true) : w ∈ lw_nests := by
  unfold mnB at h
  rw [Bool.and_eq_true] at h
  exact mns i (of_decide_eq_true h.1) h.2
def zAll {α β : Type} (f : α → β → Bool) : List α → List β → Bool
  | a :: as, b :: bs => f a b && zAll f as bs
  | [], [] => true
  | _, _ => false
theorem zAll_ok {α β : Type} {f : α → β → Bool} {p : β → Prop} (hf : ∀ a b, f a b = true → p b) : ∀ (as : List α) (bs : List β), zAll f as bs = true → ∀ q ∈ bs, p q := by
  intro as
  induction as with
  | nil =>
    intro bs h
    cases bs with
    | nil => exact fun q hq => absurd hq List.not_mem_nil
    | cons b bs => exact absurd h (by intro z; cases z)
  | cons a as ih =>
    intro bs h
    cases bs with
    | nil => exact absurd h (by intro z; cases z)
    | cons b bs =>
      have h : (f a b && zAll f as bs) = true := h
      rw [Bool.and_eq_true] at h
      exact List.forall_mem_cons.mpr ⟨hf a b h.1, ih bs h.2⟩
def cN : Nat → String
  | 0 => RX0
  | 1 => RX1
  | 2 => RX2
  | 3 => RX3
  | 4 => RX4
  | 5 => RX5
  | 6 => RX6
  | 7 => RX7
  | 8 => RL
  | 9 => RJ9
  | _ => RJxf58ca
def cT : Nat → u_T
  | 0 => TX0
  | 1 => TX1
  | 2 => TX2
  | 3 => TX3
  | 4 => TX4
  | 5 => TX5
  | 6 => TX6
  | _ => TX7
def cS : Nat → Nat
  | 0 => 4
  | 1 => 4
  | 2 => 5
  | 3 => 4
  | 4 => 8
  | 5 => 4
  | 6 => 13
  | _ => 30
def cY : Nat → Nat → FieldType
  | 0 => tyX0
  | 1 => tyX1
  | 2 => tyX2
  | 3 => tyX3
  | 4 => tyX4
  | 5 => tyX5
  | 6 => tyX6
  | _ => tyX7
abbrev vwCl : List vw_C := [(RX0, TX0, 4), (RX1, TX1, 4), (RX2, TX2, 5), (RX3, TX3, 4), (RX4, TX4, 8), (RX5, TX5, 4), (RX6, TX6, 13), (RX7, TX7, 30)]
set_option maxRecDepth 20000 in
theorem mlay0 : ∀ w ∈ u_ws RX0 TX0 4, w ∈ lw_good := by decide +kernel
set_option maxRecDepth 20000 in
theorem mlay1 : ∀ w ∈ u_ws RX1 TX1 4, w ∈ lw_good := by decide +kernel
set_option maxRecDepth 20000 in
theorem mlay2 : ∀ w ∈ u_ws RX2 TX2 5, w ∈ lw_good := by decide +kernel
set_option maxRecDepth 20000 in
theorem mlay3 : ∀ w ∈ u_ws RX3 TX3 4, w ∈ lw_good := by decide +kernel
set_option maxRecDepth 20000 in
theorem mlay4 : ∀ w ∈ u_ws RX4 TX4 8, w ∈ lw_good := by decide +kernel
set_option maxRecDepth 20000 in
theorem mlay5 : ∀ w ∈ u_ws RX5 TX5 4, w ∈ lw_good := by decide +kernel
set_option maxRecDepth 20000 in
theorem mlay6 : ∀ w ∈ u_ws RX6 TX6 13, w ∈ lw_good := by decide +kernel
set_option maxRecDepth 20000 in
theorem mlay7 : ∀ w ∈ u_ws RX7 TX7 30, w ∈ lw_good := by decide +kernel
def clOK (ci : Nat) : Prop := vwCl[ci]? = some (cN ci, cT ci, cS ci) ∧ (∀ w ∈ u_ws (cN ci) (cT ci) (cS ci), w ∈ lw_good) ∧ (∀ k, k < cS ci → parseFieldDescriptor (cT ci k).2.2.1 = some (cY ci k)) ∧ (∀ a, a < cS ci → ∀ b, b < cS ci → a ≠ b → (cT ci a).2.1 ≠ (cT ci b).2.1) ∧ (Cond.instantiable (cN ci) (cS ci)) ∈ lw_good ∧ (Cond.initialized (cN ci)) ∈ lw_good ∧ ∀ k, k < cS ci → (cT ci k).1 = cN ci
theorem clOK0 : clOK 0 := ⟨rfl, mlay0, tyX0_ok, nmX0, mgd 228 (by decide +kernel) rfl, mgd 152 (by decide +kernel) rfl, by decide +kernel⟩
theorem clOK1 : clOK 1 := ⟨rfl, mlay1, tyX1_ok, nmX1, mgd 308 (by decide +kernel) rfl, mgd 155 (by decide +kernel) rfl, by decide +kernel⟩
theorem clOK2 : clOK 2 := ⟨rfl, mlay2, tyX2_ok, nmX2, mgd 175 (by decide +kernel) rfl, mgd 151 (by decide +kernel) rfl, by decide +kernel⟩
theorem clOK3 : clOK 3 := ⟨rfl, mlay3, tyX3_ok, nmX3, mgd 289 (by decide +kernel) rfl, mgd 154 (by decide +kernel) rfl, by decide +kernel⟩
theorem clOK4 : clOK 4 := ⟨rfl, mlay4, tyX4_ok, nmX4, mgd 252 (by decide +kernel) rfl, mgd 153 (by decide +kernel) rfl, by decide +kernel⟩
theorem clOK5 : clOK 5 := ⟨rfl, mlay5, tyX5_ok, nmX5, mgd 168 (by decide +kernel) rfl, mgd 150 (by decide +kernel) rfl, by decide +kernel⟩
theorem clOK6 : clOK 6 := ⟨rfl, mlay6, tyX6_ok, nmX6, mgd 160 (by decide +kernel) rfl, mgd 149 (by decide +kernel) rfl, by decide +kernel⟩
theorem clOK7 : clOK 7 := ⟨rfl, mlay7, tyX7_ok, nmX7, mgd 878 (by decide +kernel) rfl, mgd 156 (by decide +kernel) rfl, by decide +kernel⟩
theorem cl_ok (ci : Nat) (h : ci < 8) : clOK ci := match ci, h with
  | 0, _ => clOK0
  | 1, _ => clOK1
  | 2, _ => clOK2
  | 3, _ => clOK3
  | 4, _ => clOK4
  | 5, _ => clOK5
  | 6, _ => clOK6
  | 7, _ => clOK7
  | k + 8, h => absurd h (by omega)
def ffact (o i ci k : Nat) (nest : Bool) : Prop := ci < 8 ∧ k < cS ci ∧ (nest = true → ∃ host, Cond.fieldLinkNest (cN o) i (cT ci k).1 (cT ci k).2.1 (cT ci k).2.2.1 host ∈ lw_nests) ∧ (nest = false → Cond.fieldLink (cN o) i (cT ci k).1 (cT ci k).2.1 (cT ci k).2.2.1 ∈ lw_good)
def ffB (o : Nat) (h : Nat × String) (q : Nat × Nat × Nat × Bool) : Bool := decide (q.2.1 < 8) && decide (q.2.2.1 < cS q.2.1) && (if q.2.2.2 = true then mnB h.1 (Cond.fieldLinkNest (cN o) q.1 (cT q.2.1 q.2.2.1).1 (cT q.2.1 q.2.2.1).2.1 (cT q.2.1 q.2.2.1).2.2.1 h.2) else mkB h.1 (Cond.fieldLink (cN o) q.1 (cT q.2.1 q.2.2.1).1 (cT q.2.1 q.2.2.1).2.1 (cT q.2.1 q.2.2.1).2.2.1))
theorem ffB_ok {o : Nat} (h : Nat × String) (q : Nat × Nat × Nat × Bool) (e : ffB o h q = true) : ffact o q.1 q.2.1 q.2.2.1 q.2.2.2 := by
  unfold ffB at e
  rw [Bool.and_eq_true, Bool.and_eq_true] at e
  obtain ⟨⟨e1, e2⟩, e3⟩ := e
  by_cases c : q.2.2.2 = true
  · rw [if_pos c] at e3
    exact ⟨of_decide_eq_true e1, of_decide_eq_true e2, fun _ => ⟨h.2, mnB_ok e3⟩, fun z => absurd (c.symm.trans z) (by decide)⟩
  · rw [if_neg c] at e3
    exact ⟨of_decide_eq_true e1, of_decide_eq_true e2, fun z => absurd z c, fun _ => mkB_ok e3⟩
def fld0 : List (Nat × Nat × Nat × Bool) := [(11, 0, 0, false), (18, 0, 1, false), (26, 0, 3, false), (34, 0, 2, false)]
theorem fld0_ok : ∀ q ∈ fld0, ffact 0 q.1 q.2.1 q.2.2.1 q.2.2.2 := zAll_ok ffB_ok ([(236, ""), (237, ""), (240, ""), (238, "")] : List (Nat × String)) fld0 (by decide +kernel)
def fld1 : List (Nat × Nat × Nat × Bool) := [(9, 1, 1, false), (15, 1, 2, false), (18, 1, 3, false), (30, 1, 0, false), (42, 2, 1, true), (51, 2, 4, true)]
theorem fld1_ok : ∀ q ∈ fld1, ffact 1 q.1 q.2.1 q.2.2.1 q.2.2.2 := zAll_ok ffB_ok ([(314, ""), (316, ""), (317, ""), (313, ""), (186, RX6), (197, RX6)] : List (Nat × String)) fld1 (by decide +kernel)
def fld2 : List (Nat × Nat × Nat × Bool) := [(9, 2, 3, false), (15, 2, 4, false), (18, 2, 0, false), (22, 2, 2, false), (26, 2, 1, false)]
theorem fld2_ok : ∀ q ∈ fld2, ffact 2 q.1 q.2.1 q.2.2.1 q.2.2.2 := zAll_ok ffB_ok ([(192, ""), (195, ""), (180, ""), (189, ""), (185, "")] : List (Nat × String)) fld2 (by decide +kernel)
def fld3 : List (Nat × Nat × Nat × Bool) := [(9, 3, 2, false), (15, 3, 3, false), (18, 2, 0, true), (24, 3, 0, false), (25, 2, 1, true), (28, 3, 1, false), (29, 2, 3, true), (38, 2, 4, true)]
theorem fld3_ok : ∀ q ∈ fld3, ffact 3 q.1 q.2.1 q.2.2.1 q.2.2.2 := zAll_ok ffB_ok ([(296, ""), (297, ""), (181, RX6), (294, ""), (184, RX6), (295, ""), (193, RX6), (196, RX6)] : List (Nat × String)) fld3 (by decide +kernel)
def fld4 : List (Nat × Nat × Nat × Bool) := [(9, 4, 0, false), (15, 4, 1, false), (23, 4, 2, false), (41, 4, 3, false), (63, 4, 4, false), (66, 4, 5, false), (69, 4, 6, false), (72, 4, 7, false)]
theorem fld4_ok : ∀ q ∈ fld4, ffact 4 q.1 q.2.1 q.2.2.1 q.2.2.2 := zAll_ok ffB_ok ([(257, ""), (258, ""), (260, ""), (261, ""), (263, ""), (265, ""), (267, ""), (269, "")] : List (Nat × String)) fld4 (by decide +kernel)
def fld5 : List (Nat × Nat × Nat × Bool) := [(11, 5, 0, false), (17, 5, 2, false), (22, 5, 1, false), (25, 5, 3, false), (36, 2, 2, true), (43, 2, 0, true), (46, 2, 1, true)]
theorem fld5_ok : ∀ q ∈ fld5, ffact 5 q.1 q.2.1 q.2.2.1 q.2.2.2 := zAll_ok ffB_ok ([(211, ""), (214, ""), (212, ""), (216, ""), (191, RX6), (183, RX6), (188, RX6)] : List (Nat × String)) fld5 (by decide +kernel)
def fld6 : List (Nat × Nat × Nat × Bool) := [(10, 6, 0, false), (16, 6, 1, false), (19, 6, 2, false), (25, 6, 3, false), (32, 6, 4, false), (39, 6, 5, false), (46, 6, 6, false), (53, 6, 7, false), (57, 6, 9, false), (61, 6, 12, false), (76, 5, 2, true), (87, 5, 1, true), (104, 2, 2, true), (108, 2, 4, true), (130, 2, 0, true), (143, 2, 1, true), (172, 5, 3, true), (178, 2, 3, true), (206, 1, 1, true), (216, 4, 1, true), (230, 0, 3, true), (246, 6, 10, false), (249, 6, 11, false), (264, 0, 2, true), (272, 6, 8, false), (276, 4, 3, true), (279, 4, 4, true), (282, 4, 5, true), (291, 4, 7, true), (309, 4, 6, true)]
theorem fld6_ok : ∀ q ∈ fld6, ffact 6 q.1 q.2.1 q.2.2.1 q.2.2.2 := zAll_ok ffB_ok ([(329, ""), (330, ""), (331, ""), (332, ""), (333, ""), (334, ""), (335, ""), (336, ""), (338, ""), (341, ""), (215, RX6), (213, RX6), (190, RX6), (198, RX6), (182, RX6), (187, RX6), (217, RX6), (194, RX6), (315, RX6), (259, RX6), (241, RX6), (339, ""), (340, ""), (239, RX6), (337, ""), (262, RX6), (264, RX6), (266, RX6), (270, RX6), (268, RX6)] : List (Nat × String)) fld6 (by decide +kernel)
def fld7 : List (Nat × Nat × Nat × Bool) := [(9, 7, 0, false), (13, 7, 1, false), (16, 7, 2, false), (19, 7, 3, false), (22, 7, 9, false), (25, 7, 10, false), (28, 7, 11, false), (31, 7, 12, false), (34, 7, 15, false), (37, 7, 16, false), (40, 7, 17, false), (43, 7, 18, false), (47, 7, 22, false), (50, 7, 7, false), (58, 7, 4, false), (68, 7, 5, false), (71, 7, 6, false), (161, 7, 14, false), (165, 7, 13, false), (252, 7, 19, false), (255, 7, 20, false), (270, 7, 21, false), (291, 7, 23, false), (294, 7, 24, false), (300, 7, 26, false), (303, 7, 27, false), (306, 7, 28, false), (318, 7, 29, false), (321, 7, 25, false), (363, 7, 8, false)]
theorem fld7_ok : ∀ q ∈ fld7, ffact 7 q.1 q.2.1 q.2.2.1 q.2.2.2 := zAll_ok ffB_ok ([(883, ""), (884, ""), (885, ""), (886, ""), (892, ""), (893, ""), (894, ""), (895, ""), (898, ""), (899, ""), (900, ""), (901, ""), (905, ""), (890, ""), (887, ""), (888, ""), (889, ""), (897, ""), (896, ""), (902, ""), (903, ""), (904, ""), (906, ""), (907, ""), (909, ""), (910, ""), (911, ""), (912, ""), (908, ""), (891, "")] : List (Nat × String)) fld7 (by decide +kernel)
def fld8 : List (Nat × Nat × Nat × Bool) := []
theorem fld8_ok : ∀ q ∈ fld8, ffact 8 q.1 q.2.1 q.2.2.1 q.2.2.2 := zAll_ok ffB_ok ([] : List (Nat × String)) fld8 (by decide +kernel)
def fld9 : List (Nat × Nat × Nat × Bool) := []
theorem fld9_ok : ∀ q ∈ fld9, ffact 9 q.1 q.2.1 q.2.2.1 q.2.2.2 := zAll_ok ffB_ok ([] : List (Nat × String)) fld9 (by decide +kernel)
def fld10 : List (Nat × Nat × Nat × Bool) := []
theorem fld10_ok : ∀ q ∈ fld10, ffact 10 q.1 q.2.1 q.2.2.1 q.2.2.2 := zAll_ok ffB_ok ([] : List (Nat × String)) fld10 (by decide +kernel)
def mfldL : Nat → List (Nat × Nat × Nat × Bool)
  | 0 => fld0
  | 1 => fld1
  | 2 => fld2
  | 3 => fld3
  | 4 => fld4
  | 5 => fld5
  | 6 => fld6
  | 7 => fld7
  | 8 => fld8
  | 9 => fld9
  | 10 => fld10
  | _ => []
theorem mfldL_ok (o : Nat) : ∀ q ∈ mfldL o, ffact o q.1 q.2.1 q.2.2.1 q.2.2.2 := match o with
  | 0 => fld0_ok
  | 1 => fld1_ok
  | 2 => fld2_ok
  | 3 => fld3_ok
  | 4 => fld4_ok
  | 5 => fld5_ok
  | 6 => fld6_ok
  | 7 => fld7_ok
  | 8 => fld8_ok
  | 9 => fld9_ok
  | 10 => fld10_ok
  | _ + 11 => fun _ h => absurd h List.not_mem_nil
def mfld (o i : Nat) : Option (Nat × Nat × Bool) := ((mfldL o).find? (fun q => q.1 == i)).map (fun q => q.2)
theorem mfld_ok {o i ci k : Nat} {nest : Bool} (h : mfld o i = some (ci, k, nest)) : ffact o i ci k nest := by
  unfold mfld at h
  cases hf : (mfldL o).find? (fun q => q.1 == i) with
  | none => rw [hf] at h; cases h
  | some q =>
    rw [hf] at h
    have h1 := List.find?_some hf
    have h2 := mfldL_ok o q (List.mem_of_find?_eq_some hf)
    obtain ⟨i', ci', k', n'⟩ := q
    simp only [Option.map_some, Option.some.injEq, Prod.mk.injEq] at h
    simp only [beq_iff_eq] at h1
    obtain ⟨rfl, rfl, rfl⟩ := h
    subst h1
    exact h2
def mclsL : List (Nat × Nat × Nat) := [(8, 7, 6), (6, 7, 5), (5, 9, 2), (6, 22, 0), (0, 9, 5), (6, 29, 4), (6, 36, 3), (6, 43, 1), (6, 50, 2), (8, 10, 7)]
theorem cf_8_7 : 6 < 8 ∧ Cond.classLink (cN 8) 7 (cN 6) ∈ lw_good := ⟨by decide, mgd 159 (by decide +kernel) rfl⟩
theorem cf_6_7 : 5 < 8 ∧ Cond.classLink (cN 6) 7 (cN 5) ∈ lw_good := ⟨by decide, mgd 167 (by decide +kernel) rfl⟩
theorem cf_5_9 : 2 < 8 ∧ Cond.classLink (cN 5) 9 (cN 2) ∈ lw_good := ⟨by decide, mgd 173 (by decide +kernel) rfl⟩
theorem cf_6_22 : 0 < 8 ∧ Cond.classLink (cN 6) 22 (cN 0) ∈ lw_good := ⟨by decide, mgd 227 (by decide +kernel) rfl⟩
theorem cf_0_9 : 5 < 8 ∧ Cond.classLink (cN 0) 9 (cN 5) ∈ lw_good := ⟨by decide, mgd 233 (by decide +kernel) rfl⟩
theorem cf_6_29 : 4 < 8 ∧ Cond.classLink (cN 6) 29 (cN 4) ∈ lw_good := ⟨by decide, mgd 251 (by decide +kernel) rfl⟩
theorem cf_6_36 : 3 < 8 ∧ Cond.classLink (cN 6) 36 (cN 3) ∈ lw_good := ⟨by decide, mgd 288 (by decide +kernel) rfl⟩
theorem cf_6_43 : 1 < 8 ∧ Cond.classLink (cN 6) 43 (cN 1) ∈ lw_good := ⟨by decide, mgd 307 (by decide +kernel) rfl⟩
theorem cf_6_50 : 2 < 8 ∧ Cond.classLink (cN 6) 50 (cN 2) ∈ lw_good := ⟨by decide, mgd 327 (by decide +kernel) rfl⟩
theorem cf_8_10 : 7 < 8 ∧ Cond.classLink (cN 8) 10 (cN 7) ∈ lw_good := ⟨by decide, mgd 877 (by decide +kernel) rfl⟩
theorem mclsL_ok : ∀ q ∈ mclsL, q.2.2 < 8 ∧ Cond.classLink (cN q.1) q.2.1 (cN q.2.2) ∈ lw_good := List.forall_mem_cons.mpr ⟨cf_8_7, List.forall_mem_cons.mpr ⟨cf_6_7, List.forall_mem_cons.mpr ⟨cf_5_9, List.forall_mem_cons.mpr ⟨cf_6_22, List.forall_mem_cons.mpr ⟨cf_0_9, List.forall_mem_cons.mpr ⟨cf_6_29, List.forall_mem_cons.mpr ⟨cf_6_36, List.forall_mem_cons.mpr ⟨cf_6_43, List.forall_mem_cons.mpr ⟨cf_6_50, List.forall_mem_cons.mpr ⟨cf_8_10, fun _ h => absurd h List.not_mem_nil⟩⟩⟩⟩⟩⟩⟩⟩⟩⟩
def mcls (o i : Nat) : Option Nat := (mclsL.find? (fun q => q.1 == o && q.2.1 == i)).map (fun q => q.2.2)
theorem mcls_ok {o i ci : Nat} (h : mcls o i = some ci) : ci < 8 ∧ Cond.classLink (cN o) i (cN ci) ∈ lw_good := by
  unfold mcls at h
  cases hf : mclsL.find? (fun q => q.1 == o && q.2.1 == i) with
  | none => rw [hf] at h; cases h
  | some q =>
    rw [hf] at h
    have h1 := List.find?_some hf
    have h2 := mclsL_ok q (List.mem_of_find?_eq_some hf)
    obtain ⟨o', i', c'⟩ := q
    simp only [Option.map_some, Option.some.injEq] at h
    simp only [Bool.and_eq_true, beq_iff_eq] at h1
    obtain ⟨rfl, rfl⟩ := h1
    subst h
    exact h2
def mtT : Type := MethodName × ByteArray × Nat × Option FieldType × Nat × Nat × Nat × Nat
def mfact (q : MethodName × ByteArray × Nat × Option FieldType × Nat × Nat × Nat × Nat) : Prop := match q with
  | (y, cc, nL, ret, n, o, _, _) => plainFor y = true ∧ Cond.code y cc nL ret ∈ lw_good ∧ Cond.initialized y.cls ∈ lw_good ∧ y.cls = cN o ∧ nL ≤ 20 ∧ (parseMethodDescriptor y.desc).map (fun d => d.parameters.length) = some n ∧ y.cls ≠ "java/lang/invoke/MethodHandle" ∧ y.cls ≠ "java/lang/invoke/VarHandle"
def mfB (h : Nat × Nat) (q : MethodName × ByteArray × Nat × Option FieldType × Nat × Nat × Nat × Nat) : Bool := plainFor q.1 && (mkB h.1 (Cond.code q.1 q.2.1 q.2.2.1 q.2.2.2.1) && (mkB h.2 (Cond.initialized q.1.cls) && (decide (q.1.cls = cN q.2.2.2.2.2.1) && (decide (q.2.2.1 ≤ 20) && (decide ((parseMethodDescriptor q.1.desc).map (fun d => d.parameters.length) = some q.2.2.2.2.1) && (decide (q.1.cls ≠ "java/lang/invoke/MethodHandle") && decide (q.1.cls ≠ "java/lang/invoke/VarHandle")))))))
theorem mfB_ok (h : Nat × Nat) (q : MethodName × ByteArray × Nat × Option FieldType × Nat × Nat × Nat × Nat) (e : mfB h q = true) : mfact q := by
  unfold mfB at e
  rw [Bool.and_eq_true, Bool.and_eq_true, Bool.and_eq_true, Bool.and_eq_true, Bool.and_eq_true, Bool.and_eq_true, Bool.and_eq_true] at e
  obtain ⟨e1, e2, e3, e4, e5, e6, e7, e8⟩ := e
  exact ⟨e1, mkB_ok e2, mkB_ok e3, of_decide_eq_true e4, of_decide_eq_true e5, of_decide_eq_true e6, of_decide_eq_true e7, of_decide_eq_true e8⟩
def mt_0 : List (MethodName × ByteArray × Nat × Option FieldType × Nat × Nat × Nat × Nat) := [(yX6_init, cX6_init, 1, none, 0, 6, 300, 2149),
  (yX5_init, cX5_init, 2, none, 0, 5, 25, 176),
  (yX2_init, cX2_init, 1, none, 0, 2, 2, 16),
  (yX0_init, cX0_init, 2, none, 0, 0, 209, 1448),
  (yX4_init, cX4_init, 1, none, 0, 4, 1, 80),
  (yX3_init, cX3_init, 1, none, 0, 3, 2, 16),
  (yX1_init, cX1_init, 1, none, 0, 1, 3, 24),
  (yX6_stage, cX6_stage, 4, (some FieldType.int), 1, 6, 0, 0),
  (yX5_occupied, cX5_occupied, 4, (some FieldType.int), 0, 5, 0, 0),
  (yX5_pieceAt, cX5_pieceAt, 2, (some (FieldType.object "FoldedTheatre$Piece")), 1, 5, 0, 0),
  (yX2_width, cX2_width, 4, (some FieldType.int), 0, 2, 0, 0),
  (yX2_greatestSize, cX2_greatestSize, 3, (some FieldType.int), 0, 2, 0, 0),
  (yX6_at, cX6_at, 2, (some FieldType.int), 2, 6, 0, 0),
  (yX2_placeOf, cX2_placeOf, 4, (some FieldType.int), 1, 2, 0, 0),
  (yX6_refuse, cX6_refuse, 3, (some FieldType.int), 2, 6, 0, 0),
  (yX0_push, cX0_push, 3, none, 1, 0, 0, 0),
  (yX0_stateAt, cX0_stateAt, 2, (some (FieldType.object "FoldedTheatre$State")), 1, 0, 0, 0),
  (yX5_copyFrom, cX5_copyFrom, 5, none, 1, 5, 0, 0),
  (yX2_copyFrom, cX2_copyFrom, 2, none, 1, 2, 0, 0),
  (yX6_copyRow, cX6_copyRow, 3, none, 2, 6, 0, 0),
  (yX6_add, cX6_add, 4, (some FieldType.int), 3, 6, 0, 0),
  (yX2_takeSizes, cX2_takeSizes, 5, (some FieldType.boolean), 2, 2, 0, 0),
  (yX6_put, cX6_put, 3, none, 3, 6, 0, 0),
  (yX2_sum, cX2_sum, 3, (some FieldType.int), 0, 2, 0, 0),
  (yX2_takeCreases, cX2_takeCreases, 5, (some FieldType.boolean), 1, 2, 0, 0),
  (yX2_creaseCount, cX2_creaseCount, 1, (some FieldType.int), 0, 2, 0, 0),
  (yX6_isCreaseKind, cX6_isCreaseKind, 1, (some FieldType.boolean), 1, 6, 0, 0),
  (yX5_addCopyOf, cX5_addCopyOf, 3, none, 1, 5, 0, 0),
  (yX6_mark, cX6_mark, 6, (some FieldType.int), 3, 6, 0, 0),
  (yX2_hasCrease, cX2_hasCrease, 2, (some FieldType.boolean), 1, 2, 0, 0)]
theorem mt_0_ok : ∀ q ∈ mt_0, mfact q := zAll_ok mfB_ok ([(163, 149), (171, 150), (178, 151), (231, 152), (255, 153), (292, 154), (311, 155), (372, 149), (376, 150), (380, 150), (384, 151), (388, 151), (391, 149), (398, 151), (405, 149), (409, 152), (413, 152), (417, 150), (421, 151), (424, 149), (429, 149), (433, 151), (436, 149), (440, 151), (444, 151), (448, 151), (451, 149), (455, 150), (459, 149), (464, 151)] : List (Nat × Nat)) mt_0 (by decide +kernel)
def mt_1 : List (MethodName × ByteArray × Nat × Option FieldType × Nat × Nat × Nat × Nat) := [(yX6_turn, cX6_turn, 3, (some FieldType.int), 1, 6, 0, 0),
  (yX2_turnOver, cX2_turnOver, 3, none, 0, 2, 0, 0),
  (yX2_countOf, cX2_countOf, 4, (some FieldType.int), 1, 2, 0, 0),
  (yX6_rotate, cX6_rotate, 4, (some FieldType.int), 2, 6, 0, 0),
  (yX2_becomeRotated, cX2_becomeRotated, 5, none, 2, 2, 0, 0),
  (yX2_sizesAsNumber, cX2_sizesAsNumber, 3, (some FieldType.int), 0, 2, 0, 0),
  (yX6_join, cX6_join, 7, (some FieldType.int), 3, 6, 0, 0),
  (yX2_lengthenBy, cX2_lengthenBy, 4, none, 2, 2, 0, 0),
  (yX5_removeAt, cX5_removeAt, 5, none, 1, 5, 0, 0),
  (yX6_cut, cX6_cut, 6, (some FieldType.int), 2, 6, 0, 0),
  (yX2_becomeEndOf, cX2_becomeEndOf, 4, none, 2, 2, 0, 0),
  (yX6_fold, cX6_fold, 6, (some FieldType.int), 1, 6, 0, 0),
  (yX2_isUndecided, cX2_isUndecided, 1, (some FieldType.boolean), 0, 2, 0, 0),
  (yX2_lowestUndecided, cX2_lowestUndecided, 3, (some FieldType.int), 0, 2, 0, 0),
  (yX3_whatStandsInTheWay, cX3_whatStandsInTheWay, 2, (some FieldType.int), 1, 3, 0, 0),
  (yX3_load, cX3_load, 3, none, 1, 3, 0, 0),
  (yX3_putCrease, cX3_putCrease, 3, none, 2, 3, 0, 0),
  (yX3_evenAngles, cX3_evenAngles, 3, (some FieldType.int), 0, 3, 0, 0),
  (yX3_hasSmallAngleOfOneKind, cX3_hasSmallAngleOfOneKind, 4, (some FieldType.boolean), 0, 3, 0, 0),
  (yX3_before, cX3_before, 2, (some FieldType.int), 1, 3, 0, 0),
  (yX3_after, cX3_after, 2, (some FieldType.int), 1, 3, 0, 0),
  (yX3_reduce, cX3_reduce, 3, (some FieldType.int), 0, 3, 0, 0),
  (yX3_firstStep, cX3_firstStep, 5, (some FieldType.int), 0, 3, 0, 0),
  (yX3_make, cX3_make, 5, none, 1, 3, 0, 0),
  (yX6_takeOut, cX6_takeOut, 3, none, 2, 6, 0, 0),
  (yX3_isReduced, cX3_isReduced, 1, (some FieldType.boolean), 0, 3, 0, 0),
  (yX6_unfold, cX6_unfold, 3, (some FieldType.int), 1, 6, 0, 0),
  (yX6_drop, cX6_drop, 2, (some FieldType.int), 1, 6, 0, 0),
  (yX6_piece, cX6_piece, 4, (some FieldType.int), 2, 6, 0, 0),
  (yX6_size, cX6_size, 4, (some FieldType.int), 2, 6, 0, 0)]
theorem mt_1_ok : ∀ q ∈ mt_1, mfact q := zAll_ok mfB_ok ([(471, 149), (475, 151), (480, 151), (484, 149), (489, 151), (493, 151), (497, 149), (501, 151), (505, 150), (509, 149), (514, 151), (518, 149), (522, 151), (527, 151), (531, 154), (536, 154), (543, 154), (548, 154), (556, 154), (560, 154), (564, 154), (568, 154), (572, 154), (576, 154), (579, 149), (585, 154), (590, 149), (594, 149), (598, 149), (603, 149)] : List (Nat × Nat)) mt_1 (by decide +kernel)
def mt_2 : List (MethodName × ByteArray × Nat × Option FieldType × Nat × Nat × Nat × Nat) := [(yX6_crease, cX6_crease, 4, (some FieldType.int), 2, 6, 0, 0),
  (yX6_why, cX6_why, 3, (some FieldType.int), 1, 6, 0, 0),
  (yX6_foldsAgain, cX6_foldsAgain, 4, (some FieldType.int), 1, 6, 0, 0),
  (yX6_errorOfDecidedStrip, cX6_errorOfDecidedStrip, 1, (some FieldType.int), 1, 6, 0, 0),
  (yX1_search, cX1_search, 7, (some FieldType.int), 2, 1, 0, 0),
  (yX1_load, cX1_load, 3, none, 1, 1, 0, 0),
  (yX1_nextLayer, cX1_nextLayer, 3, (some FieldType.int), 1, 1, 0, 0),
  (yX1_isFree, cX1_isFree, 4, (some FieldType.boolean), 2, 1, 0, 0),
  (yX1_isAsCreased, cX1_isAsCreased, 6, (some FieldType.boolean), 2, 1, 0, 0),
  (yX1_layersCollide, cX1_layersCollide, 2, (some FieldType.boolean), 0, 1, 0, 0),
  (yX1_isPierced, cX1_isPierced, 6, (some FieldType.boolean), 1, 1, 0, 0),
  (yX1_isBetween, cX1_isBetween, 6, (some FieldType.boolean), 2, 1, 0, 0),
  (yX1_isCrossed, cX1_isCrossed, 4, (some FieldType.boolean), 1, 1, 0, 0),
  (yX6_step, cX6_step, 4, (some FieldType.int), 1, 6, 0, 0),
  (yX6_steps, cX6_steps, 3, (some FieldType.int), 1, 6, 0, 0),
  (yX6_ways, cX6_ways, 3, (some FieldType.int), 1, 6, 0, 0),
  (yX3_countWays, cX3_countWays, 4, (some FieldType.int), 1, 3, 0, 0),
  (yX3_changesTo, cX3_changesTo, 5, (some FieldType.int), 2, 3, 0, 0),
  (yX3_kindIn, cX3_kindIn, 2, (some FieldType.int), 2, 3, 0, 0),
  (yX3_foldsWith, cX3_foldsWith, 4, (some FieldType.boolean), 2, 3, 0, 0),
  (yX6_fewest, cX6_fewest, 3, (some FieldType.int), 1, 6, 0, 0),
  (yX3_fewestChanges, cX3_fewestChanges, 5, (some FieldType.int), 1, 3, 0, 0),
  (yX6_place, cX6_place, 4, (some FieldType.int), 2, 6, 0, 0),
  (yX6_layer, cX6_layer, 5, (some FieldType.int), 2, 6, 0, 0),
  (yX6_orders, cX6_orders, 4, (some FieldType.int), 1, 6, 0, 0),
  (yX6_thickest, cX6_thickest, 3, (some FieldType.int), 1, 6, 0, 0),
  (yX2_thickness, cX2_thickness, 3, (some FieldType.int), 0, 2, 0, 0),
  (yX2_leftEndOf, cX2_leftEndOf, 2, (some FieldType.int), 1, 2, 0, 0),
  (yX2_panelsBehind, cX2_panelsBehind, 4, (some FieldType.int), 1, 2, 0, 0),
  (yX2_rightEndOf, cX2_rightEndOf, 2, (some FieldType.int), 1, 2, 0, 0)]
theorem mt_2_ok : ∀ q ∈ mt_2, mfact q := zAll_ok mfB_ok ([(607, 149), (611, 149), (615, 149), (618, 149), (622, 155), (626, 155), (635, 155), (640, 155), (644, 155), (648, 155), (652, 155), (657, 155), (661, 155), (665, 149), (671, 149), (676, 149), (680, 154), (683, 154), (686, 154), (690, 154), (694, 149), (698, 154), (702, 149), (707, 149), (711, 149), (716, 149), (720, 151), (724, 151), (728, 151), (732, 151)] : List (Nat × Nat)) mt_2 (by decide +kernel)
def mt_3 : List (MethodName × ByteArray × Nat × Option FieldType × Nat × Nat × Nat × Nat) := [(yX6_reflected, cX6_reflected, 3, (some FieldType.int), 1, 6, 0, 0),
  (yX2_reflection, cX2_reflection, 4, (some FieldType.int), 0, 2, 0, 0),
  (yX6_append, cX6_append, 2, (some FieldType.int), 1, 6, 0, 0),
  (yX4_write, cX4_write, 2, none, 1, 4, 0, 0),
  (yX6_read, cX6_read, 4, (some FieldType.int), 0, 6, 0, 0),
  (yX4_faultPosition, cX4_faultPosition, 2, (some FieldType.int), 0, 4, 0, 0),
  (yX4_rewind, cX4_rewind, 1, none, 0, 4, 0, 0),
  (yX4_takeCommand, cX4_takeCommand, 1, (some FieldType.boolean), 0, 4, 0, 0),
  (yX4_codeHere, cX4_codeHere, 1, (some FieldType.int), 0, 4, 0, 0),
  (yX4_takeSizes, cX4_takeSizes, 2, (some FieldType.boolean), 0, 4, 0, 0),
  (yX4_takeSign, cX4_takeSign, 2, (some FieldType.boolean), 1, 4, 0, 0),
  (yX4_takeCreases, cX4_takeCreases, 2, (some FieldType.boolean), 0, 4, 0, 0),
  (yX4_takeKind, cX4_takeKind, 2, (some FieldType.boolean), 0, 4, 0, 0),
  (yX4_takePiece, cX4_takePiece, 1, (some FieldType.boolean), 0, 4, 0, 0),
  (yX4_takeDigit, cX4_takeDigit, 1, (some FieldType.boolean), 0, 4, 0, 0),
  (yX4_takeCrease, cX4_takeCrease, 1, (some FieldType.boolean), 0, 4, 0, 0),
  (yX4_clear, cX4_clear, 1, none, 0, 4, 0, 0),
  (yX6_perform, cX6_perform, 1, (some FieldType.int), 0, 6, 0, 0),
  (yX6_withCreasesAsTold, cX6_withCreasesAsTold, 3, (some FieldType.int), 1, 6, 0, 0),
  (yX6_refusal, cX6_refusal, 2, (some FieldType.int), 1, 6, 0, 0),
  (yX6_account, cX6_account, 2, (some FieldType.int), 1, 6, 0, 0),
  (yX5_countOfKind, cX5_countOfKind, 5, (some FieldType.int), 1, 5, 0, 0),
  (yX5_foldedCount, cX5_foldedCount, 4, (some FieldType.int), 0, 5, 0, 0),
  (yX5_panelCount, cX5_panelCount, 4, (some FieldType.int), 0, 5, 0, 0),
  (yX5_creasesOf, cX5_creasesOf, 5, (some FieldType.int), 1, 5, 0, 0),
  (yX6_share, cX6_share, 3, (some FieldType.int), 0, 6, 0, 0),
  (yX6_bitsOf, cX6_bitsOf, 4, (some FieldType.int), 1, 6, 0, 0),
  (yX6_undo, cX6_undo, 1, (some FieldType.int), 0, 6, 0, 0),
  (yX0_pop, cX0_pop, 3, none, 1, 0, 0, 0),
  (yX6_save, cX6_save, 1, (some FieldType.int), 0, 6, 0, 0)]
theorem mt_3_ok : ∀ q ∈ mt_3, mfact q := zAll_ok mfB_ok ([(736, 149), (740, 151), (747, 149), (751, 153), (756, 149), (760, 153), (764, 153), (768, 153), (772, 153), (777, 153), (781, 153), (785, 153), (789, 153), (793, 153), (797, 153), (801, 153), (805, 153), (812, 149), (817, 149), (827, 149), (831, 149), (835, 150), (839, 150), (843, 150), (847, 150), (852, 149), (855, 149), (860, 149), (864, 152), (868, 149)] : List (Nat × Nat)) mt_3 (by decide +kernel)
def mt_4 : List (MethodName × ByteArray × Nat × Option FieldType × Nat × Nat × Nat × Nat) := [(yX6_restore, cX6_restore, 1, (some FieldType.int), 0, 6, 0, 0),
  (yX0_clear, cX0_clear, 1, none, 0, 0, 0, 0),
  (yX7_init, cX7_init, 1, none, 0, 7, 13, 1846),
  (yX7_add, cX7_add, 4, (some FieldType.int), 3, 7, 0, 0),
  (yX7_keeps, cX7_keeps, 1, none, 0, 7, 0, 0),
  (yX7_copies, cX7_copies, 5, none, 4, 7, 0, 0),
  (yX7_addsTold, cX7_addsTold, 5, (some FieldType.int), 3, 7, 0, 0),
  (yX7_isIn, cX7_isIn, 3, (some FieldType.boolean), 3, 7, 0, 0),
  (yX7_laysSizes, cX7_laysSizes, 6, (some FieldType.int), 1, 7, 0, 0),
  (yX7_digits, cX7_digits, 3, (some FieldType.int), 1, 7, 0, 0),
  (yX7_areSizes, cX7_areSizes, 3, (some FieldType.boolean), 2, 7, 0, 0),
  (yX7_sumOfNew, cX7_sumOfNew, 4, (some FieldType.int), 1, 7, 0, 0),
  (yX7_laysCreases, cX7_laysCreases, 6, (some FieldType.boolean), 2, 7, 0, 0),
  (yX7_adds, cX7_adds, 5, (some FieldType.int), 2, 7, 0, 0),
  (yX7_refuses, cX7_refuses, 3, (some FieldType.int), 2, 7, 0, 0),
  (yX7_at, cX7_at, 2, (some FieldType.int), 2, 7, 0, 0),
  (yX7_creases, cX7_creases, 2, (some FieldType.int), 1, 7, 0, 0),
  (yX7_of, cX7_of, 3, (some FieldType.int), 2, 7, 0, 0),
  (yX7_isCorner, cX7_isCorner, 2, (some FieldType.boolean), 1, 7, 0, 0),
  (yX7_ends, cX7_ends, 2, (some FieldType.int), 1, 7, 0, 0),
  (yX7_changed, cX7_changed, 2, none, 0, 7, 0, 0),
  (yX7_mark, cX7_mark, 4, (some FieldType.int), 3, 7, 0, 0),
  (yX7_marks, cX7_marks, 5, (some FieldType.int), 3, 7, 0, 0),
  (yX7_isCrease, cX7_isCrease, 3, (some FieldType.boolean), 2, 7, 0, 0),
  (yX7_isPiece, cX7_isPiece, 2, (some FieldType.boolean), 1, 7, 0, 0),
  (yX7_isFolded, cX7_isFolded, 2, (some FieldType.boolean), 1, 7, 0, 0),
  (yX7_creaseOf, cX7_creaseOf, 3, (some FieldType.int), 2, 7, 0, 0),
  (yX7_turn, cX7_turn, 2, (some FieldType.int), 1, 7, 0, 0),
  (yX7_turns, cX7_turns, 4, (some FieldType.int), 1, 7, 0, 0),
  (yX7_countOf, cX7_countOf, 5, (some FieldType.int), 2, 7, 0, 0)]
theorem mt_4_ok : ∀ q ∈ mt_4, mfact q := zAll_ok mfB_ok ([(872, 149), (876, 152), (881, 156), (978, 156), (982, 156), (985, 156), (989, 156), (992, 156), (996, 156), (999, 156), (1003, 156), (1007, 156), (1011, 156), (1015, 156), (1019, 156), (1022, 156), (1026, 156), (1030, 156), (1034, 156), (1038, 156), (1042, 156), (1046, 156), (1050, 156), (1054, 156), (1058, 156), (1062, 156), (1066, 156), (1070, 156), (1074, 156), (1078, 156)] : List (Nat × Nat)) mt_4 (by decide +kernel)
def mt_5 : List (MethodName × ByteArray × Nat × Option FieldType × Nat × Nat × Nat × Nat) := [(yX7_rotate, cX7_rotate, 3, (some FieldType.int), 2, 7, 0, 0),
  (yX7_rotates, cX7_rotates, 6, (some FieldType.int), 2, 7, 0, 0),
  (yX7_sizeOf, cX7_sizeOf, 3, (some FieldType.int), 2, 7, 0, 0),
  (yX7_join, cX7_join, 4, (some FieldType.int), 3, 7, 0, 0),
  (yX7_joins, cX7_joins, 7, (some FieldType.int), 3, 7, 0, 0),
  (yX7_goes, cX7_goes, 3, none, 1, 7, 0, 0),
  (yX7_cut, cX7_cut, 3, (some FieldType.int), 2, 7, 0, 0),
  (yX7_cuts, cX7_cuts, 7, (some FieldType.int), 2, 7, 0, 0),
  (yX7_lesser, cX7_lesser, 2, (some FieldType.int), 2, 7, 0, 0),
  (yX7_why, cX7_why, 2, (some FieldType.int), 1, 7, 0, 0),
  (yX7_whyNot, cX7_whyNot, 3, (some FieldType.int), 1, 7, 0, 0),
  (yX7_evenAngles, cX7_evenAngles, 4, (some FieldType.int), 1, 7, 0, 0),
  (yX7_hasSharp, cX7_hasSharp, 6, (some FieldType.boolean), 1, 7, 0, 0),
  (yX7_foldsNow, cX7_foldsNow, 2, (some FieldType.boolean), 1, 7, 0, 0),
  (yX7_lays, cX7_lays, 3, none, 1, 7, 0, 0),
  (yX7_folds, cX7_folds, 2, (some FieldType.boolean), 0, 7, 0, 0),
  (yX7_reduces, cX7_reduces, 3, (some FieldType.int), 0, 7, 0, 0),
  (yX7_stepNow, cX7_stepNow, 2, (some FieldType.int), 0, 7, 0, 0),
  (yX7_crimped, cX7_crimped, 6, (some FieldType.int), 0, 7, 0, 0),
  (yX7_makes, cX7_makes, 2, none, 1, 7, 0, 0),
  (yX7_dropsSize, cX7_dropsSize, 3, none, 1, 7, 0, 0),
  (yX7_dropsCrease, cX7_dropsCrease, 3, none, 1, 7, 0, 0),
  (yX7_crimpsCorner, cX7_crimpsCorner, 6, none, 1, 7, 0, 0),
  (yX7_greater, cX7_greater, 2, (some FieldType.int), 2, 7, 0, 0),
  (yX7_crimpsStrip, cX7_crimpsStrip, 2, none, 1, 7, 0, 0),
  (yX7_step, cX7_step, 3, (some FieldType.int), 1, 7, 0, 0),
  (yX7_steps, cX7_steps, 2, (some FieldType.int), 1, 7, 0, 0),
  (yX7_ways, cX7_ways, 4, (some FieldType.int), 1, 7, 0, 0),
  (yX7_otherwise, cX7_otherwise, 6, (some FieldType.int), 2, 7, 0, 0),
  (yX7_foldsBy, cX7_foldsBy, 3, (some FieldType.boolean), 2, 7, 0, 0)]
theorem mt_5_ok : ∀ q ∈ mt_5, mfact q := zAll_ok mfB_ok ([(1082, 156), (1086, 156), (1090, 156), (1094, 156), (1098, 156), (1102, 156), (1106, 156), (1110, 156), (1113, 156), (1117, 156), (1121, 156), (1125, 156), (1129, 156), (1133, 156), (1137, 156), (1141, 156), (1145, 156), (1149, 156), (1153, 156), (1157, 156), (1161, 156), (1165, 156), (1169, 156), (1172, 156), (1176, 156), (1180, 156), (1184, 156), (1188, 156), (1192, 156), (1196, 156)] : List (Nat × Nat)) mt_5 (by decide +kernel)
def mt_6 : List (MethodName × ByteArray × Nat × Option FieldType × Nat × Nat × Nat × Nat) := [(yX7_laysBy, cX7_laysBy, 4, none, 2, 7, 0, 0),
  (yX7_fewest, cX7_fewest, 5, (some FieldType.int), 1, 7, 0, 0),
  (yX7_stage, cX7_stage, 2, (some FieldType.int), 1, 7, 0, 0),
  (yX7_stages, cX7_stages, 3, (some FieldType.int), 1, 7, 0, 0),
  (yX7_used, cX7_used, 3, (some FieldType.int), 0, 7, 0, 0),
  (yX7_widthOf, cX7_widthOf, 5, (some FieldType.int), 1, 7, 0, 0),
  (yX7_placeOf, cX7_placeOf, 5, (some FieldType.int), 2, 7, 0, 0),
  (yX7_fold, cX7_fold, 2, (some FieldType.int), 1, 7, 0, 0),
  (yX7_foldsOnStage, cX7_foldsOnStage, 4, (some FieldType.int), 1, 7, 0, 0),
  (yX7_lowestOpen, cX7_lowestOpen, 3, (some FieldType.int), 1, 7, 0, 0),
  (yX7_unfold, cX7_unfold, 2, (some FieldType.int), 1, 7, 0, 0),
  (yX7_unfolds, cX7_unfolds, 2, (some FieldType.int), 1, 7, 0, 0),
  (yX7_drop, cX7_drop, 2, (some FieldType.int), 1, 7, 0, 0),
  (yX7_drops, cX7_drops, 2, (some FieldType.int), 1, 7, 0, 0),
  (yX7_piece, cX7_piece, 3, (some FieldType.int), 2, 7, 0, 0),
  (yX7_sumOf, cX7_sumOf, 4, (some FieldType.int), 1, 7, 0, 0),
  (yX7_size, cX7_size, 3, (some FieldType.int), 2, 7, 0, 0),
  (yX7_crease, cX7_crease, 3, (some FieldType.int), 2, 7, 0, 0),
  (yX7_foldsAgain, cX7_foldsAgain, 3, (some FieldType.int), 1, 7, 0, 0),
  (yX7_wrongStrip, cX7_wrongStrip, 2, (some FieldType.int), 1, 7, 0, 0),
  (yX7_ordersOf, cX7_ordersOf, 3, (some FieldType.int), 1, 7, 0, 0),
  (yX7_gives, cX7_gives, 3, none, 1, 7, 0, 0),
  (yX7_isPossible, cX7_isPossible, 2, (some FieldType.boolean), 0, 7, 0, 0),
  (yX7_collides, cX7_collides, 4, (some FieldType.boolean), 1, 7, 0, 0),
  (yX7_reachesOver, cX7_reachesOver, 3, (some FieldType.boolean), 2, 7, 0, 0),
  (yX7_isBetween, cX7_isBetween, 5, (some FieldType.boolean), 2, 7, 0, 0),
  (yX7_isAbove, cX7_isAbove, 2, (some FieldType.boolean), 1, 7, 0, 0),
  (yX7_orders, cX7_orders, 3, (some FieldType.int), 1, 7, 0, 0),
  (yX7_layer, cX7_layer, 4, (some FieldType.int), 2, 7, 0, 0),
  (yX7_isStripWithout, cX7_isStripWithout, 4, (some FieldType.boolean), 3, 7, 0, 0)]
theorem mt_6_ok : ∀ q ∈ mt_6, mfact q := zAll_ok mfB_ok ([(1200, 156), (1204, 156), (1208, 156), (1212, 156), (1216, 156), (1220, 156), (1224, 156), (1228, 156), (1232, 156), (1236, 156), (1240, 156), (1244, 156), (1248, 156), (1252, 156), (1256, 156), (1260, 156), (1264, 156), (1268, 156), (1272, 156), (1276, 156), (1280, 156), (1284, 156), (1288, 156), (1292, 156), (1296, 156), (1300, 156), (1304, 156), (1308, 156), (1312, 156), (1316, 156)] : List (Nat × Nat)) mt_6 (by decide +kernel)
def mt_7 : List (MethodName × ByteArray × Nat × Option FieldType × Nat × Nat × Nat × Nat) := [(yX7_place, cX7_place, 3, (some FieldType.int), 2, 7, 0, 0),
  (yX7_thickest, cX7_thickest, 7, (some FieldType.int), 1, 7, 0, 0),
  (yX7_overAt, cX7_overAt, 7, (some FieldType.int), 2, 7, 0, 0),
  (yX7_reflected, cX7_reflected, 5, (some FieldType.int), 1, 7, 0, 0),
  (yX7_append, cX7_append, 2, (some FieldType.int), 1, 7, 0, 0),
  (yX7_read, cX7_read, 2, (some FieldType.int), 0, 7, 0, 0),
  (yX7_isText, cX7_isText, 2, (some FieldType.boolean), 0, 7, 0, 0),
  (yX7_readsCommand, cX7_readsCommand, 1, (some FieldType.boolean), 0, 7, 0, 0),
  (yX7_sign, cX7_sign, 1, (some FieldType.int), 0, 7, 0, 0),
  (yX7_readsSizes, cX7_readsSizes, 2, (some FieldType.boolean), 0, 7, 0, 0),
  (yX7_takes, cX7_takes, 3, (some FieldType.boolean), 1, 7, 0, 0),
  (yX7_readsSigns, cX7_readsSigns, 1, (some FieldType.boolean), 0, 7, 0, 0),
  (yX7_kindOf, cX7_kindOf, 1, (some FieldType.int), 1, 7, 0, 0),
  (yX7_digit, cX7_digit, 1, (some FieldType.int), 0, 7, 0, 0),
  (yX7_readsMark, cX7_readsMark, 1, (some FieldType.boolean), 0, 7, 0, 0),
  (yX7_doesAll, cX7_doesAll, 4, (some FieldType.int), 0, 7, 0, 0),
  (yX7_does, cX7_does, 1, (some FieldType.int), 0, 7, 0, 0),
  (yX7_addsSigned, cX7_addsSigned, 3, (some FieldType.int), 0, 7, 0, 0),
  (yX7_refusal, cX7_refusal, 2, (some FieldType.int), 1, 7, 0, 0),
  (yX7_account, cX7_account, 2, (some FieldType.int), 1, 7, 0, 0),
  (yX7_allOf, cX7_allOf, 4, (some FieldType.int), 1, 7, 0, 0),
  (yX7_panelsOfAll, cX7_panelsOfAll, 3, (some FieldType.int), 0, 7, 0, 0),
  (yX7_share, cX7_share, 1, (some FieldType.int), 0, 7, 0, 0),
  (yX7_undo, cX7_undo, 1, (some FieldType.int), 0, 7, 0, 0),
  (yX7_save, cX7_save, 1, (some FieldType.int), 0, 7, 0, 0),
  (yX7_restore, cX7_restore, 1, (some FieldType.int), 0, 7, 0, 0),
  (yJ9_floorMod_7cf53, cJ9_floorMod_7cf53, 3, (some FieldType.int), 2, 9, 0, 0),
  (yJxf58ca_floatToIntBits_5c35a, cJxf58ca_floatToIntBits_5c35a, 1, (some FieldType.int), 1, 10, 0, 0),
  (yJxf58ca_isNaN_12338, cJxf58ca_isNaN_12338, 1, (some FieldType.boolean), 1, 10, 0, 0)]
theorem mt_7_ok : ∀ q ∈ mt_7, mfact q := zAll_ok mfB_ok ([(1320, 156), (1324, 156), (1328, 156), (1332, 156), (1336, 156), (1340, 156), (1344, 156), (1348, 156), (1352, 156), (1356, 156), (1360, 156), (1364, 156), (1367, 156), (1371, 156), (1375, 156), (1379, 156), (1383, 156), (1387, 156), (1391, 156), (1395, 156), (1399, 156), (1404, 156), (1408, 156), (1422, 156), (1426, 156), (1430, 156), (743, 157), (1411, 158), (1414, 158)] : List (Nat × Nat)) mt_7 (by decide +kernel)
def mtL : List (MethodName × ByteArray × Nat × Option FieldType × Nat × Nat × Nat × Nat) := mt_0 ++ (mt_1 ++ (mt_2 ++ (mt_3 ++ (mt_4 ++ (mt_5 ++ (mt_6 ++ (mt_7)))))))
theorem mall {α : Type} {p : α → Prop} {a b : List α} (ha : ∀ q ∈ a, p q) (hb : ∀ q ∈ b, p q) : ∀ q ∈ a ++ b, p q := fun q h => (List.mem_append.mp h).elim (ha q) (hb q)
theorem mtL_ok : ∀ q ∈ mtL, mfact q := mall mt_0_ok (mall mt_1_ok (mall mt_2_ok (mall mt_3_ok (mall mt_4_ok (mall mt_5_ok (mall mt_6_ok (mt_7_ok)))))))
theorem mobj : Cond.instanceMethod objectInit ∈ lw_good ∧ Cond.code objectInit ⟨#[0xb1]⟩ 1 none ∈ lw_good := ⟨mgd 165 (by decide +kernel) rfl, mgd 166 (by decide +kernel) rfl⟩
theorem mmath_max : Cond.static Lib.Math.max.name ∈ lw_good ∧ Cond.initialized "java/lang/Math" ∈ lw_good ∧ Cond.code Lib.Math.max.name Lib.Math.max.code 2 (some .int) ∈ lw_good := ⟨mgd 393 (by decide +kernel) rfl, mgd 157 (by decide +kernel) rfl, mgd 394 (by decide +kernel) (by decide +kernel)⟩
theorem mmath_min : Cond.static Lib.Math.min.name ∈ lw_good ∧ Cond.initialized "java/lang/Math" ∈ lw_good ∧ Cond.code Lib.Math.min.name Lib.Math.min.code 2 (some .int) ∈ lw_good := ⟨mgd 400 (by decide +kernel) rfl, mgd 157 (by decide +kernel) rfl, mgd 401 (by decide +kernel) (by decide +kernel)⟩
theorem mmath_abs : Cond.static Lib.Math.abs.name ∈ lw_good ∧ Cond.initialized "java/lang/Math" ∈ lw_good ∧ Cond.code Lib.Math.abs.name Lib.Math.abs.code 1 (some .int) ∈ lw_good := ⟨mgd 551 (by decide +kernel) rfl, mgd 157 (by decide +kernel) rfl, mgd 552 (by decide +kernel) (by decide +kernel)⟩
theorem mnat : Cond.native ⟨"java/lang/Float", "floatToRawIntBits", "(F)I"⟩ ∈ lw_good ∧ Cond.static ⟨"java/lang/Float", "floatToRawIntBits", "(F)I"⟩ ∈ lw_good ∧ Cond.initialized "java/lang/Float" ∈ lw_good := ⟨mgd 1417 (by decide +kernel) rfl, mgd 1416 (by decide +kernel) rfl, mgd 158 (by decide +kernel) rfl⟩
def mldcIL : List (Nat × Nat × Int32) := [(1, 29, 1000000), (6, 209, 1000000), (10, 77, 2143289344)]
theorem mldcI_1_29 : Cond.constant (cN 1) 29 1000000 ∈ lw_good := mgd 631 (by decide +kernel) rfl
theorem mldcI_6_209 : Cond.constant (cN 6) 209 1000000 ∈ lw_good := mgd 712 (by decide +kernel) rfl
theorem mldcI_10_77 : Cond.constant (cN 10) 77 2143289344 ∈ lw_good := mgd 1418 (by decide +kernel) rfl
theorem mldcIL_ok : ∀ q ∈ mldcIL, Cond.constant (cN q.1) q.2.1 q.2.2 ∈ lw_good := List.forall_mem_cons.mpr ⟨mldcI_1_29, List.forall_mem_cons.mpr ⟨mldcI_6_209, List.forall_mem_cons.mpr ⟨mldcI_10_77, fun _ h => absurd h List.not_mem_nil⟩⟩⟩
def mldcI (o i : Nat) : Option Int32 := (mldcIL.find? (fun q => q.1 == o && q.2.1 == i)).map (fun q => q.2.2)
theorem mldcI_ok {o i : Nat} {v : Int32} (h : mldcI o i = some v) : Cond.constant (cN o) i v ∈ lw_good := by
  unfold mldcI at h
  cases hf : mldcIL.find? (fun q => q.1 == o && q.2.1 == i) with
  | none => rw [hf] at h; cases h
  | some q =>
    rw [hf] at h
    have h1 := List.find?_some hf
    have h2 := mldcIL_ok q (List.mem_of_find?_eq_some hf)
    obtain ⟨o', i', c'⟩ := q
    simp only [Option.map_some, Option.some.injEq] at h
    simp only [Bool.and_eq_true, beq_iff_eq] at h1
    obtain ⟨rfl, rfl⟩ := h1
    subst h
    exact h2
def mldcFL : List (Nat × Nat × UInt32) := [(6, 312, 1258291200)]
theorem mldcF_6_312 : Cond.constantFloat (cN 6) 312 1258291200 ∈ lw_good := mgd 856 (by decide +kernel) rfl
theorem mldcFL_ok : ∀ q ∈ mldcFL, Cond.constantFloat (cN q.1) q.2.1 q.2.2 ∈ lw_good := List.forall_mem_cons.mpr ⟨mldcF_6_312, fun _ h => absurd h List.not_mem_nil⟩
def mldcF (o i : Nat) : Option UInt32 := (mldcFL.find? (fun q => q.1 == o && q.2.1 == i)).map (fun q => q.2.2)
theorem mldcF_ok {o i : Nat} {v : UInt32} (h : mldcF o i = some v) : Cond.constantFloat (cN o) i v ∈ lw_good := by
  unfold mldcF at h
  cases hf : mldcFL.find? (fun q => q.1 == o && q.2.1 == i) with
  | none => rw [hf] at h; cases h
  | some q =>
    rw [hf] at h
    have h1 := List.find?_some hf
    have h2 := mldcFL_ok q (List.mem_of_find?_eq_some hf)
    obtain ⟨o', i', c'⟩ := q
    simp only [Option.map_some, Option.some.injEq] at h
    simp only [Bool.and_eq_true, beq_iff_eq] at h1
    obtain ⟨rfl, rfl⟩ := h1
    subst h
    exact h2
def mlink (o i : Nat) (y : MethodName) (nest : Bool) : Prop := (nest = true → ∃ host, Cond.methodLinkNest (cN o) i y host ∈ lw_nests) ∧ (nest = false → Cond.methodLink (cN o) i y ∈ lw_good)
/-- kinds: 0 virtual, 1 of a nest mate, 2 static, 3 static of a nest mate, 4 a constructor, 5 of a nest mate, 6 Object's -/
def cfact (o i kd k : Nat) : Prop := match kd with
  | 6 => Cond.methodLink (cN o) i objectInit ∈ lw_good
  | 7 => Cond.methodLink (cN o) i Lib.Math.max.name ∈ lw_good
  | 8 => Cond.methodLink (cN o) i Lib.Math.min.name ∈ lw_good
  | 9 => Cond.methodLink (cN o) i Lib.Math.abs.name ∈ lw_good
  | 10 => Cond.methodLink (cN o) i ⟨"java/lang/Float", "floatToRawIntBits", "(F)I"⟩ ∈ lw_good
  | _ => ∃ q, mtL[k]? = some q ∧ mlink o i q.1 (kd % 2 == 1) ∧ (kd < 2 → Cond.instanceMethod q.1 ∈ lw_good ∧ Cond.selects q.1.cls q.1 q.1 ∈ lw_good) ∧ (kd = 2 ∨ kd = 3 → Cond.static q.1 ∈ lw_good) ∧ (kd = 4 ∨ kd = 5 → Cond.instanceMethod q.1 ∈ lw_good ∧ q.1.name = "<init>") ∧ kd < 6
def cgB (o i kd : Nat) (y : MethodName) (h : Nat × Nat × Nat × String) : Bool := (if kd % 2 = 1 then mnB h.1 (Cond.methodLinkNest (cN o) i y h.2.2.2) else mkB h.1 (Cond.methodLink (cN o) i y)) && (if kd < 2 then mkB h.2.1 (Cond.instanceMethod y) && mkB h.2.2.1 (Cond.selects y.cls y y) else if kd < 4 then mkB h.2.1 (Cond.static y) else mkB h.2.1 (Cond.instanceMethod y) && decide (y.name = "<init>"))
def cfB (o : Nat) (h : Nat × Nat × Nat × String) (q : Nat × Nat × Nat) : Bool := match q.2.1 with
  | 6 => mkB h.1 (Cond.methodLink (cN o) q.1 objectInit)
  | 7 => mkB h.1 (Cond.methodLink (cN o) q.1 Lib.Math.max.name)
  | 8 => mkB h.1 (Cond.methodLink (cN o) q.1 Lib.Math.min.name)
  | 9 => mkB h.1 (Cond.methodLink (cN o) q.1 Lib.Math.abs.name)
  | 10 => mkB h.1 (Cond.methodLink (cN o) q.1 ⟨"java/lang/Float", "floatToRawIntBits", "(F)I"⟩)
  | kd => decide (kd < 6) && (match mtL[q.2.2]? with
    | some e => cgB o q.1 kd e.1 h
    | none => false)
theorem cgB_ok {o i kd : Nat} {y : MethodName} {h : Nat × Nat × Nat × String} (h6 : kd < 6) (e : cgB o i kd y h = true) : mlink o i y (kd % 2 == 1) ∧ (kd < 2 → Cond.instanceMethod y ∈ lw_good ∧ Cond.selects y.cls y y ∈ lw_good) ∧ (kd = 2 ∨ kd = 3 → Cond.static y ∈ lw_good) ∧ (kd = 4 ∨ kd = 5 → Cond.instanceMethod y ∈ lw_good ∧ y.name = "<init>") ∧ kd < 6 := by
  unfold cgB at e
  rw [Bool.and_eq_true] at e
  obtain ⟨e1, e2⟩ := e
  refine ⟨?_, fun c => ?_, fun c => ?_, fun c => ?_, h6⟩
  · by_cases c : kd % 2 = 1
    · rw [if_pos c] at e1
      exact ⟨fun _ => ⟨h.2.2.2, mnB_ok e1⟩, fun z => by rw [c] at z; cases z⟩
    · rw [if_neg c] at e1
      exact ⟨fun z => absurd (beq_iff_eq.mp z) c, fun _ => mkB_ok e1⟩
  · rw [if_pos c, Bool.and_eq_true] at e2
    exact ⟨mkB_ok e2.1, mkB_ok e2.2⟩
  · rw [if_neg (by omega), if_pos (by omega)] at e2
    exact mkB_ok e2
  · rw [if_neg (by omega), if_neg (by omega), Bool.and_eq_true] at e2
    exact ⟨mkB_ok e2.1, of_decide_eq_true e2.2⟩
theorem cfB_lt {o i kd k : Nat} {h : Nat × Nat × Nat × String} (e : (decide (kd < 6) && (match mtL[k]? with
    | some e => cgB o i kd e.1 h
    | none => false)) = true) : ∃ q, mtL[k]? = some q ∧ mlink o i q.1 (kd % 2 == 1) ∧ (kd < 2 → Cond.instanceMethod q.1 ∈ lw_good ∧ Cond.selects q.1.cls q.1 q.1 ∈ lw_good) ∧ (kd = 2 ∨ kd = 3 → Cond.static q.1 ∈ lw_good) ∧ (kd = 4 ∨ kd = 5 → Cond.instanceMethod q.1 ∈ lw_good ∧ q.1.name = "<init>") ∧ kd < 6 := by
  rw [Bool.and_eq_true] at e
  obtain ⟨e1, e2⟩ := e
  cases hq : mtL[k]? with
  | none =>
    rw [hq] at e2
    cases e2
  | some q =>
    rw [hq] at e2
    exact ⟨q, rfl, cgB_ok (of_decide_eq_true e1) e2⟩
theorem cfB_ok {o : Nat} (h : Nat × Nat × Nat × String) (q : Nat × Nat × Nat) (e : cfB o h q = true) : cfact o q.1 q.2.1 q.2.2 := by
  obtain ⟨i, kd, k⟩ := q
  by_cases h6 : kd < 6
  · have c : kd = 0 ∨ kd = 1 ∨ kd = 2 ∨ kd = 3 ∨ kd = 4 ∨ kd = 5 := by omega
    rcases c with rfl | rfl | rfl | rfl | rfl | rfl <;> exact cfB_lt e
  · by_cases h10 : kd ≤ 10
    · have c : kd = 6 ∨ kd = 7 ∨ kd = 8 ∨ kd = 9 ∨ kd = 10 := by omega
      rcases c with rfl | rfl | rfl | rfl | rfl <;> exact mkB_ok e
    · exfalso
      unfold cfB at e
      split at e
      all_goals first | omega | (rw [Bool.and_eq_true] at e; have e1 := of_decide_eq_true e.1; omega)
def cal0 : List (Nat × Nat × Nat) := [(3, 6, 0), (17, 5, 1), (22, 0, 16), (30, 1, 17), (37, 8, 0)]
theorem cal0_ok : ∀ q ∈ cal0, cfact 0 q.1 q.2.1 q.2.2 := zAll_ok cfB_ok ([(232, 0, 0, ""), (235, 170, 0, RX6), (410, 412, 7, ""), (414, 416, 8, RX6), (425, 0, 0, "")] : List (Nat × Nat × Nat × String)) cal0 (by decide +kernel)
def cal1 : List (Nat × Nat × Nat) := [(3, 6, 0), (21, 0, 65), (25, 3, 22), (34, 0, 66), (38, 0, 69), (45, 8, 0), (52, 3, 19), (56, 1, 13), (59, 3, 12), (63, 0, 67), (67, 0, 68), (70, 0, 70), (74, 0, 72), (77, 7, 0), (80, 0, 71)]
theorem cal1_ok : ∀ q ∈ cal1, cfact 1 q.1 q.2.1 q.2.2 := zAll_ok cfB_ok ([(312, 0, 0, ""), (623, 625, 37, ""), (630, 435, 0, RX6), (632, 634, 38, ""), (645, 647, 41, ""), (627, 0, 0, ""), (628, 423, 0, RX6), (629, 397, 4, RX6), (636, 390, 0, RX6), (637, 639, 39, ""), (641, 643, 40, ""), (649, 651, 42, ""), (658, 660, 44, ""), (653, 0, 0, ""), (654, 656, 43, "")] : List (Nat × Nat × Nat × String)) cal1 (by decide +kernel)
def cal2 : List (Nat × Nat × Nat) := [(3, 6, 0), (29, 3, 22), (33, 0, 23), (37, 0, 25), (40, 3, 26), (44, 3, 19), (48, 3, 12), (52, 0, 32), (56, 0, 13), (59, 8, 0), (65, 7, 0), (68, 0, 11), (71, 0, 87), (74, 0, 88), (77, 0, 89), (80, 2, 236)]
theorem cal2_ok : ∀ q ∈ cal2, cfact 2 q.1 q.2.1 q.2.2 := zAll_ok cfB_ok ([(179, 0, 0, ""), (434, 435, 0, RX6), (437, 439, 11, ""), (445, 447, 13, ""), (449, 450, 0, RX6), (422, 423, 0, RX6), (389, 390, 0, RX6), (523, 479, 17, ""), (395, 397, 4, ""), (399, 0, 0, ""), (392, 0, 0, ""), (385, 387, 3, ""), (721, 723, 49, ""), (725, 727, 50, ""), (729, 731, 51, ""), (741, 742, 0, "")] : List (Nat × Nat × Nat × String)) cal2 (by decide +kernel)
def cal3 : List (Nat × Nat × Nat) := [(3, 6, 0), (30, 3, 19), (34, 1, 25), (39, 3, 12), (43, 0, 46), (47, 3, 22), (51, 1, 42), (55, 0, 45), (59, 0, 47), (62, 1, 32), (66, 9, 0), (71, 0, 48), (74, 0, 51), (77, 0, 55), (80, 0, 49), (83, 0, 50), (86, 2, 77), (90, 0, 79), (94, 2, 78), (98, 0, 52), (101, 0, 53), (105, 3, 54), (109, 7, 0), (112, 8, 0)]
theorem cal3_ok : ∀ q ∈ cal3, cfact 3 q.1 q.2.1 q.2.2 := zAll_ok cfB_ok ([(293, 0, 0, ""), (537, 423, 0, RX6), (538, 447, 13, RX6), (539, 390, 0, RX6), (540, 542, 27, ""), (544, 435, 0, RX6), (532, 521, 23, RX6), (533, 535, 26, ""), (545, 547, 28, ""), (549, 479, 17, RX6), (550, 0, 0, ""), (553, 555, 29, ""), (565, 567, 32, ""), (582, 584, 35, ""), (557, 559, 30, ""), (561, 563, 31, ""), (681, 682, 0, ""), (687, 689, 46, ""), (684, 685, 0, ""), (569, 571, 33, ""), (573, 575, 34, ""), (577, 578, 0, RX6), (580, 0, 0, ""), (581, 0, 0, "")] : List (Nat × Nat × Nat × String)) cal3 (by decide +kernel)
def cal4 : List (Nat × Nat × Nat) := [(3, 6, 0), (19, 3, 22), (26, 0, 96), (29, 0, 97), (33, 0, 100), (37, 0, 98), (44, 0, 99), (47, 0, 101), (50, 0, 103), (53, 0, 105), (56, 0, 102), (59, 3, 12), (75, 0, 104)]
theorem cal4_ok : ∀ q ∈ cal4, cfact 4 q.1 q.2.1 q.2.2 := zAll_ok cfB_ok ([(256, 0, 0, ""), (752, 435, 0, RX6), (761, 763, 55, ""), (765, 767, 56, ""), (778, 780, 59, ""), (769, 771, 57, ""), (774, 776, 58, ""), (782, 784, 60, ""), (790, 792, 62, ""), (798, 800, 64, ""), (786, 788, 61, ""), (773, 390, 0, RX6), (794, 796, 63, "")] : List (Nat × Nat × Nat × String)) cal4 (by decide +kernel)
def cal5 : List (Nat × Nat × Nat) := [(3, 6, 0), (21, 5, 2), (28, 0, 9), (32, 1, 18), (40, 1, 10), (47, 1, 32)]
theorem cal5_ok : ∀ q ∈ cal5, cfact 5 q.1 q.2.1 q.2.2 := zAll_ok cfB_ok ([(172, 0, 0, ""), (176, 177, 0, RX6), (377, 379, 1, ""), (418, 420, 9, RX6), (381, 383, 2, RX6), (848, 479, 17, RX6)] : List (Nat × Nat × Nat × String)) cal5 (by decide +kernel)
def cal6 : List (Nat × Nat × Nat) := [(1, 6, 0), (9, 5, 1), (24, 5, 3), (31, 5, 4), (38, 5, 5), (45, 5, 6), (52, 5, 2), (64, 1, 8), (68, 0, 14), (72, 1, 15), (79, 1, 21), (83, 1, 24), (90, 1, 27), (94, 1, 9), (98, 1, 29), (101, 2, 26), (112, 2, 12), (116, 2, 22), (120, 1, 31), (123, 1, 25), (126, 1, 32), (133, 1, 18), (136, 1, 34), (140, 1, 35), (144, 1, 37), (147, 1, 38), (151, 8, 0), (156, 1, 40), (159, 1, 42), (163, 1, 43), (166, 1, 44), (170, 1, 10), (175, 1, 23), (181, 2, 63), (184, 1, 64), (188, 1, 45), (191, 1, 52), (194, 1, 51), (197, 1, 76), (200, 1, 81), (203, 1, 13), (210, 1, 86), (213, 1, 91), (219, 1, 93), (222, 1, 95), (225, 1, 106), (228, 1, 17), (233, 1, 96), (236, 1, 97), (239, 0, 107), (242, 1, 100), (252, 1, 111), (255, 1, 112), (258, 1, 113), (261, 1, 114), (265, 2, 116), (269, 1, 118), (275, 1, 121), (284, 0, 20), (288, 0, 108), (294, 0, 28), (297, 0, 30), (300, 0, 41), (303, 0, 56), (306, 0, 57)]
theorem cal6_ok : ∀ q ∈ cal6, cfact 6 q.1 q.2.1 q.2.2 := zAll_ok cfB_ok ([(164, 0, 0, ""), (169, 170, 0, RX6), (229, 230, 0, RX6), (253, 254, 0, RX6), (290, 291, 0, RX6), (309, 310, 0, RX6), (328, 177, 0, RX6), (373, 375, 0, RX6), (402, 404, 5, ""), (406, 408, 6, RX6), (430, 432, 10, RX6), (441, 443, 12, RX6), (452, 454, 14, RX6), (460, 379, 1, RX6), (461, 463, 15, RX6), (465, 450, 0, ""), (466, 390, 0, ""), (467, 435, 0, ""), (472, 474, 16, RX6), (476, 447, 13, RX6), (477, 479, 17, RX6), (485, 420, 9, RX6), (486, 488, 18, RX6), (490, 492, 19, RX6), (498, 500, 20, RX6), (502, 504, 21, RX6), (510, 0, 0, ""), (511, 513, 22, RX6), (519, 521, 23, RX6), (524, 526, 24, RX6), (528, 530, 25, RX6), (586, 383, 2, RX6), (599, 439, 11, RX6), (616, 617, 0, ""), (619, 621, 36, RX6), (666, 535, 26, RX6), (667, 571, 33, RX6), (672, 567, 32, RX6), (677, 679, 45, RX6), (695, 697, 47, RX6), (703, 397, 4, RX6), (717, 719, 48, RX6), (737, 739, 52, RX6), (748, 750, 53, RX6), (757, 759, 54, RX6), (802, 804, 65, RX6), (806, 416, 8, RX6), (807, 763, 55, RX6), (808, 767, 56, RX6), (809, 811, 66, ""), (823, 780, 59, RX6), (832, 834, 68, RX6), (836, 838, 69, RX6), (840, 842, 70, RX6), (844, 846, 71, RX6), (853, 854, 0, ""), (861, 863, 72, RX6), (873, 875, 73, RX6), (813, 427, 428, ""), (814, 816, 67, ""), (818, 457, 458, ""), (819, 469, 470, ""), (820, 516, 517, ""), (821, 588, 589, ""), (822, 592, 593, "")] : List (Nat × Nat × Nat × String)) cal6 (by decide +kernel)
def cal7 : List (Nat × Nat × Nat) := [(3, 6, 0), (54, 2, 125), (61, 2, 127), (65, 0, 140), (74, 2, 135), (78, 0, 137), (81, 0, 138), (85, 0, 144), (88, 0, 136), (92, 0, 146), (95, 2, 129), (98, 0, 131), (101, 0, 134), (104, 0, 128), (107, 0, 130), (111, 0, 132), (114, 0, 133), (117, 0, 124), (120, 0, 126), (124, 0, 139), (127, 0, 143), (130, 0, 145), (133, 0, 142), (136, 0, 149), (139, 0, 148), (142, 0, 152), (145, 0, 151), (148, 0, 155), (152, 0, 154), (155, 2, 158), (158, 0, 157), (168, 0, 168), (172, 0, 170), (175, 0, 171), (178, 2, 173), (181, 0, 172), (184, 0, 174), (187, 0, 167), (190, 0, 169), (193, 0, 166), (196, 0, 164), (199, 0, 165), (203, 0, 161), (206, 0, 162), (209, 0, 163), (212, 0, 160), (215, 0, 180), (219, 0, 178), (222, 0, 179), (225, 0, 186), (228, 0, 185), (231, 0, 184), (234, 0, 183), (237, 0, 189), (240, 0, 188), (243, 0, 191), (246, 0, 193), (249, 0, 195), (258, 0, 204), (261, 0, 205), (264, 0, 203), (267, 0, 202), (273, 0, 206), (276, 0, 201), (279, 0, 199), (282, 0, 200), (285, 0, 209), (288, 0, 212), (297, 0, 218), (309, 2, 222), (312, 0, 220), (315, 0, 223), (324, 0, 219), (327, 0, 221), (330, 0, 224), (333, 0, 217), (336, 0, 227), (339, 0, 226), (342, 0, 216), (345, 0, 225), (348, 0, 194), (351, 0, 230), (354, 0, 231), (357, 2, 237)]
theorem cal7_ok : ∀ q ∈ cal7, cfact 7 q.1 q.2.1 q.2.2 := zAll_ok cfB_ok ([(882, 0, 0, ""), (983, 984, 0, ""), (990, 991, 0, ""), (1039, 1041, 86, ""), (1020, 1021, 0, ""), (1027, 1029, 83, ""), (1031, 1033, 84, ""), (1055, 1057, 89, ""), (1023, 1025, 82, ""), (1063, 1065, 91, ""), (997, 998, 0, ""), (1004, 1006, 78, ""), (1016, 1018, 81, ""), (993, 995, 76, ""), (1000, 1002, 77, ""), (1008, 1010, 79, ""), (1012, 1014, 80, ""), (979, 981, 74, ""), (986, 988, 75, ""), (1035, 1037, 85, ""), (1051, 1053, 88, ""), (1059, 1061, 90, ""), (1047, 1049, 87, ""), (1075, 1077, 93, ""), (1071, 1073, 92, ""), (1087, 1089, 95, ""), (1083, 1085, 94, ""), (1099, 1101, 97, ""), (1095, 1097, 96, ""), (1111, 1112, 0, ""), (1107, 1109, 98, ""), (1150, 1152, 107, ""), (1158, 1160, 109, ""), (1162, 1164, 110, ""), (1170, 1171, 0, ""), (1166, 1168, 111, ""), (1173, 1175, 112, ""), (1146, 1148, 106, ""), (1154, 1156, 108, ""), (1142, 1144, 105, ""), (1134, 1136, 103, ""), (1138, 1140, 104, ""), (1122, 1124, 100, ""), (1126, 1128, 101, ""), (1130, 1132, 102, ""), (1118, 1120, 99, ""), (1197, 1199, 115, ""), (1189, 1191, 113, ""), (1193, 1195, 114, ""), (1221, 1223, 119, ""), (1217, 1219, 118, ""), (1213, 1215, 117, ""), (1209, 1211, 116, ""), (1233, 1235, 121, ""), (1229, 1231, 120, ""), (1241, 1243, 122, ""), (1249, 1251, 123, ""), (1257, 1259, 124, ""), (1293, 1295, 130, ""), (1297, 1299, 131, ""), (1289, 1291, 129, ""), (1285, 1287, 128, ""), (1301, 1303, 132, ""), (1281, 1283, 127, ""), (1273, 1275, 125, ""), (1277, 1279, 126, ""), (1313, 1315, 133, ""), (1325, 1327, 134, ""), (1349, 1351, 137, ""), (1365, 1366, 0, ""), (1357, 1359, 139, ""), (1368, 1370, 141, ""), (1353, 1355, 138, ""), (1361, 1363, 140, ""), (1372, 1374, 142, ""), (1345, 1347, 136, ""), (1384, 1386, 145, ""), (1380, 1382, 144, ""), (1341, 1343, 135, ""), (1376, 1378, 143, ""), (1400, 1254, 1255, ""), (1396, 1398, 146, ""), (1401, 1403, 147, ""), (1409, 1410, 0, "")] : List (Nat × Nat × Nat × String)) cal7 (by decide +kernel)
def cal8 : List (Nat × Nat × Nat) := [(9, 4, 0), (12, 4, 122), (13, 0, 7), (17, 0, 182), (18, 0, 20), (22, 0, 123), (23, 0, 28), (26, 0, 141), (27, 0, 30), (30, 0, 147), (31, 0, 33), (35, 0, 150), (36, 0, 36), (39, 0, 153), (40, 0, 39), (43, 0, 156), (44, 0, 41), (47, 0, 187), (48, 0, 56), (51, 0, 190), (52, 0, 57), (55, 0, 192), (56, 0, 58), (59, 0, 194), (60, 0, 59), (63, 0, 196), (64, 0, 60), (67, 0, 197), (68, 0, 61), (71, 0, 159), (72, 0, 62), (75, 0, 198), (76, 0, 73), (79, 0, 175), (80, 0, 74), (83, 0, 176), (84, 0, 75), (87, 0, 177), (88, 0, 80), (91, 0, 181), (92, 0, 82), (95, 0, 210), (96, 0, 83), (99, 0, 208), (100, 0, 84), (103, 0, 207), (104, 0, 85), (107, 0, 211), (108, 0, 90), (111, 0, 213), (112, 0, 92), (115, 0, 214), (116, 0, 94), (120, 0, 215), (121, 0, 109), (124, 0, 228), (125, 0, 110), (128, 0, 229), (129, 0, 115), (132, 0, 232), (133, 0, 117), (136, 0, 233), (137, 0, 119), (140, 0, 234), (141, 0, 120), (144, 0, 235)]
theorem cal8_ok : ∀ q ∈ cal8, cfact 8 q.1 q.2.1 q.2.2 := zAll_ok cfB_ok ([(161, 162, 0, ""), (879, 880, 0, ""), (369, 370, 371, ""), (1205, 1206, 1207, ""), (426, 427, 428, ""), (975, 976, 977, ""), (456, 457, 458, ""), (1043, 1044, 1045, ""), (468, 469, 470, ""), (1067, 1068, 1069, ""), (481, 482, 483, ""), (1079, 1080, 1081, ""), (494, 495, 496, ""), (1091, 1092, 1093, ""), (506, 507, 508, ""), (1103, 1104, 1105, ""), (515, 516, 517, ""), (1225, 1226, 1227, ""), (587, 588, 589, ""), (1237, 1238, 1239, ""), (591, 592, 593, ""), (1245, 1246, 1247, ""), (595, 596, 597, ""), (1253, 1254, 1255, ""), (600, 601, 602, ""), (1261, 1262, 1263, ""), (604, 605, 606, ""), (1265, 1266, 1267, ""), (608, 609, 610, ""), (1114, 1115, 1116, ""), (612, 613, 614, ""), (1269, 1270, 1271, ""), (662, 663, 664, ""), (1177, 1178, 1179, ""), (668, 669, 670, ""), (1181, 1182, 1183, ""), (673, 674, 675, ""), (1185, 1186, 1187, ""), (691, 692, 693, ""), (1201, 1202, 1203, ""), (699, 700, 701, ""), (1317, 1318, 1319, ""), (704, 705, 706, ""), (1309, 1310, 1311, ""), (708, 709, 710, ""), (1305, 1306, 1307, ""), (713, 714, 715, ""), (1321, 1322, 1323, ""), (733, 734, 735, ""), (1329, 1330, 1331, ""), (744, 745, 746, ""), (1333, 1334, 1335, ""), (753, 754, 755, ""), (1337, 1338, 1339, ""), (824, 825, 826, ""), (1388, 1389, 1390, ""), (828, 829, 830, ""), (1392, 1393, 1394, ""), (849, 850, 851, ""), (1405, 1406, 1407, ""), (857, 858, 859, ""), (1419, 1420, 1421, ""), (865, 866, 867, ""), (1423, 1424, 1425, ""), (869, 870, 871, ""), (1427, 1428, 1429, "")] : List (Nat × Nat × Nat × String)) cal8 (by decide +kernel)
def cal9 : List (Nat × Nat × Nat) := []
theorem cal9_ok : ∀ q ∈ cal9, cfact 9 q.1 q.2.1 q.2.2 := zAll_ok cfB_ok ([] : List (Nat × Nat × Nat × String)) cal9 (by decide +kernel)
def cal10 : List (Nat × Nat × Nat) := [(59, 2, 238), (74, 10, 0)]
theorem cal10_ok : ∀ q ∈ cal10, cfact 10 q.1 q.2.1 q.2.2 := zAll_ok cfB_ok ([(1412, 1413, 0, ""), (1415, 0, 0, "")] : List (Nat × Nat × Nat × String)) cal10 (by decide +kernel)
def mcalL : Nat → List (Nat × Nat × Nat)
  | 0 => cal0
  | 1 => cal1
  | 2 => cal2
  | 3 => cal3
  | 4 => cal4
  | 5 => cal5
  | 6 => cal6
  | 7 => cal7
  | 8 => cal8
  | 9 => cal9
  | 10 => cal10
  | _ => []
theorem mcalL_ok (o : Nat) : ∀ q ∈ mcalL o, cfact o q.1 q.2.1 q.2.2 := match o with
  | 0 => cal0_ok
  | 1 => cal1_ok
  | 2 => cal2_ok
  | 3 => cal3_ok
  | 4 => cal4_ok
  | 5 => cal5_ok
  | 6 => cal6_ok
  | 7 => cal7_ok
  | 8 => cal8_ok
  | 9 => cal9_ok
  | 10 => cal10_ok
  | _ + 11 => fun _ h => absurd h List.not_mem_nil
def mcal (o i : Nat) : Option (Nat × Nat) := ((mcalL o).find? (fun q => q.1 == i)).map (fun q => q.2)
theorem mcal_ok {o i kd k : Nat} (h : mcal o i = some (kd, k)) : cfact o i kd k := by
  unfold mcal at h
  cases hf : (mcalL o).find? (fun q => q.1 == i) with
  | none => rw [hf] at h; cases h
  | some q =>
    rw [hf] at h
    have h1 := List.find?_some hf
    have h2 := mcalL_ok o q (List.mem_of_find?_eq_some hf)
    obtain ⟨i', kd', k'⟩ := q
    simp only [Option.map_some, Option.some.injEq, Prod.mk.injEq] at h
    simp only [beq_iff_eq] at h1
    obtain ⟨rfl, rfl⟩ := h
    subst h1
    exact h2
