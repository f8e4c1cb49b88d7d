/-! tables: classes, fields, methods, calls, with the words of the tables that each rests on (written by a program) -/
def mNest : Cond → Bool
  | .methodLinkNest _ _ _ _ => true
  | .fieldLinkNest _ _ _ _ _ _ => true
  | _ => false
def lw_good : List Cond := lw_tbl.filter goodWord
def lw_nests : List Cond := lw_tbl.filter mNest
theorem mgd {w : Cond} (i : Nat) (h : lw_tbl[i]? = some w) (g : goodWord w = true) : w ∈ lw_good := List.mem_filter.mpr ⟨List.mem_of_getElem? h, g⟩
theorem mns {w : Cond} (i : Nat) (h : lw_tbl[i]? = some w) (g : mNest w = true) : w ∈ lw_nests := List.mem_filter.mpr ⟨List.mem_of_getElem? h, g⟩
def cN : Nat → String
  | 0 => RX0
  | 1 => RX1
  | 2 => RX2
  | 3 => RX3
  | 4 => RX4
  | 5 => RX5
  | 6 => RX6
  | 7 => RX7
  | 8 => RL
  | 9 => RJ9
  | _ => RJxf58ca
def cT : Nat → u_T
  | 0 => TX0
  | 1 => TX1
  | 2 => TX2
  | 3 => TX3
  | 4 => TX4
  | 5 => TX5
  | 6 => TX6
  | _ => TX7
def cS : Nat → Nat
  | 0 => 4
  | 1 => 4
  | 2 => 5
  | 3 => 4
  | 4 => 8
  | 5 => 4
  | 6 => 13
  | _ => 30
def cY : Nat → Nat → FieldType
  | 0 => tyX0
  | 1 => tyX1
  | 2 => tyX2
  | 3 => tyX3
  | 4 => tyX4
  | 5 => tyX5
  | 6 => tyX6
  | _ => tyX7
abbrev vwCl : List vw_C := [(RX0, TX0, 4), (RX1, TX1, 4), (RX2, TX2, 5), (RX3, TX3, 4), (RX4, TX4, 8), (RX5, TX5, 4), (RX6, TX6, 13), (RX7, TX7, 30)]
set_option maxRecDepth 20000 in
theorem mlay0 : ∀ w ∈ u_ws RX0 TX0 4, w ∈ lw_good := by decide +kernel
set_option maxRecDepth 20000 in
theorem mlay1 : ∀ w ∈ u_ws RX1 TX1 4, w ∈ lw_good := by decide +kernel
set_option maxRecDepth 20000 in
theorem mlay2 : ∀ w ∈ u_ws RX2 TX2 5, w ∈ lw_good := by decide +kernel
set_option maxRecDepth 20000 in
theorem mlay3 : ∀ w ∈ u_ws RX3 TX3 4, w ∈ lw_good := by decide +kernel
set_option maxRecDepth 20000 in
theorem mlay4 : ∀ w ∈ u_ws RX4 TX4 8, w ∈ lw_good := by decide +kernel
set_option maxRecDepth 20000 in
theorem mlay5 : ∀ w ∈ u_ws RX5 TX5 4, w ∈ lw_good := by decide +kernel
set_option maxRecDepth 20000 in
theorem mlay6 : ∀ w ∈ u_ws RX6 TX6 13, w ∈ lw_good := by decide +kernel
set_option maxRecDepth 20000 in
theorem mlay7 : ∀ w ∈ u_ws RX7 TX7 30, w ∈ lw_good := by decide +kernel
def clOK (ci : Nat) : Prop := vwCl[ci]? = some (cN ci, cT ci, cS ci) ∧ (∀ w ∈ u_ws (cN ci) (cT ci) (cS ci), w ∈ lw_good) ∧ (∀ k, k < cS ci → parseFieldDescriptor (cT ci k).2.2.1 = some (cY ci k)) ∧ (∀ a, a < cS ci → ∀ b, b < cS ci → a ≠ b → (cT ci a).2.1 ≠ (cT ci b).2.1) ∧ (Cond.instantiable (cN ci) (cS ci)) ∈ lw_good ∧ (Cond.initialized (cN ci)) ∈ lw_good ∧ ∀ k, k < cS ci → (cT ci k).1 = cN ci
theorem clOK0 : clOK 0 := ⟨rfl, mlay0, tyX0_ok, nmX0, mgd 228 (by decide +kernel) rfl, mgd 152 (by decide +kernel) rfl, by decide +kernel⟩
theorem clOK1 : clOK 1 := ⟨rfl, mlay1, tyX1_ok, nmX1, mgd 308 (by decide +kernel) rfl, mgd 155 (by decide +kernel) rfl, by decide +kernel⟩
theorem clOK2 : clOK 2 := ⟨rfl, mlay2, tyX2_ok, nmX2, mgd 175 (by decide +kernel) rfl, mgd 151 (by decide +kernel) rfl, by decide +kernel⟩
theorem clOK3 : clOK 3 := ⟨rfl, mlay3, tyX3_ok, nmX3, mgd 289 (by decide +kernel) rfl, mgd 154 (by decide +kernel) rfl, by decide +kernel⟩
theorem clOK4 : clOK 4 := ⟨rfl, mlay4, tyX4_ok, nmX4, mgd 252 (by decide +kernel) rfl, mgd 153 (by decide +kernel) rfl, by decide +kernel⟩
theorem clOK5 : clOK 5 := ⟨rfl, mlay5, tyX5_ok, nmX5, mgd 168 (by decide +kernel) rfl, mgd 150 (by decide +kernel) rfl, by decide +kernel⟩
theorem clOK6 : clOK 6 := ⟨rfl, mlay6, tyX6_ok, nmX6, mgd 160 (by decide +kernel) rfl, mgd 149 (by decide +kernel) rfl, by decide +kernel⟩
theorem clOK7 : clOK 7 := ⟨rfl, mlay7, tyX7_ok, nmX7, mgd 878 (by decide +kernel) rfl, mgd 156 (by decide +kernel) rfl, by decide +kernel⟩
theorem cl_ok (ci : Nat) (h : ci < 8) : clOK ci := match ci, h with
  | 0, _ => clOK0
  | 1, _ => clOK1
  | 2, _ => clOK2
  | 3, _ => clOK3
  | 4, _ => clOK4
  | 5, _ => clOK5
  | 6, _ => clOK6
  | 7, _ => clOK7
  | k + 8, h => absurd h (by omega)
def ffact (o i ci k : Nat) (nest : Bool) : Prop := ci < 8 ∧ k < cS ci ∧ (nest = true → ∃ host, Cond.fieldLinkNest (cN o) i (cT ci k).1 (cT ci k).2.1 (cT ci k).2.2.1 host ∈ lw_nests) ∧ (nest = false → Cond.fieldLink (cN o) i (cT ci k).1 (cT ci k).2.1 (cT ci k).2.2.1 ∈ lw_good)
def fld0 : List (Nat × Nat × Nat × Bool) := [(11, 0, 0, false), (18, 0, 1, false), (26, 0, 3, false), (34, 0, 2, false)]
theorem ff_0_11 : ffact 0 11 0 0 false := ⟨by decide, by decide, fun h => (by cases h), fun _ => mgd 236 (by decide +kernel) rfl⟩
theorem ff_0_18 : ffact 0 18 0 1 false := ⟨by decide, by decide, fun h => (by cases h), fun _ => mgd 237 (by decide +kernel) rfl⟩
theorem ff_0_26 : ffact 0 26 0 3 false := ⟨by decide, by decide, fun h => (by cases h), fun _ => mgd 240 (by decide +kernel) rfl⟩
theorem ff_0_34 : ffact 0 34 0 2 false := ⟨by decide, by decide, fun h => (by cases h), fun _ => mgd 238 (by decide +kernel) rfl⟩
theorem fld0_ok : ∀ q ∈ fld0, ffact 0 q.1 q.2.1 q.2.2.1 q.2.2.2 := List.forall_mem_cons.mpr ⟨ff_0_11, List.forall_mem_cons.mpr ⟨ff_0_18, List.forall_mem_cons.mpr ⟨ff_0_26, List.forall_mem_cons.mpr ⟨ff_0_34, fun _ h => absurd h List.not_mem_nil⟩⟩⟩⟩
def fld1 : List (Nat × Nat × Nat × Bool) := [(9, 1, 1, false), (15, 1, 2, false), (18, 1, 3, false), (30, 1, 0, false), (42, 2, 1, true), (51, 2, 4, true)]
theorem ff_1_9 : ffact 1 9 1 1 false := ⟨by decide, by decide, fun h => (by cases h), fun _ => mgd 314 (by decide +kernel) rfl⟩
theorem ff_1_15 : ffact 1 15 1 2 false := ⟨by decide, by decide, fun h => (by cases h), fun _ => mgd 316 (by decide +kernel) rfl⟩
theorem ff_1_18 : ffact 1 18 1 3 false := ⟨by decide, by decide, fun h => (by cases h), fun _ => mgd 317 (by decide +kernel) rfl⟩
theorem ff_1_30 : ffact 1 30 1 0 false := ⟨by decide, by decide, fun h => (by cases h), fun _ => mgd 313 (by decide +kernel) rfl⟩
theorem ff_1_42 : ffact 1 42 2 1 true := ⟨by decide, by decide, fun _ => ⟨RX6, mns 186 (by decide +kernel) rfl⟩, fun h => by cases h⟩
theorem ff_1_51 : ffact 1 51 2 4 true := ⟨by decide, by decide, fun _ => ⟨RX6, mns 197 (by decide +kernel) rfl⟩, fun h => by cases h⟩
theorem fld1_ok : ∀ q ∈ fld1, ffact 1 q.1 q.2.1 q.2.2.1 q.2.2.2 := List.forall_mem_cons.mpr ⟨ff_1_9, List.forall_mem_cons.mpr ⟨ff_1_15, List.forall_mem_cons.mpr ⟨ff_1_18, List.forall_mem_cons.mpr ⟨ff_1_30, List.forall_mem_cons.mpr ⟨ff_1_42, List.forall_mem_cons.mpr ⟨ff_1_51, fun _ h => absurd h List.not_mem_nil⟩⟩⟩⟩⟩⟩
def fld2 : List (Nat × Nat × Nat × Bool) := [(9, 2, 3, false), (15, 2, 4, false), (18, 2, 0, false), (22, 2, 2, false), (26, 2, 1, false)]
theorem ff_2_9 : ffact 2 9 2 3 false := ⟨by decide, by decide, fun h => (by cases h), fun _ => mgd 192 (by decide +kernel) rfl⟩
theorem ff_2_15 : ffact 2 15 2 4 false := ⟨by decide, by decide, fun h => (by cases h), fun _ => mgd 195 (by decide +kernel) rfl⟩
theorem ff_2_18 : ffact 2 18 2 0 false := ⟨by decide, by decide, fun h => (by cases h), fun _ => mgd 180 (by decide +kernel) rfl⟩
theorem ff_2_22 : ffact 2 22 2 2 false := ⟨by decide, by decide, fun h => (by cases h), fun _ => mgd 189 (by decide +kernel) rfl⟩
theorem ff_2_26 : ffact 2 26 2 1 false := ⟨by decide, by decide, fun h => (by cases h), fun _ => mgd 185 (by decide +kernel) rfl⟩
theorem fld2_ok : ∀ q ∈ fld2, ffact 2 q.1 q.2.1 q.2.2.1 q.2.2.2 := List.forall_mem_cons.mpr ⟨ff_2_9, List.forall_mem_cons.mpr ⟨ff_2_15, List.forall_mem_cons.mpr ⟨ff_2_18, List.forall_mem_cons.mpr ⟨ff_2_22, List.forall_mem_cons.mpr ⟨ff_2_26, fun _ h => absurd h List.not_mem_nil⟩⟩⟩⟩⟩
def fld3 : List (Nat × Nat × Nat × Bool) := [(9, 3, 2, false), (15, 3, 3, false), (18, 2, 0, true), (24, 3, 0, false), (25, 2, 1, true), (28, 3, 1, false), (29, 2, 3, true), (38, 2, 4, true)]
theorem ff_3_9 : ffact 3 9 3 2 false := ⟨by decide, by decide, fun h => (by cases h), fun _ => mgd 296 (by decide +kernel) rfl⟩
theorem ff_3_15 : ffact 3 15 3 3 false := ⟨by decide, by decide, fun h => (by cases h), fun _ => mgd 297 (by decide +kernel) rfl⟩
theorem ff_3_18 : ffact 3 18 2 0 true := ⟨by decide, by decide, fun _ => ⟨RX6, mns 181 (by decide +kernel) rfl⟩, fun h => by cases h⟩
theorem ff_3_24 : ffact 3 24 3 0 false := ⟨by decide, by decide, fun h => (by cases h), fun _ => mgd 294 (by decide +kernel) rfl⟩
theorem ff_3_25 : ffact 3 25 2 1 true := ⟨by decide, by decide, fun _ => ⟨RX6, mns 184 (by decide +kernel) rfl⟩, fun h => by cases h⟩
theorem ff_3_28 : ffact 3 28 3 1 false := ⟨by decide, by decide, fun h => (by cases h), fun _ => mgd 295 (by decide +kernel) rfl⟩
theorem ff_3_29 : ffact 3 29 2 3 true := ⟨by decide, by decide, fun _ => ⟨RX6, mns 193 (by decide +kernel) rfl⟩, fun h => by cases h⟩
theorem ff_3_38 : ffact 3 38 2 4 true := ⟨by decide, by decide, fun _ => ⟨RX6, mns 196 (by decide +kernel) rfl⟩, fun h => by cases h⟩
theorem fld3_ok : ∀ q ∈ fld3, ffact 3 q.1 q.2.1 q.2.2.1 q.2.2.2 := List.forall_mem_cons.mpr ⟨ff_3_9, List.forall_mem_cons.mpr ⟨ff_3_15, List.forall_mem_cons.mpr ⟨ff_3_18, List.forall_mem_cons.mpr ⟨ff_3_24, List.forall_mem_cons.mpr ⟨ff_3_25, List.forall_mem_cons.mpr ⟨ff_3_28, List.forall_mem_cons.mpr ⟨ff_3_29, List.forall_mem_cons.mpr ⟨ff_3_38, fun _ h => absurd h List.not_mem_nil⟩⟩⟩⟩⟩⟩⟩⟩
def fld4 : List (Nat × Nat × Nat × Bool) := [(9, 4, 0, false), (15, 4, 1, false), (23, 4, 2, false), (41, 4, 3, false), (63, 4, 4, false), (66, 4, 5, false), (69, 4, 6, false), (72, 4, 7, false)]
theorem ff_4_9 : ffact 4 9 4 0 false := ⟨by decide, by decide, fun h => (by cases h), fun _ => mgd 257 (by decide +kernel) rfl⟩
theorem ff_4_15 : ffact 4 15 4 1 false := ⟨by decide, by decide, fun h => (by cases h), fun _ => mgd 258 (by decide +kernel) rfl⟩
theorem ff_4_23 : ffact 4 23 4 2 false := ⟨by decide, by decide, fun h => (by cases h), fun _ => mgd 260 (by decide +kernel) rfl⟩
theorem ff_4_41 : ffact 4 41 4 3 false := ⟨by decide, by decide, fun h => (by cases h), fun _ => mgd 261 (by decide +kernel) rfl⟩
theorem ff_4_63 : ffact 4 63 4 4 false := ⟨by decide, by decide, fun h => (by cases h), fun _ => mgd 263 (by decide +kernel) rfl⟩
theorem ff_4_66 : ffact 4 66 4 5 false := ⟨by decide, by decide, fun h => (by cases h), fun _ => mgd 265 (by decide +kernel) rfl⟩
theorem ff_4_69 : ffact 4 69 4 6 false := ⟨by decide, by decide, fun h => (by cases h), fun _ => mgd 267 (by decide +kernel) rfl⟩
theorem ff_4_72 : ffact 4 72 4 7 false := ⟨by decide, by decide, fun h => (by cases h), fun _ => mgd 269 (by decide +kernel) rfl⟩
theorem fld4_ok : ∀ q ∈ fld4, ffact 4 q.1 q.2.1 q.2.2.1 q.2.2.2 := List.forall_mem_cons.mpr ⟨ff_4_9, List.forall_mem_cons.mpr ⟨ff_4_15, List.forall_mem_cons.mpr ⟨ff_4_23, List.forall_mem_cons.mpr ⟨ff_4_41, List.forall_mem_cons.mpr ⟨ff_4_63, List.forall_mem_cons.mpr ⟨ff_4_66, List.forall_mem_cons.mpr ⟨ff_4_69, List.forall_mem_cons.mpr ⟨ff_4_72, fun _ h => absurd h List.not_mem_nil⟩⟩⟩⟩⟩⟩⟩⟩
def fld5 : List (Nat × Nat × Nat × Bool) := [(11, 5, 0, false), (17, 5, 2, false), (22, 5, 1, false), (25, 5, 3, false), (36, 2, 2, true), (43, 2, 0, true), (46, 2, 1, true)]
theorem ff_5_11 : ffact 5 11 5 0 false := ⟨by decide, by decide, fun h => (by cases h), fun _ => mgd 211 (by decide +kernel) rfl⟩
theorem ff_5_17 : ffact 5 17 5 2 false := ⟨by decide, by decide, fun h => (by cases h), fun _ => mgd 214 (by decide +kernel) rfl⟩
theorem ff_5_22 : ffact 5 22 5 1 false := ⟨by decide, by decide, fun h => (by cases h), fun _ => mgd 212 (by decide +kernel) rfl⟩
theorem ff_5_25 : ffact 5 25 5 3 false := ⟨by decide, by decide, fun h => (by cases h), fun _ => mgd 216 (by decide +kernel) rfl⟩
theorem ff_5_36 : ffact 5 36 2 2 true := ⟨by decide, by decide, fun _ => ⟨RX6, mns 191 (by decide +kernel) rfl⟩, fun h => by cases h⟩
theorem ff_5_43 : ffact 5 43 2 0 true := ⟨by decide, by decide, fun _ => ⟨RX6, mns 183 (by decide +kernel) rfl⟩, fun h => by cases h⟩
theorem ff_5_46 : ffact 5 46 2 1 true := ⟨by decide, by decide, fun _ => ⟨RX6, mns 188 (by decide +kernel) rfl⟩, fun h => by cases h⟩
theorem fld5_ok : ∀ q ∈ fld5, ffact 5 q.1 q.2.1 q.2.2.1 q.2.2.2 := List.forall_mem_cons.mpr ⟨ff_5_11, List.forall_mem_cons.mpr ⟨ff_5_17, List.forall_mem_cons.mpr ⟨ff_5_22, List.forall_mem_cons.mpr ⟨ff_5_25, List.forall_mem_cons.mpr ⟨ff_5_36, List.forall_mem_cons.mpr ⟨ff_5_43, List.forall_mem_cons.mpr ⟨ff_5_46, fun _ h => absurd h List.not_mem_nil⟩⟩⟩⟩⟩⟩⟩
def fld6 : List (Nat × Nat × Nat × Bool) := [(10, 6, 0, false), (16, 6, 1, false), (19, 6, 2, false), (25, 6, 3, false), (32, 6, 4, false), (39, 6, 5, false), (46, 6, 6, false), (53, 6, 7, false), (57, 6, 9, false), (61, 6, 12, false), (76, 5, 2, true), (87, 5, 1, true), (104, 2, 2, true), (108, 2, 4, true), (130, 2, 0, true), (143, 2, 1, true), (172, 5, 3, true), (178, 2, 3, true), (206, 1, 1, true), (216, 4, 1, true), (230, 0, 3, true), (246, 6, 10, false), (249, 6, 11, false), (264, 0, 2, true), (272, 6, 8, false), (276, 4, 3, true), (279, 4, 4, true), (282, 4, 5, true), (291, 4, 7, true), (309, 4, 6, true)]
theorem ff_6_10 : ffact 6 10 6 0 false := ⟨by decide, by decide, fun h => (by cases h), fun _ => mgd 329 (by decide +kernel) rfl⟩
theorem ff_6_16 : ffact 6 16 6 1 false := ⟨by decide, by decide, fun h => (by cases h), fun _ => mgd 330 (by decide +kernel) rfl⟩
theorem ff_6_19 : ffact 6 19 6 2 false := ⟨by decide, by decide, fun h => (by cases h), fun _ => mgd 331 (by decide +kernel) rfl⟩
theorem ff_6_25 : ffact 6 25 6 3 false := ⟨by decide, by decide, fun h => (by cases h), fun _ => mgd 332 (by decide +kernel) rfl⟩
theorem ff_6_32 : ffact 6 32 6 4 false := ⟨by decide, by decide, fun h => (by cases h), fun _ => mgd 333 (by decide +kernel) rfl⟩
theorem ff_6_39 : ffact 6 39 6 5 false := ⟨by decide, by decide, fun h => (by cases h), fun _ => mgd 334 (by decide +kernel) rfl⟩
theorem ff_6_46 : ffact 6 46 6 6 false := ⟨by decide, by decide, fun h => (by cases h), fun _ => mgd 335 (by decide +kernel) rfl⟩
theorem ff_6_53 : ffact 6 53 6 7 false := ⟨by decide, by decide, fun h => (by cases h), fun _ => mgd 336 (by decide +kernel) rfl⟩
theorem ff_6_57 : ffact 6 57 6 9 false := ⟨by decide, by decide, fun h => (by cases h), fun _ => mgd 338 (by decide +kernel) rfl⟩
theorem ff_6_61 : ffact 6 61 6 12 false := ⟨by decide, by decide, fun h => (by cases h), fun _ => mgd 341 (by decide +kernel) rfl⟩
theorem ff_6_76 : ffact 6 76 5 2 true := ⟨by decide, by decide, fun _ => ⟨RX6, mns 215 (by decide +kernel) rfl⟩, fun h => by cases h⟩
theorem ff_6_87 : ffact 6 87 5 1 true := ⟨by decide, by decide, fun _ => ⟨RX6, mns 213 (by decide +kernel) rfl⟩, fun h => by cases h⟩
theorem ff_6_104 : ffact 6 104 2 2 true := ⟨by decide, by decide, fun _ => ⟨RX6, mns 190 (by decide +kernel) rfl⟩, fun h => by cases h⟩
theorem ff_6_108 : ffact 6 108 2 4 true := ⟨by decide, by decide, fun _ => ⟨RX6, mns 198 (by decide +kernel) rfl⟩, fun h => by cases h⟩
theorem ff_6_130 : ffact 6 130 2 0 true := ⟨by decide, by decide, fun _ => ⟨RX6, mns 182 (by decide +kernel) rfl⟩, fun h => by cases h⟩
theorem ff_6_143 : ffact 6 143 2 1 true := ⟨by decide, by decide, fun _ => ⟨RX6, mns 187 (by decide +kernel) rfl⟩, fun h => by cases h⟩
theorem ff_6_172 : ffact 6 172 5 3 true := ⟨by decide, by decide, fun _ => ⟨RX6, mns 217 (by decide +kernel) rfl⟩, fun h => by cases h⟩
theorem ff_6_178 : ffact 6 178 2 3 true := ⟨by decide, by decide, fun _ => ⟨RX6, mns 194 (by decide +kernel) rfl⟩, fun h => by cases h⟩
theorem ff_6_206 : ffact 6 206 1 1 true := ⟨by decide, by decide, fun _ => ⟨RX6, mns 315 (by decide +kernel) rfl⟩, fun h => by cases h⟩
theorem ff_6_216 : ffact 6 216 4 1 true := ⟨by decide, by decide, fun _ => ⟨RX6, mns 259 (by decide +kernel) rfl⟩, fun h => by cases h⟩
theorem ff_6_230 : ffact 6 230 0 3 true := ⟨by decide, by decide, fun _ => ⟨RX6, mns 241 (by decide +kernel) rfl⟩, fun h => by cases h⟩
theorem ff_6_246 : ffact 6 246 6 10 false := ⟨by decide, by decide, fun h => (by cases h), fun _ => mgd 339 (by decide +kernel) rfl⟩
theorem ff_6_249 : ffact 6 249 6 11 false := ⟨by decide, by decide, fun h => (by cases h), fun _ => mgd 340 (by decide +kernel) rfl⟩
theorem ff_6_264 : ffact 6 264 0 2 true := ⟨by decide, by decide, fun _ => ⟨RX6, mns 239 (by decide +kernel) rfl⟩, fun h => by cases h⟩
theorem ff_6_272 : ffact 6 272 6 8 false := ⟨by decide, by decide, fun h => (by cases h), fun _ => mgd 337 (by decide +kernel) rfl⟩
theorem ff_6_276 : ffact 6 276 4 3 true := ⟨by decide, by decide, fun _ => ⟨RX6, mns 262 (by decide +kernel) rfl⟩, fun h => by cases h⟩
theorem ff_6_279 : ffact 6 279 4 4 true := ⟨by decide, by decide, fun _ => ⟨RX6, mns 264 (by decide +kernel) rfl⟩, fun h => by cases h⟩
theorem ff_6_282 : ffact 6 282 4 5 true := ⟨by decide, by decide, fun _ => ⟨RX6, mns 266 (by decide +kernel) rfl⟩, fun h => by cases h⟩
theorem ff_6_291 : ffact 6 291 4 7 true := ⟨by decide, by decide, fun _ => ⟨RX6, mns 270 (by decide +kernel) rfl⟩, fun h => by cases h⟩
theorem ff_6_309 : ffact 6 309 4 6 true := ⟨by decide, by decide, fun _ => ⟨RX6, mns 268 (by decide +kernel) rfl⟩, fun h => by cases h⟩
theorem fld6_ok : ∀ q ∈ fld6, ffact 6 q.1 q.2.1 q.2.2.1 q.2.2.2 := List.forall_mem_cons.mpr ⟨ff_6_10, List.forall_mem_cons.mpr ⟨ff_6_16, List.forall_mem_cons.mpr ⟨ff_6_19, List.forall_mem_cons.mpr ⟨ff_6_25, List.forall_mem_cons.mpr ⟨ff_6_32, List.forall_mem_cons.mpr ⟨ff_6_39, List.forall_mem_cons.mpr ⟨ff_6_46, List.forall_mem_cons.mpr ⟨ff_6_53, List.forall_mem_cons.mpr ⟨ff_6_57, List.forall_mem_cons.mpr ⟨ff_6_61, List.forall_mem_cons.mpr ⟨ff_6_76, List.forall_mem_cons.mpr ⟨ff_6_87, List.forall_mem_cons.mpr ⟨ff_6_104, List.forall_mem_cons.mpr ⟨ff_6_108, List.forall_mem_cons.mpr ⟨ff_6_130, List.forall_mem_cons.mpr ⟨ff_6_143, List.forall_mem_cons.mpr ⟨ff_6_172, List.forall_mem_cons.mpr ⟨ff_6_178, List.forall_mem_cons.mpr ⟨ff_6_206, List.forall_mem_cons.mpr ⟨ff_6_216, List.forall_mem_cons.mpr ⟨ff_6_230, List.forall_mem_cons.mpr ⟨ff_6_246, List.forall_mem_cons.mpr ⟨ff_6_249, List.forall_mem_cons.mpr ⟨ff_6_264, List.forall_mem_cons.mpr ⟨ff_6_272, List.forall_mem_cons.mpr ⟨ff_6_276, List.forall_mem_cons.mpr ⟨ff_6_279, List.forall_mem_cons.mpr ⟨ff_6_282, List.forall_mem_cons.mpr ⟨ff_6_291, List.forall_mem_cons.mpr ⟨ff_6_309, fun _ h => absurd h List.not_mem_nil⟩⟩⟩⟩⟩⟩⟩⟩⟩⟩⟩⟩⟩⟩⟩⟩⟩⟩⟩⟩⟩⟩⟩⟩⟩⟩⟩⟩⟩⟩
def fld7 : List (Nat × Nat × Nat × Bool) := [(9, 7, 0, false), (13, 7, 1, false), (16, 7, 2, false), (19, 7, 3, false), (22, 7, 9, false), (25, 7, 10, false), (28, 7, 11, false), (31, 7, 12, false), (34, 7, 15, false), (37, 7, 16, false), (40, 7, 17, false), (43, 7, 18, false), (47, 7, 22, false), (50, 7, 7, false), (58, 7, 4, false), (68, 7, 5, false), (71, 7, 6, false), (161, 7, 14, false), (165, 7, 13, false), (252, 7, 19, false), (255, 7, 20, false), (270, 7, 21, false), (291, 7, 23, false), (294, 7, 24, false), (300, 7, 26, false), (303, 7, 27, false), (306, 7, 28, false), (318, 7, 29, false), (321, 7, 25, false), (363, 7, 8, false)]
theorem ff_7_9 : ffact 7 9 7 0 false := ⟨by decide, by decide, fun h => (by cases h), fun _ => mgd 883 (by decide +kernel) rfl⟩
theorem ff_7_13 : ffact 7 13 7 1 false := ⟨by decide, by decide, fun h => (by cases h), fun _ => mgd 884 (by decide +kernel) rfl⟩
theorem ff_7_16 : ffact 7 16 7 2 false := ⟨by decide, by decide, fun h => (by cases h), fun _ => mgd 885 (by decide +kernel) rfl⟩
theorem ff_7_19 : ffact 7 19 7 3 false := ⟨by decide, by decide, fun h => (by cases h), fun _ => mgd 886 (by decide +kernel) rfl⟩
theorem ff_7_22 : ffact 7 22 7 9 false := ⟨by decide, by decide, fun h => (by cases h), fun _ => mgd 892 (by decide +kernel) rfl⟩
theorem ff_7_25 : ffact 7 25 7 10 false := ⟨by decide, by decide, fun h => (by cases h), fun _ => mgd 893 (by decide +kernel) rfl⟩
theorem ff_7_28 : ffact 7 28 7 11 false := ⟨by decide, by decide, fun h => (by cases h), fun _ => mgd 894 (by decide +kernel) rfl⟩
theorem ff_7_31 : ffact 7 31 7 12 false := ⟨by decide, by decide, fun h => (by cases h), fun _ => mgd 895 (by decide +kernel) rfl⟩
theorem ff_7_34 : ffact 7 34 7 15 false := ⟨by decide, by decide, fun h => (by cases h), fun _ => mgd 898 (by decide +kernel) rfl⟩
theorem ff_7_37 : ffact 7 37 7 16 false := ⟨by decide, by decide, fun h => (by cases h), fun _ => mgd 899 (by decide +kernel) rfl⟩
theorem ff_7_40 : ffact 7 40 7 17 false := ⟨by decide, by decide, fun h => (by cases h), fun _ => mgd 900 (by decide +kernel) rfl⟩
theorem ff_7_43 : ffact 7 43 7 18 false := ⟨by decide, by decide, fun h => (by cases h), fun _ => mgd 901 (by decide +kernel) rfl⟩
theorem ff_7_47 : ffact 7 47 7 22 false := ⟨by decide, by decide, fun h => (by cases h), fun _ => mgd 905 (by decide +kernel) rfl⟩
theorem ff_7_50 : ffact 7 50 7 7 false := ⟨by decide, by decide, fun h => (by cases h), fun _ => mgd 890 (by decide +kernel) rfl⟩
theorem ff_7_58 : ffact 7 58 7 4 false := ⟨by decide, by decide, fun h => (by cases h), fun _ => mgd 887 (by decide +kernel) rfl⟩
theorem ff_7_68 : ffact 7 68 7 5 false := ⟨by decide, by decide, fun h => (by cases h), fun _ => mgd 888 (by decide +kernel) rfl⟩
theorem ff_7_71 : ffact 7 71 7 6 false := ⟨by decide, by decide, fun h => (by cases h), fun _ => mgd 889 (by decide +kernel) rfl⟩
theorem ff_7_161 : ffact 7 161 7 14 false := ⟨by decide, by decide, fun h => (by cases h), fun _ => mgd 897 (by decide +kernel) rfl⟩
theorem ff_7_165 : ffact 7 165 7 13 false := ⟨by decide, by decide, fun h => (by cases h), fun _ => mgd 896 (by decide +kernel) rfl⟩
theorem ff_7_252 : ffact 7 252 7 19 false := ⟨by decide, by decide, fun h => (by cases h), fun _ => mgd 902 (by decide +kernel) rfl⟩
theorem ff_7_255 : ffact 7 255 7 20 false := ⟨by decide, by decide, fun h => (by cases h), fun _ => mgd 903 (by decide +kernel) rfl⟩
theorem ff_7_270 : ffact 7 270 7 21 false := ⟨by decide, by decide, fun h => (by cases h), fun _ => mgd 904 (by decide +kernel) rfl⟩
theorem ff_7_291 : ffact 7 291 7 23 false := ⟨by decide, by decide, fun h => (by cases h), fun _ => mgd 906 (by decide +kernel) rfl⟩
theorem ff_7_294 : ffact 7 294 7 24 false := ⟨by decide, by decide, fun h => (by cases h), fun _ => mgd 907 (by decide +kernel) rfl⟩
theorem ff_7_300 : ffact 7 300 7 26 false := ⟨by decide, by decide, fun h => (by cases h), fun _ => mgd 909 (by decide +kernel) rfl⟩
theorem ff_7_303 : ffact 7 303 7 27 false := ⟨by decide, by decide, fun h => (by cases h), fun _ => mgd 910 (by decide +kernel) rfl⟩
theorem ff_7_306 : ffact 7 306 7 28 false := ⟨by decide, by decide, fun h => (by cases h), fun _ => mgd 911 (by decide +kernel) rfl⟩
theorem ff_7_318 : ffact 7 318 7 29 false := ⟨by decide, by decide, fun h => (by cases h), fun _ => mgd 912 (by decide +kernel) rfl⟩
theorem ff_7_321 : ffact 7 321 7 25 false := ⟨by decide, by decide, fun h => (by cases h), fun _ => mgd 908 (by decide +kernel) rfl⟩
theorem ff_7_363 : ffact 7 363 7 8 false := ⟨by decide, by decide, fun h => (by cases h), fun _ => mgd 891 (by decide +kernel) rfl⟩
theorem fld7_ok : ∀ q ∈ fld7, ffact 7 q.1 q.2.1 q.2.2.1 q.2.2.2 := List.forall_mem_cons.mpr ⟨ff_7_9, List.forall_mem_cons.mpr ⟨ff_7_13, List.forall_mem_cons.mpr ⟨ff_7_16, List.forall_mem_cons.mpr ⟨ff_7_19, List.forall_mem_cons.mpr ⟨ff_7_22, List.forall_mem_cons.mpr ⟨ff_7_25, List.forall_mem_cons.mpr ⟨ff_7_28, List.forall_mem_cons.mpr ⟨ff_7_31, List.forall_mem_cons.mpr ⟨ff_7_34, List.forall_mem_cons.mpr ⟨ff_7_37, List.forall_mem_cons.mpr ⟨ff_7_40, List.forall_mem_cons.mpr ⟨ff_7_43, List.forall_mem_cons.mpr ⟨ff_7_47, List.forall_mem_cons.mpr ⟨ff_7_50, List.forall_mem_cons.mpr ⟨ff_7_58, List.forall_mem_cons.mpr ⟨ff_7_68, List.forall_mem_cons.mpr ⟨ff_7_71, List.forall_mem_cons.mpr ⟨ff_7_161, List.forall_mem_cons.mpr ⟨ff_7_165, List.forall_mem_cons.mpr ⟨ff_7_252, List.forall_mem_cons.mpr ⟨ff_7_255, List.forall_mem_cons.mpr ⟨ff_7_270, List.forall_mem_cons.mpr ⟨ff_7_291, List.forall_mem_cons.mpr ⟨ff_7_294, List.forall_mem_cons.mpr ⟨ff_7_300, List.forall_mem_cons.mpr ⟨ff_7_303, List.forall_mem_cons.mpr ⟨ff_7_306, List.forall_mem_cons.mpr ⟨ff_7_318, List.forall_mem_cons.mpr ⟨ff_7_321, List.forall_mem_cons.mpr ⟨ff_7_363, fun _ h => absurd h List.not_mem_nil⟩⟩⟩⟩⟩⟩⟩⟩⟩⟩⟩⟩⟩⟩⟩⟩⟩⟩⟩⟩⟩⟩⟩⟩⟩⟩⟩⟩⟩⟩
def fld8 : List (Nat × Nat × Nat × Bool) := []
theorem fld8_ok : ∀ q ∈ fld8, ffact 8 q.1 q.2.1 q.2.2.1 q.2.2.2 := fun _ h => absurd h List.not_mem_nil
def fld9 : List (Nat × Nat × Nat × Bool) := []
theorem fld9_ok : ∀ q ∈ fld9, ffact 9 q.1 q.2.1 q.2.2.1 q.2.2.2 := fun _ h => absurd h List.not_mem_nil
def fld10 : List (Nat × Nat × Nat × Bool) := []
theorem fld10_ok : ∀ q ∈ fld10, ffact 10 q.1 q.2.1 q.2.2.1 q.2.2.2 := fun _ h => absurd h List.not_mem_nil
def mfldL : Nat → List (Nat × Nat × Nat × Bool)
  | 0 => fld0
  | 1 => fld1
  | 2 => fld2
  | 3 => fld3
  | 4 => fld4
  | 5 => fld5
  | 6 => fld6
  | 7 => fld7
  | 8 => fld8
  | 9 => fld9
  | 10 => fld10
  | _ => []
theorem mfldL_ok (o : Nat) : ∀ q ∈ mfldL o, ffact o q.1 q.2.1 q.2.2.1 q.2.2.2 := match o with
  | 0 => fld0_ok
  | 1 => fld1_ok
  | 2 => fld2_ok
  | 3 => fld3_ok
  | 4 => fld4_ok
  | 5 => fld5_ok
  | 6 => fld6_ok
  | 7 => fld7_ok
  | 8 => fld8_ok
  | 9 => fld9_ok
  | 10 => fld10_ok
  | _ + 11 => fun _ h => absurd h List.not_mem_nil
def mfld (o i : Nat) : Option (Nat × Nat × Bool) := ((mfldL o).find? (fun q => q.1 == i)).map (fun q => q.2)
theorem mfld_ok {o i ci k : Nat} {nest : Bool} (h : mfld o i = some (ci, k, nest)) : ffact o i ci k nest := by
  unfold mfld at h
  cases hf : (mfldL o).find? (fun q => q.1 == i) with
  | none => rw [hf] at h; cases h
  | some q =>
    rw [hf] at h
    have h1 := List.find?_some hf
    have h2 := mfldL_ok o q (List.mem_of_find?_eq_some hf)
    obtain ⟨i', ci', k', n'⟩ := q
    simp only [Option.map_some, Option.some.injEq, Prod.mk.injEq] at h
    simp only [beq_iff_eq] at h1
    obtain ⟨rfl, rfl, rfl⟩ := h
    subst h1
    exact h2
def mclsL : List (Nat × Nat × Nat) := [(8, 7, 6), (6, 7, 5), (5, 9, 2), (6, 22, 0), (0, 9, 5), (6, 29, 4), (6, 36, 3), (6, 43, 1), (6, 50, 2), (8, 10, 7)]
theorem cf_8_7 : 6 < 8 ∧ Cond.classLink (cN 8) 7 (cN 6) ∈ lw_good := ⟨by decide, mgd 159 (by decide +kernel) rfl⟩
theorem cf_6_7 : 5 < 8 ∧ Cond.classLink (cN 6) 7 (cN 5) ∈ lw_good := ⟨by decide, mgd 167 (by decide +kernel) rfl⟩
theorem cf_5_9 : 2 < 8 ∧ Cond.classLink (cN 5) 9 (cN 2) ∈ lw_good := ⟨by decide, mgd 173 (by decide +kernel) rfl⟩
theorem cf_6_22 : 0 < 8 ∧ Cond.classLink (cN 6) 22 (cN 0) ∈ lw_good := ⟨by decide, mgd 227 (by decide +kernel) rfl⟩
theorem cf_0_9 : 5 < 8 ∧ Cond.classLink (cN 0) 9 (cN 5) ∈ lw_good := ⟨by decide, mgd 233 (by decide +kernel) rfl⟩
theorem cf_6_29 : 4 < 8 ∧ Cond.classLink (cN 6) 29 (cN 4) ∈ lw_good := ⟨by decide, mgd 251 (by decide +kernel) rfl⟩
theorem cf_6_36 : 3 < 8 ∧ Cond.classLink (cN 6) 36 (cN 3) ∈ lw_good := ⟨by decide, mgd 288 (by decide +kernel) rfl⟩
theorem cf_6_43 : 1 < 8 ∧ Cond.classLink (cN 6) 43 (cN 1) ∈ lw_good := ⟨by decide, mgd 307 (by decide +kernel) rfl⟩
theorem cf_6_50 : 2 < 8 ∧ Cond.classLink (cN 6) 50 (cN 2) ∈ lw_good := ⟨by decide, mgd 327 (by decide +kernel) rfl⟩
theorem cf_8_10 : 7 < 8 ∧ Cond.classLink (cN 8) 10 (cN 7) ∈ lw_good := ⟨by decide, mgd 877 (by decide +kernel) rfl⟩
theorem mclsL_ok : ∀ q ∈ mclsL, q.2.2 < 8 ∧ Cond.classLink (cN q.1) q.2.1 (cN q.2.2) ∈ lw_good := List.forall_mem_cons.mpr ⟨cf_8_7, List.forall_mem_cons.mpr ⟨cf_6_7, List.forall_mem_cons.mpr ⟨cf_5_9, List.forall_mem_cons.mpr ⟨cf_6_22, List.forall_mem_cons.mpr ⟨cf_0_9, List.forall_mem_cons.mpr ⟨cf_6_29, List.forall_mem_cons.mpr ⟨cf_6_36, List.forall_mem_cons.mpr ⟨cf_6_43, List.forall_mem_cons.mpr ⟨cf_6_50, List.forall_mem_cons.mpr ⟨cf_8_10, fun _ h => absurd h List.not_mem_nil⟩⟩⟩⟩⟩⟩⟩⟩⟩⟩
def mcls (o i : Nat) : Option Nat := (mclsL.find? (fun q => q.1 == o && q.2.1 == i)).map (fun q => q.2.2)
theorem mcls_ok {o i ci : Nat} (h : mcls o i = some ci) : ci < 8 ∧ Cond.classLink (cN o) i (cN ci) ∈ lw_good := by
  unfold mcls at h
  cases hf : mclsL.find? (fun q => q.1 == o && q.2.1 == i) with
  | none => rw [hf] at h; cases h
  | some q =>
    rw [hf] at h
    have h1 := List.find?_some hf
    have h2 := mclsL_ok q (List.mem_of_find?_eq_some hf)
    obtain ⟨o', i', c'⟩ := q
    simp only [Option.map_some, Option.some.injEq] at h
    simp only [Bool.and_eq_true, beq_iff_eq] at h1
    obtain ⟨rfl, rfl⟩ := h1
    subst h
    exact h2
def mtT : Type := MethodName × ByteArray × Nat × Option FieldType × Nat × Nat × Nat × Nat
def mfact (q : MethodName × ByteArray × Nat × Option FieldType × Nat × Nat × Nat × Nat) : Prop := match q with
  | (y, cc, nL, ret, n, o, _, _) => plainFor y = true ∧ Cond.code y cc nL ret ∈ lw_good ∧ Cond.initialized y.cls ∈ lw_good ∧ y.cls = cN o ∧ nL ≤ 20 ∧ (parseMethodDescriptor y.desc).map (fun d => d.parameters.length) = some n ∧ y.cls ≠ "java/lang/invoke/MethodHandle" ∧ y.cls ≠ "java/lang/invoke/VarHandle"
def mt_0 : List (MethodName × ByteArray × Nat × Option FieldType × Nat × Nat × Nat × Nat) := [(yX6_init, cX6_init, 1, none, 0, 6, 300, 2149),
  (yX5_init, cX5_init, 2, none, 0, 5, 25, 176),
  (yX2_init, cX2_init, 1, none, 0, 2, 2, 16),
  (yX0_init, cX0_init, 2, none, 0, 0, 209, 1448),
  (yX4_init, cX4_init, 1, none, 0, 4, 1, 80),
  (yX3_init, cX3_init, 1, none, 0, 3, 2, 16),
  (yX1_init, cX1_init, 1, none, 0, 1, 3, 24),
  (yX6_stage, cX6_stage, 4, (some FieldType.int), 1, 6, 0, 0),
  (yX5_occupied, cX5_occupied, 4, (some FieldType.int), 0, 5, 0, 0),
  (yX5_pieceAt, cX5_pieceAt, 2, (some (FieldType.object "FoldedTheatre$Piece")), 1, 5, 0, 0),
  (yX2_width, cX2_width, 4, (some FieldType.int), 0, 2, 0, 0),
  (yX2_greatestSize, cX2_greatestSize, 3, (some FieldType.int), 0, 2, 0, 0),
  (yX6_at, cX6_at, 2, (some FieldType.int), 2, 6, 0, 0),
  (yX2_placeOf, cX2_placeOf, 4, (some FieldType.int), 1, 2, 0, 0),
  (yX6_refuse, cX6_refuse, 3, (some FieldType.int), 2, 6, 0, 0),
  (yX0_push, cX0_push, 3, none, 1, 0, 0, 0),
  (yX0_stateAt, cX0_stateAt, 2, (some (FieldType.object "FoldedTheatre$State")), 1, 0, 0, 0),
  (yX5_copyFrom, cX5_copyFrom, 5, none, 1, 5, 0, 0),
  (yX2_copyFrom, cX2_copyFrom, 2, none, 1, 2, 0, 0),
  (yX6_copyRow, cX6_copyRow, 3, none, 2, 6, 0, 0),
  (yX6_add, cX6_add, 4, (some FieldType.int), 3, 6, 0, 0),
  (yX2_takeSizes, cX2_takeSizes, 5, (some FieldType.boolean), 2, 2, 0, 0),
  (yX6_put, cX6_put, 3, none, 3, 6, 0, 0),
  (yX2_sum, cX2_sum, 3, (some FieldType.int), 0, 2, 0, 0),
  (yX2_takeCreases, cX2_takeCreases, 5, (some FieldType.boolean), 1, 2, 0, 0),
  (yX2_creaseCount, cX2_creaseCount, 1, (some FieldType.int), 0, 2, 0, 0),
  (yX6_isCreaseKind, cX6_isCreaseKind, 1, (some FieldType.boolean), 1, 6, 0, 0),
  (yX5_addCopyOf, cX5_addCopyOf, 3, none, 1, 5, 0, 0),
  (yX6_mark, cX6_mark, 6, (some FieldType.int), 3, 6, 0, 0),
  (yX2_hasCrease, cX2_hasCrease, 2, (some FieldType.boolean), 1, 2, 0, 0)]
theorem mf_0 : mfact (yX6_init, cX6_init, 1, none, 0, 6, 300, 2149) := ⟨by decide +kernel, mgd 163 (by decide +kernel) (by decide +kernel), mgd 149 (by decide +kernel) rfl, rfl, by decide, by decide +kernel, by decide +kernel, by decide +kernel⟩
theorem mf_1 : mfact (yX5_init, cX5_init, 2, none, 0, 5, 25, 176) := ⟨by decide +kernel, mgd 171 (by decide +kernel) (by decide +kernel), mgd 150 (by decide +kernel) rfl, rfl, by decide, by decide +kernel, by decide +kernel, by decide +kernel⟩
theorem mf_2 : mfact (yX2_init, cX2_init, 1, none, 0, 2, 2, 16) := ⟨by decide +kernel, mgd 178 (by decide +kernel) (by decide +kernel), mgd 151 (by decide +kernel) rfl, rfl, by decide, by decide +kernel, by decide +kernel, by decide +kernel⟩
theorem mf_3 : mfact (yX0_init, cX0_init, 2, none, 0, 0, 209, 1448) := ⟨by decide +kernel, mgd 231 (by decide +kernel) (by decide +kernel), mgd 152 (by decide +kernel) rfl, rfl, by decide, by decide +kernel, by decide +kernel, by decide +kernel⟩
theorem mf_4 : mfact (yX4_init, cX4_init, 1, none, 0, 4, 1, 80) := ⟨by decide +kernel, mgd 255 (by decide +kernel) (by decide +kernel), mgd 153 (by decide +kernel) rfl, rfl, by decide, by decide +kernel, by decide +kernel, by decide +kernel⟩
theorem mf_5 : mfact (yX3_init, cX3_init, 1, none, 0, 3, 2, 16) := ⟨by decide +kernel, mgd 292 (by decide +kernel) (by decide +kernel), mgd 154 (by decide +kernel) rfl, rfl, by decide, by decide +kernel, by decide +kernel, by decide +kernel⟩
theorem mf_6 : mfact (yX1_init, cX1_init, 1, none, 0, 1, 3, 24) := ⟨by decide +kernel, mgd 311 (by decide +kernel) (by decide +kernel), mgd 155 (by decide +kernel) rfl, rfl, by decide, by decide +kernel, by decide +kernel, by decide +kernel⟩
theorem mf_7 : mfact (yX6_stage, cX6_stage, 4, (some FieldType.int), 1, 6, 0, 0) := ⟨by decide +kernel, mgd 372 (by decide +kernel) (by decide +kernel), mgd 149 (by decide +kernel) rfl, rfl, by decide, by decide +kernel, by decide +kernel, by decide +kernel⟩
theorem mf_8 : mfact (yX5_occupied, cX5_occupied, 4, (some FieldType.int), 0, 5, 0, 0) := ⟨by decide +kernel, mgd 376 (by decide +kernel) (by decide +kernel), mgd 150 (by decide +kernel) rfl, rfl, by decide, by decide +kernel, by decide +kernel, by decide +kernel⟩
theorem mf_9 : mfact (yX5_pieceAt, cX5_pieceAt, 2, (some (FieldType.object "FoldedTheatre$Piece")), 1, 5, 0, 0) := ⟨by decide +kernel, mgd 380 (by decide +kernel) (by decide +kernel), mgd 150 (by decide +kernel) rfl, rfl, by decide, by decide +kernel, by decide +kernel, by decide +kernel⟩
theorem mf_10 : mfact (yX2_width, cX2_width, 4, (some FieldType.int), 0, 2, 0, 0) := ⟨by decide +kernel, mgd 384 (by decide +kernel) (by decide +kernel), mgd 151 (by decide +kernel) rfl, rfl, by decide, by decide +kernel, by decide +kernel, by decide +kernel⟩
theorem mf_11 : mfact (yX2_greatestSize, cX2_greatestSize, 3, (some FieldType.int), 0, 2, 0, 0) := ⟨by decide +kernel, mgd 388 (by decide +kernel) (by decide +kernel), mgd 151 (by decide +kernel) rfl, rfl, by decide, by decide +kernel, by decide +kernel, by decide +kernel⟩
theorem mf_12 : mfact (yX6_at, cX6_at, 2, (some FieldType.int), 2, 6, 0, 0) := ⟨by decide +kernel, mgd 391 (by decide +kernel) (by decide +kernel), mgd 149 (by decide +kernel) rfl, rfl, by decide, by decide +kernel, by decide +kernel, by decide +kernel⟩
theorem mf_13 : mfact (yX2_placeOf, cX2_placeOf, 4, (some FieldType.int), 1, 2, 0, 0) := ⟨by decide +kernel, mgd 398 (by decide +kernel) (by decide +kernel), mgd 151 (by decide +kernel) rfl, rfl, by decide, by decide +kernel, by decide +kernel, by decide +kernel⟩
theorem mf_14 : mfact (yX6_refuse, cX6_refuse, 3, (some FieldType.int), 2, 6, 0, 0) := ⟨by decide +kernel, mgd 405 (by decide +kernel) (by decide +kernel), mgd 149 (by decide +kernel) rfl, rfl, by decide, by decide +kernel, by decide +kernel, by decide +kernel⟩
theorem mf_15 : mfact (yX0_push, cX0_push, 3, none, 1, 0, 0, 0) := ⟨by decide +kernel, mgd 409 (by decide +kernel) (by decide +kernel), mgd 152 (by decide +kernel) rfl, rfl, by decide, by decide +kernel, by decide +kernel, by decide +kernel⟩
theorem mf_16 : mfact (yX0_stateAt, cX0_stateAt, 2, (some (FieldType.object "FoldedTheatre$State")), 1, 0, 0, 0) := ⟨by decide +kernel, mgd 413 (by decide +kernel) (by decide +kernel), mgd 152 (by decide +kernel) rfl, rfl, by decide, by decide +kernel, by decide +kernel, by decide +kernel⟩
theorem mf_17 : mfact (yX5_copyFrom, cX5_copyFrom, 5, none, 1, 5, 0, 0) := ⟨by decide +kernel, mgd 417 (by decide +kernel) (by decide +kernel), mgd 150 (by decide +kernel) rfl, rfl, by decide, by decide +kernel, by decide +kernel, by decide +kernel⟩
theorem mf_18 : mfact (yX2_copyFrom, cX2_copyFrom, 2, none, 1, 2, 0, 0) := ⟨by decide +kernel, mgd 421 (by decide +kernel) (by decide +kernel), mgd 151 (by decide +kernel) rfl, rfl, by decide, by decide +kernel, by decide +kernel, by decide +kernel⟩
theorem mf_19 : mfact (yX6_copyRow, cX6_copyRow, 3, none, 2, 6, 0, 0) := ⟨by decide +kernel, mgd 424 (by decide +kernel) (by decide +kernel), mgd 149 (by decide +kernel) rfl, rfl, by decide, by decide +kernel, by decide +kernel, by decide +kernel⟩
theorem mf_20 : mfact (yX6_add, cX6_add, 4, (some FieldType.int), 3, 6, 0, 0) := ⟨by decide +kernel, mgd 429 (by decide +kernel) (by decide +kernel), mgd 149 (by decide +kernel) rfl, rfl, by decide, by decide +kernel, by decide +kernel, by decide +kernel⟩
theorem mf_21 : mfact (yX2_takeSizes, cX2_takeSizes, 5, (some FieldType.boolean), 2, 2, 0, 0) := ⟨by decide +kernel, mgd 433 (by decide +kernel) (by decide +kernel), mgd 151 (by decide +kernel) rfl, rfl, by decide, by decide +kernel, by decide +kernel, by decide +kernel⟩
theorem mf_22 : mfact (yX6_put, cX6_put, 3, none, 3, 6, 0, 0) := ⟨by decide +kernel, mgd 436 (by decide +kernel) (by decide +kernel), mgd 149 (by decide +kernel) rfl, rfl, by decide, by decide +kernel, by decide +kernel, by decide +kernel⟩
theorem mf_23 : mfact (yX2_sum, cX2_sum, 3, (some FieldType.int), 0, 2, 0, 0) := ⟨by decide +kernel, mgd 440 (by decide +kernel) (by decide +kernel), mgd 151 (by decide +kernel) rfl, rfl, by decide, by decide +kernel, by decide +kernel, by decide +kernel⟩
theorem mf_24 : mfact (yX2_takeCreases, cX2_takeCreases, 5, (some FieldType.boolean), 1, 2, 0, 0) := ⟨by decide +kernel, mgd 444 (by decide +kernel) (by decide +kernel), mgd 151 (by decide +kernel) rfl, rfl, by decide, by decide +kernel, by decide +kernel, by decide +kernel⟩
theorem mf_25 : mfact (yX2_creaseCount, cX2_creaseCount, 1, (some FieldType.int), 0, 2, 0, 0) := ⟨by decide +kernel, mgd 448 (by decide +kernel) (by decide +kernel), mgd 151 (by decide +kernel) rfl, rfl, by decide, by decide +kernel, by decide +kernel, by decide +kernel⟩
theorem mf_26 : mfact (yX6_isCreaseKind, cX6_isCreaseKind, 1, (some FieldType.boolean), 1, 6, 0, 0) := ⟨by decide +kernel, mgd 451 (by decide +kernel) (by decide +kernel), mgd 149 (by decide +kernel) rfl, rfl, by decide, by decide +kernel, by decide +kernel, by decide +kernel⟩
theorem mf_27 : mfact (yX5_addCopyOf, cX5_addCopyOf, 3, none, 1, 5, 0, 0) := ⟨by decide +kernel, mgd 455 (by decide +kernel) (by decide +kernel), mgd 150 (by decide +kernel) rfl, rfl, by decide, by decide +kernel, by decide +kernel, by decide +kernel⟩
theorem mf_28 : mfact (yX6_mark, cX6_mark, 6, (some FieldType.int), 3, 6, 0, 0) := ⟨by decide +kernel, mgd 459 (by decide +kernel) (by decide +kernel), mgd 149 (by decide +kernel) rfl, rfl, by decide, by decide +kernel, by decide +kernel, by decide +kernel⟩
theorem mf_29 : mfact (yX2_hasCrease, cX2_hasCrease, 2, (some FieldType.boolean), 1, 2, 0, 0) := ⟨by decide +kernel, mgd 464 (by decide +kernel) (by decide +kernel), mgd 151 (by decide +kernel) rfl, rfl, by decide, by decide +kernel, by decide +kernel, by decide +kernel⟩
theorem mt_0_ok : ∀ q ∈ mt_0, mfact q := List.forall_mem_cons.mpr ⟨mf_0, List.forall_mem_cons.mpr ⟨mf_1, List.forall_mem_cons.mpr ⟨mf_2, List.forall_mem_cons.mpr ⟨mf_3, List.forall_mem_cons.mpr ⟨mf_4, List.forall_mem_cons.mpr ⟨mf_5, List.forall_mem_cons.mpr ⟨mf_6, List.forall_mem_cons.mpr ⟨mf_7, List.forall_mem_cons.mpr ⟨mf_8, List.forall_mem_cons.mpr ⟨mf_9, List.forall_mem_cons.mpr ⟨mf_10, List.forall_mem_cons.mpr ⟨mf_11, List.forall_mem_cons.mpr ⟨mf_12, List.forall_mem_cons.mpr ⟨mf_13, List.forall_mem_cons.mpr ⟨mf_14, List.forall_mem_cons.mpr ⟨mf_15, List.forall_mem_cons.mpr ⟨mf_16, List.forall_mem_cons.mpr ⟨mf_17, List.forall_mem_cons.mpr ⟨mf_18, List.forall_mem_cons.mpr ⟨mf_19, List.forall_mem_cons.mpr ⟨mf_20, List.forall_mem_cons.mpr ⟨mf_21, List.forall_mem_cons.mpr ⟨mf_22, List.forall_mem_cons.mpr ⟨mf_23, List.forall_mem_cons.mpr ⟨mf_24, List.forall_mem_cons.mpr ⟨mf_25, List.forall_mem_cons.mpr ⟨mf_26, List.forall_mem_cons.mpr ⟨mf_27, List.forall_mem_cons.mpr ⟨mf_28, List.forall_mem_cons.mpr ⟨mf_29, fun _ h => absurd h List.not_mem_nil⟩⟩⟩⟩⟩⟩⟩⟩⟩⟩⟩⟩⟩⟩⟩⟩⟩⟩⟩⟩⟩⟩⟩⟩⟩⟩⟩⟩⟩⟩
def mt_1 : List (MethodName × ByteArray × Nat × Option FieldType × Nat × Nat × Nat × Nat) := [(yX6_turn, cX6_turn, 3, (some FieldType.int), 1, 6, 0, 0),
  (yX2_turnOver, cX2_turnOver, 3, none, 0, 2, 0, 0),
  (yX2_countOf, cX2_countOf, 4, (some FieldType.int), 1, 2, 0, 0),
  (yX6_rotate, cX6_rotate, 4, (some FieldType.int), 2, 6, 0, 0),
  (yX2_becomeRotated, cX2_becomeRotated, 5, none, 2, 2, 0, 0),
  (yX2_sizesAsNumber, cX2_sizesAsNumber, 3, (some FieldType.int), 0, 2, 0, 0),
  (yX6_join, cX6_join, 7, (some FieldType.int), 3, 6, 0, 0),
  (yX2_lengthenBy, cX2_lengthenBy, 4, none, 2, 2, 0, 0),
  (yX5_removeAt, cX5_removeAt, 5, none, 1, 5, 0, 0),
  (yX6_cut, cX6_cut, 6, (some FieldType.int), 2, 6, 0, 0),
  (yX2_becomeEndOf, cX2_becomeEndOf, 4, none, 2, 2, 0, 0),
  (yX6_fold, cX6_fold, 6, (some FieldType.int), 1, 6, 0, 0),
  (yX2_isUndecided, cX2_isUndecided, 1, (some FieldType.boolean), 0, 2, 0, 0),
  (yX2_lowestUndecided, cX2_lowestUndecided, 3, (some FieldType.int), 0, 2, 0, 0),
  (yX3_whatStandsInTheWay, cX3_whatStandsInTheWay, 2, (some FieldType.int), 1, 3, 0, 0),
  (yX3_load, cX3_load, 3, none, 1, 3, 0, 0),
  (yX3_putCrease, cX3_putCrease, 3, none, 2, 3, 0, 0),
  (yX3_evenAngles, cX3_evenAngles, 3, (some FieldType.int), 0, 3, 0, 0),
  (yX3_hasSmallAngleOfOneKind, cX3_hasSmallAngleOfOneKind, 4, (some FieldType.boolean), 0, 3, 0, 0),
  (yX3_before, cX3_before, 2, (some FieldType.int), 1, 3, 0, 0),
  (yX3_after, cX3_after, 2, (some FieldType.int), 1, 3, 0, 0),
  (yX3_reduce, cX3_reduce, 3, (some FieldType.int), 0, 3, 0, 0),
  (yX3_firstStep, cX3_firstStep, 5, (some FieldType.int), 0, 3, 0, 0),
  (yX3_make, cX3_make, 5, none, 1, 3, 0, 0),
  (yX6_takeOut, cX6_takeOut, 3, none, 2, 6, 0, 0),
  (yX3_isReduced, cX3_isReduced, 1, (some FieldType.boolean), 0, 3, 0, 0),
  (yX6_unfold, cX6_unfold, 3, (some FieldType.int), 1, 6, 0, 0),
  (yX6_drop, cX6_drop, 2, (some FieldType.int), 1, 6, 0, 0),
  (yX6_piece, cX6_piece, 4, (some FieldType.int), 2, 6, 0, 0),
  (yX6_size, cX6_size, 4, (some FieldType.int), 2, 6, 0, 0)]
theorem mf_30 : mfact (yX6_turn, cX6_turn, 3, (some FieldType.int), 1, 6, 0, 0) := ⟨by decide +kernel, mgd 471 (by decide +kernel) (by decide +kernel), mgd 149 (by decide +kernel) rfl, rfl, by decide, by decide +kernel, by decide +kernel, by decide +kernel⟩
theorem mf_31 : mfact (yX2_turnOver, cX2_turnOver, 3, none, 0, 2, 0, 0) := ⟨by decide +kernel, mgd 475 (by decide +kernel) (by decide +kernel), mgd 151 (by decide +kernel) rfl, rfl, by decide, by decide +kernel, by decide +kernel, by decide +kernel⟩
theorem mf_32 : mfact (yX2_countOf, cX2_countOf, 4, (some FieldType.int), 1, 2, 0, 0) := ⟨by decide +kernel, mgd 480 (by decide +kernel) (by decide +kernel), mgd 151 (by decide +kernel) rfl, rfl, by decide, by decide +kernel, by decide +kernel, by decide +kernel⟩
theorem mf_33 : mfact (yX6_rotate, cX6_rotate, 4, (some FieldType.int), 2, 6, 0, 0) := ⟨by decide +kernel, mgd 484 (by decide +kernel) (by decide +kernel), mgd 149 (by decide +kernel) rfl, rfl, by decide, by decide +kernel, by decide +kernel, by decide +kernel⟩
theorem mf_34 : mfact (yX2_becomeRotated, cX2_becomeRotated, 5, none, 2, 2, 0, 0) := ⟨by decide +kernel, mgd 489 (by decide +kernel) (by decide +kernel), mgd 151 (by decide +kernel) rfl, rfl, by decide, by decide +kernel, by decide +kernel, by decide +kernel⟩
theorem mf_35 : mfact (yX2_sizesAsNumber, cX2_sizesAsNumber, 3, (some FieldType.int), 0, 2, 0, 0) := ⟨by decide +kernel, mgd 493 (by decide +kernel) (by decide +kernel), mgd 151 (by decide +kernel) rfl, rfl, by decide, by decide +kernel, by decide +kernel, by decide +kernel⟩
theorem mf_36 : mfact (yX6_join, cX6_join, 7, (some FieldType.int), 3, 6, 0, 0) := ⟨by decide +kernel, mgd 497 (by decide +kernel) (by decide +kernel), mgd 149 (by decide +kernel) rfl, rfl, by decide, by decide +kernel, by decide +kernel, by decide +kernel⟩
theorem mf_37 : mfact (yX2_lengthenBy, cX2_lengthenBy, 4, none, 2, 2, 0, 0) := ⟨by decide +kernel, mgd 501 (by decide +kernel) (by decide +kernel), mgd 151 (by decide +kernel) rfl, rfl, by decide, by decide +kernel, by decide +kernel, by decide +kernel⟩
theorem mf_38 : mfact (yX5_removeAt, cX5_removeAt, 5, none, 1, 5, 0, 0) := ⟨by decide +kernel, mgd 505 (by decide +kernel) (by decide +kernel), mgd 150 (by decide +kernel) rfl, rfl, by decide, by decide +kernel, by decide +kernel, by decide +kernel⟩
theorem mf_39 : mfact (yX6_cut, cX6_cut, 6, (some FieldType.int), 2, 6, 0, 0) := ⟨by decide +kernel, mgd 509 (by decide +kernel) (by decide +kernel), mgd 149 (by decide +kernel) rfl, rfl, by decide, by decide +kernel, by decide +kernel, by decide +kernel⟩
theorem mf_40 : mfact (yX2_becomeEndOf, cX2_becomeEndOf, 4, none, 2, 2, 0, 0) := ⟨by decide +kernel, mgd 514 (by decide +kernel) (by decide +kernel), mgd 151 (by decide +kernel) rfl, rfl, by decide, by decide +kernel, by decide +kernel, by decide +kernel⟩
theorem mf_41 : mfact (yX6_fold, cX6_fold, 6, (some FieldType.int), 1, 6, 0, 0) := ⟨by decide +kernel, mgd 518 (by decide +kernel) (by decide +kernel), mgd 149 (by decide +kernel) rfl, rfl, by decide, by decide +kernel, by decide +kernel, by decide +kernel⟩
theorem mf_42 : mfact (yX2_isUndecided, cX2_isUndecided, 1, (some FieldType.boolean), 0, 2, 0, 0) := ⟨by decide +kernel, mgd 522 (by decide +kernel) (by decide +kernel), mgd 151 (by decide +kernel) rfl, rfl, by decide, by decide +kernel, by decide +kernel, by decide +kernel⟩
theorem mf_43 : mfact (yX2_lowestUndecided, cX2_lowestUndecided, 3, (some FieldType.int), 0, 2, 0, 0) := ⟨by decide +kernel, mgd 527 (by decide +kernel) (by decide +kernel), mgd 151 (by decide +kernel) rfl, rfl, by decide, by decide +kernel, by decide +kernel, by decide +kernel⟩
theorem mf_44 : mfact (yX3_whatStandsInTheWay, cX3_whatStandsInTheWay, 2, (some FieldType.int), 1, 3, 0, 0) := ⟨by decide +kernel, mgd 531 (by decide +kernel) (by decide +kernel), mgd 154 (by decide +kernel) rfl, rfl, by decide, by decide +kernel, by decide +kernel, by decide +kernel⟩
theorem mf_45 : mfact (yX3_load, cX3_load, 3, none, 1, 3, 0, 0) := ⟨by decide +kernel, mgd 536 (by decide +kernel) (by decide +kernel), mgd 154 (by decide +kernel) rfl, rfl, by decide, by decide +kernel, by decide +kernel, by decide +kernel⟩
theorem mf_46 : mfact (yX3_putCrease, cX3_putCrease, 3, none, 2, 3, 0, 0) := ⟨by decide +kernel, mgd 543 (by decide +kernel) (by decide +kernel), mgd 154 (by decide +kernel) rfl, rfl, by decide, by decide +kernel, by decide +kernel, by decide +kernel⟩
theorem mf_47 : mfact (yX3_evenAngles, cX3_evenAngles, 3, (some FieldType.int), 0, 3, 0, 0) := ⟨by decide +kernel, mgd 548 (by decide +kernel) (by decide +kernel), mgd 154 (by decide +kernel) rfl, rfl, by decide, by decide +kernel, by decide +kernel, by decide +kernel⟩
theorem mf_48 : mfact (yX3_hasSmallAngleOfOneKind, cX3_hasSmallAngleOfOneKind, 4, (some FieldType.boolean), 0, 3, 0, 0) := ⟨by decide +kernel, mgd 556 (by decide +kernel) (by decide +kernel), mgd 154 (by decide +kernel) rfl, rfl, by decide, by decide +kernel, by decide +kernel, by decide +kernel⟩
theorem mf_49 : mfact (yX3_before, cX3_before, 2, (some FieldType.int), 1, 3, 0, 0) := ⟨by decide +kernel, mgd 560 (by decide +kernel) (by decide +kernel), mgd 154 (by decide +kernel) rfl, rfl, by decide, by decide +kernel, by decide +kernel, by decide +kernel⟩
theorem mf_50 : mfact (yX3_after, cX3_after, 2, (some FieldType.int), 1, 3, 0, 0) := ⟨by decide +kernel, mgd 564 (by decide +kernel) (by decide +kernel), mgd 154 (by decide +kernel) rfl, rfl, by decide, by decide +kernel, by decide +kernel, by decide +kernel⟩
theorem mf_51 : mfact (yX3_reduce, cX3_reduce, 3, (some FieldType.int), 0, 3, 0, 0) := ⟨by decide +kernel, mgd 568 (by decide +kernel) (by decide +kernel), mgd 154 (by decide +kernel) rfl, rfl, by decide, by decide +kernel, by decide +kernel, by decide +kernel⟩
theorem mf_52 : mfact (yX3_firstStep, cX3_firstStep, 5, (some FieldType.int), 0, 3, 0, 0) := ⟨by decide +kernel, mgd 572 (by decide +kernel) (by decide +kernel), mgd 154 (by decide +kernel) rfl, rfl, by decide, by decide +kernel, by decide +kernel, by decide +kernel⟩
theorem mf_53 : mfact (yX3_make, cX3_make, 5, none, 1, 3, 0, 0) := ⟨by decide +kernel, mgd 576 (by decide +kernel) (by decide +kernel), mgd 154 (by decide +kernel) rfl, rfl, by decide, by decide +kernel, by decide +kernel, by decide +kernel⟩
theorem mf_54 : mfact (yX6_takeOut, cX6_takeOut, 3, none, 2, 6, 0, 0) := ⟨by decide +kernel, mgd 579 (by decide +kernel) (by decide +kernel), mgd 149 (by decide +kernel) rfl, rfl, by decide, by decide +kernel, by decide +kernel, by decide +kernel⟩
theorem mf_55 : mfact (yX3_isReduced, cX3_isReduced, 1, (some FieldType.boolean), 0, 3, 0, 0) := ⟨by decide +kernel, mgd 585 (by decide +kernel) (by decide +kernel), mgd 154 (by decide +kernel) rfl, rfl, by decide, by decide +kernel, by decide +kernel, by decide +kernel⟩
theorem mf_56 : mfact (yX6_unfold, cX6_unfold, 3, (some FieldType.int), 1, 6, 0, 0) := ⟨by decide +kernel, mgd 590 (by decide +kernel) (by decide +kernel), mgd 149 (by decide +kernel) rfl, rfl, by decide, by decide +kernel, by decide +kernel, by decide +kernel⟩
theorem mf_57 : mfact (yX6_drop, cX6_drop, 2, (some FieldType.int), 1, 6, 0, 0) := ⟨by decide +kernel, mgd 594 (by decide +kernel) (by decide +kernel), mgd 149 (by decide +kernel) rfl, rfl, by decide, by decide +kernel, by decide +kernel, by decide +kernel⟩
theorem mf_58 : mfact (yX6_piece, cX6_piece, 4, (some FieldType.int), 2, 6, 0, 0) := ⟨by decide +kernel, mgd 598 (by decide +kernel) (by decide +kernel), mgd 149 (by decide +kernel) rfl, rfl, by decide, by decide +kernel, by decide +kernel, by decide +kernel⟩
theorem mf_59 : mfact (yX6_size, cX6_size, 4, (some FieldType.int), 2, 6, 0, 0) := ⟨by decide +kernel, mgd 603 (by decide +kernel) (by decide +kernel), mgd 149 (by decide +kernel) rfl, rfl, by decide, by decide +kernel, by decide +kernel, by decide +kernel⟩
theorem mt_1_ok : ∀ q ∈ mt_1, mfact q := List.forall_mem_cons.mpr ⟨mf_30, List.forall_mem_cons.mpr ⟨mf_31, List.forall_mem_cons.mpr ⟨mf_32, List.forall_mem_cons.mpr ⟨mf_33, List.forall_mem_cons.mpr ⟨mf_34, List.forall_mem_cons.mpr ⟨mf_35, List.forall_mem_cons.mpr ⟨mf_36, List.forall_mem_cons.mpr ⟨mf_37, List.forall_mem_cons.mpr ⟨mf_38, List.forall_mem_cons.mpr ⟨mf_39, List.forall_mem_cons.mpr ⟨mf_40, List.forall_mem_cons.mpr ⟨mf_41, List.forall_mem_cons.mpr ⟨mf_42, List.forall_mem_cons.mpr ⟨mf_43, List.forall_mem_cons.mpr ⟨mf_44, List.forall_mem_cons.mpr ⟨mf_45, List.forall_mem_cons.mpr ⟨mf_46, List.forall_mem_cons.mpr ⟨mf_47, List.forall_mem_cons.mpr ⟨mf_48, List.forall_mem_cons.mpr ⟨mf_49, List.forall_mem_cons.mpr ⟨mf_50, List.forall_mem_cons.mpr ⟨mf_51, List.forall_mem_cons.mpr ⟨mf_52, List.forall_mem_cons.mpr ⟨mf_53, List.forall_mem_cons.mpr ⟨mf_54, List.forall_mem_cons.mpr ⟨mf_55, List.forall_mem_cons.mpr ⟨mf_56, List.forall_mem_cons.mpr ⟨mf_57, List.forall_mem_cons.mpr ⟨mf_58, List.forall_mem_cons.mpr ⟨mf_59, fun _ h => absurd h List.not_mem_nil⟩⟩⟩⟩⟩⟩⟩⟩⟩⟩⟩⟩⟩⟩⟩⟩⟩⟩⟩⟩⟩⟩⟩⟩⟩⟩⟩⟩⟩⟩
def mt_2 : List (MethodName × ByteArray × Nat × Option FieldType × Nat × Nat × Nat × Nat) := [(yX6_crease, cX6_crease, 4, (some FieldType.int), 2, 6, 0, 0),
  (yX6_why, cX6_why, 3, (some FieldType.int), 1, 6, 0, 0),
  (yX6_foldsAgain, cX6_foldsAgain, 4, (some FieldType.int), 1, 6, 0, 0),
  (yX6_errorOfDecidedStrip, cX6_errorOfDecidedStrip, 1, (some FieldType.int), 1, 6, 0, 0),
  (yX1_search, cX1_search, 7, (some FieldType.int), 2, 1, 0, 0),
  (yX1_load, cX1_load, 3, none, 1, 1, 0, 0),
  (yX1_nextLayer, cX1_nextLayer, 3, (some FieldType.int), 1, 1, 0, 0),
  (yX1_isFree, cX1_isFree, 4, (some FieldType.boolean), 2, 1, 0, 0),
  (yX1_isAsCreased, cX1_isAsCreased, 6, (some FieldType.boolean), 2, 1, 0, 0),
  (yX1_layersCollide, cX1_layersCollide, 2, (some FieldType.boolean), 0, 1, 0, 0),
  (yX1_isPierced, cX1_isPierced, 6, (some FieldType.boolean), 1, 1, 0, 0),
  (yX1_isBetween, cX1_isBetween, 6, (some FieldType.boolean), 2, 1, 0, 0),
  (yX1_isCrossed, cX1_isCrossed, 4, (some FieldType.boolean), 1, 1, 0, 0),
  (yX6_step, cX6_step, 4, (some FieldType.int), 1, 6, 0, 0),
  (yX6_steps, cX6_steps, 3, (some FieldType.int), 1, 6, 0, 0),
  (yX6_ways, cX6_ways, 3, (some FieldType.int), 1, 6, 0, 0),
  (yX3_countWays, cX3_countWays, 4, (some FieldType.int), 1, 3, 0, 0),
  (yX3_changesTo, cX3_changesTo, 5, (some FieldType.int), 2, 3, 0, 0),
  (yX3_kindIn, cX3_kindIn, 2, (some FieldType.int), 2, 3, 0, 0),
  (yX3_foldsWith, cX3_foldsWith, 4, (some FieldType.boolean), 2, 3, 0, 0),
  (yX6_fewest, cX6_fewest, 3, (some FieldType.int), 1, 6, 0, 0),
  (yX3_fewestChanges, cX3_fewestChanges, 5, (some FieldType.int), 1, 3, 0, 0),
  (yX6_place, cX6_place, 4, (some FieldType.int), 2, 6, 0, 0),
  (yX6_layer, cX6_layer, 5, (some FieldType.int), 2, 6, 0, 0),
  (yX6_orders, cX6_orders, 4, (some FieldType.int), 1, 6, 0, 0),
  (yX6_thickest, cX6_thickest, 3, (some FieldType.int), 1, 6, 0, 0),
  (yX2_thickness, cX2_thickness, 3, (some FieldType.int), 0, 2, 0, 0),
  (yX2_leftEndOf, cX2_leftEndOf, 2, (some FieldType.int), 1, 2, 0, 0),
  (yX2_panelsBehind, cX2_panelsBehind, 4, (some FieldType.int), 1, 2, 0, 0),
  (yX2_rightEndOf, cX2_rightEndOf, 2, (some FieldType.int), 1, 2, 0, 0)]
theorem mf_60 : mfact (yX6_crease, cX6_crease, 4, (some FieldType.int), 2, 6, 0, 0) := ⟨by decide +kernel, mgd 607 (by decide +kernel) (by decide +kernel), mgd 149 (by decide +kernel) rfl, rfl, by decide, by decide +kernel, by decide +kernel, by decide +kernel⟩
theorem mf_61 : mfact (yX6_why, cX6_why, 3, (some FieldType.int), 1, 6, 0, 0) := ⟨by decide +kernel, mgd 611 (by decide +kernel) (by decide +kernel), mgd 149 (by decide +kernel) rfl, rfl, by decide, by decide +kernel, by decide +kernel, by decide +kernel⟩
theorem mf_62 : mfact (yX6_foldsAgain, cX6_foldsAgain, 4, (some FieldType.int), 1, 6, 0, 0) := ⟨by decide +kernel, mgd 615 (by decide +kernel) (by decide +kernel), mgd 149 (by decide +kernel) rfl, rfl, by decide, by decide +kernel, by decide +kernel, by decide +kernel⟩
theorem mf_63 : mfact (yX6_errorOfDecidedStrip, cX6_errorOfDecidedStrip, 1, (some FieldType.int), 1, 6, 0, 0) := ⟨by decide +kernel, mgd 618 (by decide +kernel) (by decide +kernel), mgd 149 (by decide +kernel) rfl, rfl, by decide, by decide +kernel, by decide +kernel, by decide +kernel⟩
theorem mf_64 : mfact (yX1_search, cX1_search, 7, (some FieldType.int), 2, 1, 0, 0) := ⟨by decide +kernel, mgd 622 (by decide +kernel) (by decide +kernel), mgd 155 (by decide +kernel) rfl, rfl, by decide, by decide +kernel, by decide +kernel, by decide +kernel⟩
theorem mf_65 : mfact (yX1_load, cX1_load, 3, none, 1, 1, 0, 0) := ⟨by decide +kernel, mgd 626 (by decide +kernel) (by decide +kernel), mgd 155 (by decide +kernel) rfl, rfl, by decide, by decide +kernel, by decide +kernel, by decide +kernel⟩
theorem mf_66 : mfact (yX1_nextLayer, cX1_nextLayer, 3, (some FieldType.int), 1, 1, 0, 0) := ⟨by decide +kernel, mgd 635 (by decide +kernel) (by decide +kernel), mgd 155 (by decide +kernel) rfl, rfl, by decide, by decide +kernel, by decide +kernel, by decide +kernel⟩
theorem mf_67 : mfact (yX1_isFree, cX1_isFree, 4, (some FieldType.boolean), 2, 1, 0, 0) := ⟨by decide +kernel, mgd 640 (by decide +kernel) (by decide +kernel), mgd 155 (by decide +kernel) rfl, rfl, by decide, by decide +kernel, by decide +kernel, by decide +kernel⟩
theorem mf_68 : mfact (yX1_isAsCreased, cX1_isAsCreased, 6, (some FieldType.boolean), 2, 1, 0, 0) := ⟨by decide +kernel, mgd 644 (by decide +kernel) (by decide +kernel), mgd 155 (by decide +kernel) rfl, rfl, by decide, by decide +kernel, by decide +kernel, by decide +kernel⟩
theorem mf_69 : mfact (yX1_layersCollide, cX1_layersCollide, 2, (some FieldType.boolean), 0, 1, 0, 0) := ⟨by decide +kernel, mgd 648 (by decide +kernel) (by decide +kernel), mgd 155 (by decide +kernel) rfl, rfl, by decide, by decide +kernel, by decide +kernel, by decide +kernel⟩
theorem mf_70 : mfact (yX1_isPierced, cX1_isPierced, 6, (some FieldType.boolean), 1, 1, 0, 0) := ⟨by decide +kernel, mgd 652 (by decide +kernel) (by decide +kernel), mgd 155 (by decide +kernel) rfl, rfl, by decide, by decide +kernel, by decide +kernel, by decide +kernel⟩
theorem mf_71 : mfact (yX1_isBetween, cX1_isBetween, 6, (some FieldType.boolean), 2, 1, 0, 0) := ⟨by decide +kernel, mgd 657 (by decide +kernel) (by decide +kernel), mgd 155 (by decide +kernel) rfl, rfl, by decide, by decide +kernel, by decide +kernel, by decide +kernel⟩
theorem mf_72 : mfact (yX1_isCrossed, cX1_isCrossed, 4, (some FieldType.boolean), 1, 1, 0, 0) := ⟨by decide +kernel, mgd 661 (by decide +kernel) (by decide +kernel), mgd 155 (by decide +kernel) rfl, rfl, by decide, by decide +kernel, by decide +kernel, by decide +kernel⟩
theorem mf_73 : mfact (yX6_step, cX6_step, 4, (some FieldType.int), 1, 6, 0, 0) := ⟨by decide +kernel, mgd 665 (by decide +kernel) (by decide +kernel), mgd 149 (by decide +kernel) rfl, rfl, by decide, by decide +kernel, by decide +kernel, by decide +kernel⟩
theorem mf_74 : mfact (yX6_steps, cX6_steps, 3, (some FieldType.int), 1, 6, 0, 0) := ⟨by decide +kernel, mgd 671 (by decide +kernel) (by decide +kernel), mgd 149 (by decide +kernel) rfl, rfl, by decide, by decide +kernel, by decide +kernel, by decide +kernel⟩
theorem mf_75 : mfact (yX6_ways, cX6_ways, 3, (some FieldType.int), 1, 6, 0, 0) := ⟨by decide +kernel, mgd 676 (by decide +kernel) (by decide +kernel), mgd 149 (by decide +kernel) rfl, rfl, by decide, by decide +kernel, by decide +kernel, by decide +kernel⟩
theorem mf_76 : mfact (yX3_countWays, cX3_countWays, 4, (some FieldType.int), 1, 3, 0, 0) := ⟨by decide +kernel, mgd 680 (by decide +kernel) (by decide +kernel), mgd 154 (by decide +kernel) rfl, rfl, by decide, by decide +kernel, by decide +kernel, by decide +kernel⟩
theorem mf_77 : mfact (yX3_changesTo, cX3_changesTo, 5, (some FieldType.int), 2, 3, 0, 0) := ⟨by decide +kernel, mgd 683 (by decide +kernel) (by decide +kernel), mgd 154 (by decide +kernel) rfl, rfl, by decide, by decide +kernel, by decide +kernel, by decide +kernel⟩
theorem mf_78 : mfact (yX3_kindIn, cX3_kindIn, 2, (some FieldType.int), 2, 3, 0, 0) := ⟨by decide +kernel, mgd 686 (by decide +kernel) (by decide +kernel), mgd 154 (by decide +kernel) rfl, rfl, by decide, by decide +kernel, by decide +kernel, by decide +kernel⟩
theorem mf_79 : mfact (yX3_foldsWith, cX3_foldsWith, 4, (some FieldType.boolean), 2, 3, 0, 0) := ⟨by decide +kernel, mgd 690 (by decide +kernel) (by decide +kernel), mgd 154 (by decide +kernel) rfl, rfl, by decide, by decide +kernel, by decide +kernel, by decide +kernel⟩
theorem mf_80 : mfact (yX6_fewest, cX6_fewest, 3, (some FieldType.int), 1, 6, 0, 0) := ⟨by decide +kernel, mgd 694 (by decide +kernel) (by decide +kernel), mgd 149 (by decide +kernel) rfl, rfl, by decide, by decide +kernel, by decide +kernel, by decide +kernel⟩
theorem mf_81 : mfact (yX3_fewestChanges, cX3_fewestChanges, 5, (some FieldType.int), 1, 3, 0, 0) := ⟨by decide +kernel, mgd 698 (by decide +kernel) (by decide +kernel), mgd 154 (by decide +kernel) rfl, rfl, by decide, by decide +kernel, by decide +kernel, by decide +kernel⟩
theorem mf_82 : mfact (yX6_place, cX6_place, 4, (some FieldType.int), 2, 6, 0, 0) := ⟨by decide +kernel, mgd 702 (by decide +kernel) (by decide +kernel), mgd 149 (by decide +kernel) rfl, rfl, by decide, by decide +kernel, by decide +kernel, by decide +kernel⟩
theorem mf_83 : mfact (yX6_layer, cX6_layer, 5, (some FieldType.int), 2, 6, 0, 0) := ⟨by decide +kernel, mgd 707 (by decide +kernel) (by decide +kernel), mgd 149 (by decide +kernel) rfl, rfl, by decide, by decide +kernel, by decide +kernel, by decide +kernel⟩
theorem mf_84 : mfact (yX6_orders, cX6_orders, 4, (some FieldType.int), 1, 6, 0, 0) := ⟨by decide +kernel, mgd 711 (by decide +kernel) (by decide +kernel), mgd 149 (by decide +kernel) rfl, rfl, by decide, by decide +kernel, by decide +kernel, by decide +kernel⟩
theorem mf_85 : mfact (yX6_thickest, cX6_thickest, 3, (some FieldType.int), 1, 6, 0, 0) := ⟨by decide +kernel, mgd 716 (by decide +kernel) (by decide +kernel), mgd 149 (by decide +kernel) rfl, rfl, by decide, by decide +kernel, by decide +kernel, by decide +kernel⟩
theorem mf_86 : mfact (yX2_thickness, cX2_thickness, 3, (some FieldType.int), 0, 2, 0, 0) := ⟨by decide +kernel, mgd 720 (by decide +kernel) (by decide +kernel), mgd 151 (by decide +kernel) rfl, rfl, by decide, by decide +kernel, by decide +kernel, by decide +kernel⟩
theorem mf_87 : mfact (yX2_leftEndOf, cX2_leftEndOf, 2, (some FieldType.int), 1, 2, 0, 0) := ⟨by decide +kernel, mgd 724 (by decide +kernel) (by decide +kernel), mgd 151 (by decide +kernel) rfl, rfl, by decide, by decide +kernel, by decide +kernel, by decide +kernel⟩
theorem mf_88 : mfact (yX2_panelsBehind, cX2_panelsBehind, 4, (some FieldType.int), 1, 2, 0, 0) := ⟨by decide +kernel, mgd 728 (by decide +kernel) (by decide +kernel), mgd 151 (by decide +kernel) rfl, rfl, by decide, by decide +kernel, by decide +kernel, by decide +kernel⟩
theorem mf_89 : mfact (yX2_rightEndOf, cX2_rightEndOf, 2, (some FieldType.int), 1, 2, 0, 0) := ⟨by decide +kernel, mgd 732 (by decide +kernel) (by decide +kernel), mgd 151 (by decide +kernel) rfl, rfl, by decide, by decide +kernel, by decide +kernel, by decide +kernel⟩
theorem mt_2_ok : ∀ q ∈ mt_2, mfact q := List.forall_mem_cons.mpr ⟨mf_60, List.forall_mem_cons.mpr ⟨mf_61, List.forall_mem_cons.mpr ⟨mf_62, List.forall_mem_cons.mpr ⟨mf_63, List.forall_mem_cons.mpr ⟨mf_64, List.forall_mem_cons.mpr ⟨mf_65, List.forall_mem_cons.mpr ⟨mf_66, List.forall_mem_cons.mpr ⟨mf_67, List.forall_mem_cons.mpr ⟨mf_68, List.forall_mem_cons.mpr ⟨mf_69, List.forall_mem_cons.mpr ⟨mf_70, List.forall_mem_cons.mpr ⟨mf_71, List.forall_mem_cons.mpr ⟨mf_72, List.forall_mem_cons.mpr ⟨mf_73, List.forall_mem_cons.mpr ⟨mf_74, List.forall_mem_cons.mpr ⟨mf_75, List.forall_mem_cons.mpr ⟨mf_76, List.forall_mem_cons.mpr ⟨mf_77, List.forall_mem_cons.mpr ⟨mf_78, List.forall_mem_cons.mpr ⟨mf_79, List.forall_mem_cons.mpr ⟨mf_80, List.forall_mem_cons.mpr ⟨mf_81, List.forall_mem_cons.mpr ⟨mf_82, List.forall_mem_cons.mpr ⟨mf_83, List.forall_mem_cons.mpr ⟨mf_84, List.forall_mem_cons.mpr ⟨mf_85, List.forall_mem_cons.mpr ⟨mf_86, List.forall_mem_cons.mpr ⟨mf_87, List.forall_mem_cons.mpr ⟨mf_88, List.forall_mem_cons.mpr ⟨mf_89, fun _ h => absurd h List.not_mem_nil⟩⟩⟩⟩⟩⟩⟩⟩⟩⟩⟩⟩⟩⟩⟩⟩⟩⟩⟩⟩⟩⟩⟩⟩⟩⟩⟩⟩⟩⟩
def mt_3 : List (MethodName × ByteArray × Nat × Option FieldType × Nat × Nat × Nat × Nat) := [(yX6_reflected, cX6_reflected, 3, (some FieldType.int), 1, 6, 0, 0),
  (yX2_reflection, cX2_reflection, 4, (some FieldType.int), 0, 2, 0, 0),
  (yX6_append, cX6_append, 2, (some FieldType.int), 1, 6, 0, 0),
  (yX4_write, cX4_write, 2, none, 1, 4, 0, 0),
  (yX6_read, cX6_read, 4, (some FieldType.int), 0, 6, 0, 0),
  (yX4_faultPosition, cX4_faultPosition, 2, (some FieldType.int), 0, 4, 0, 0),
  (yX4_rewind, cX4_rewind, 1, none, 0, 4, 0, 0),
  (yX4_takeCommand, cX4_takeCommand, 1, (some FieldType.boolean), 0, 4, 0, 0),
  (yX4_codeHere, cX4_codeHere, 1, (some FieldType.int), 0, 4, 0, 0),
  (yX4_takeSizes, cX4_takeSizes, 2, (some FieldType.boolean), 0, 4, 0, 0),
  (yX4_takeSign, cX4_takeSign, 2, (some FieldType.boolean), 1, 4, 0, 0),
  (yX4_takeCreases, cX4_takeCreases, 2, (some FieldType.boolean), 0, 4, 0, 0),
  (yX4_takeKind, cX4_takeKind, 2, (some FieldType.boolean), 0, 4, 0, 0),
  (yX4_takePiece, cX4_takePiece, 1, (some FieldType.boolean), 0, 4, 0, 0),
  (yX4_takeDigit, cX4_takeDigit, 1, (some FieldType.boolean), 0, 4, 0, 0),
  (yX4_takeCrease, cX4_takeCrease, 1, (some FieldType.boolean), 0, 4, 0, 0),
  (yX4_clear, cX4_clear, 1, none, 0, 4, 0, 0),
  (yX6_perform, cX6_perform, 1, (some FieldType.int), 0, 6, 0, 0),
  (yX6_withCreasesAsTold, cX6_withCreasesAsTold, 3, (some FieldType.int), 1, 6, 0, 0),
  (yX6_refusal, cX6_refusal, 2, (some FieldType.int), 1, 6, 0, 0),
  (yX6_account, cX6_account, 2, (some FieldType.int), 1, 6, 0, 0),
  (yX5_countOfKind, cX5_countOfKind, 5, (some FieldType.int), 1, 5, 0, 0),
  (yX5_foldedCount, cX5_foldedCount, 4, (some FieldType.int), 0, 5, 0, 0),
  (yX5_panelCount, cX5_panelCount, 4, (some FieldType.int), 0, 5, 0, 0),
  (yX5_creasesOf, cX5_creasesOf, 5, (some FieldType.int), 1, 5, 0, 0),
  (yX6_share, cX6_share, 3, (some FieldType.int), 0, 6, 0, 0),
  (yX6_bitsOf, cX6_bitsOf, 4, (some FieldType.int), 1, 6, 0, 0),
  (yX6_undo, cX6_undo, 1, (some FieldType.int), 0, 6, 0, 0),
  (yX0_pop, cX0_pop, 3, none, 1, 0, 0, 0),
  (yX6_save, cX6_save, 1, (some FieldType.int), 0, 6, 0, 0)]
theorem mf_90 : mfact (yX6_reflected, cX6_reflected, 3, (some FieldType.int), 1, 6, 0, 0) := ⟨by decide +kernel, mgd 736 (by decide +kernel) (by decide +kernel), mgd 149 (by decide +kernel) rfl, rfl, by decide, by decide +kernel, by decide +kernel, by decide +kernel⟩
theorem mf_91 : mfact (yX2_reflection, cX2_reflection, 4, (some FieldType.int), 0, 2, 0, 0) := ⟨by decide +kernel, mgd 740 (by decide +kernel) (by decide +kernel), mgd 151 (by decide +kernel) rfl, rfl, by decide, by decide +kernel, by decide +kernel, by decide +kernel⟩
theorem mf_92 : mfact (yX6_append, cX6_append, 2, (some FieldType.int), 1, 6, 0, 0) := ⟨by decide +kernel, mgd 747 (by decide +kernel) (by decide +kernel), mgd 149 (by decide +kernel) rfl, rfl, by decide, by decide +kernel, by decide +kernel, by decide +kernel⟩
theorem mf_93 : mfact (yX4_write, cX4_write, 2, none, 1, 4, 0, 0) := ⟨by decide +kernel, mgd 751 (by decide +kernel) (by decide +kernel), mgd 153 (by decide +kernel) rfl, rfl, by decide, by decide +kernel, by decide +kernel, by decide +kernel⟩
theorem mf_94 : mfact (yX6_read, cX6_read, 4, (some FieldType.int), 0, 6, 0, 0) := ⟨by decide +kernel, mgd 756 (by decide +kernel) (by decide +kernel), mgd 149 (by decide +kernel) rfl, rfl, by decide, by decide +kernel, by decide +kernel, by decide +kernel⟩
theorem mf_95 : mfact (yX4_faultPosition, cX4_faultPosition, 2, (some FieldType.int), 0, 4, 0, 0) := ⟨by decide +kernel, mgd 760 (by decide +kernel) (by decide +kernel), mgd 153 (by decide +kernel) rfl, rfl, by decide, by decide +kernel, by decide +kernel, by decide +kernel⟩
theorem mf_96 : mfact (yX4_rewind, cX4_rewind, 1, none, 0, 4, 0, 0) := ⟨by decide +kernel, mgd 764 (by decide +kernel) (by decide +kernel), mgd 153 (by decide +kernel) rfl, rfl, by decide, by decide +kernel, by decide +kernel, by decide +kernel⟩
theorem mf_97 : mfact (yX4_takeCommand, cX4_takeCommand, 1, (some FieldType.boolean), 0, 4, 0, 0) := ⟨by decide +kernel, mgd 768 (by decide +kernel) (by decide +kernel), mgd 153 (by decide +kernel) rfl, rfl, by decide, by decide +kernel, by decide +kernel, by decide +kernel⟩
theorem mf_98 : mfact (yX4_codeHere, cX4_codeHere, 1, (some FieldType.int), 0, 4, 0, 0) := ⟨by decide +kernel, mgd 772 (by decide +kernel) (by decide +kernel), mgd 153 (by decide +kernel) rfl, rfl, by decide, by decide +kernel, by decide +kernel, by decide +kernel⟩
theorem mf_99 : mfact (yX4_takeSizes, cX4_takeSizes, 2, (some FieldType.boolean), 0, 4, 0, 0) := ⟨by decide +kernel, mgd 777 (by decide +kernel) (by decide +kernel), mgd 153 (by decide +kernel) rfl, rfl, by decide, by decide +kernel, by decide +kernel, by decide +kernel⟩
theorem mf_100 : mfact (yX4_takeSign, cX4_takeSign, 2, (some FieldType.boolean), 1, 4, 0, 0) := ⟨by decide +kernel, mgd 781 (by decide +kernel) (by decide +kernel), mgd 153 (by decide +kernel) rfl, rfl, by decide, by decide +kernel, by decide +kernel, by decide +kernel⟩
theorem mf_101 : mfact (yX4_takeCreases, cX4_takeCreases, 2, (some FieldType.boolean), 0, 4, 0, 0) := ⟨by decide +kernel, mgd 785 (by decide +kernel) (by decide +kernel), mgd 153 (by decide +kernel) rfl, rfl, by decide, by decide +kernel, by decide +kernel, by decide +kernel⟩
theorem mf_102 : mfact (yX4_takeKind, cX4_takeKind, 2, (some FieldType.boolean), 0, 4, 0, 0) := ⟨by decide +kernel, mgd 789 (by decide +kernel) (by decide +kernel), mgd 153 (by decide +kernel) rfl, rfl, by decide, by decide +kernel, by decide +kernel, by decide +kernel⟩
theorem mf_103 : mfact (yX4_takePiece, cX4_takePiece, 1, (some FieldType.boolean), 0, 4, 0, 0) := ⟨by decide +kernel, mgd 793 (by decide +kernel) (by decide +kernel), mgd 153 (by decide +kernel) rfl, rfl, by decide, by decide +kernel, by decide +kernel, by decide +kernel⟩
theorem mf_104 : mfact (yX4_takeDigit, cX4_takeDigit, 1, (some FieldType.boolean), 0, 4, 0, 0) := ⟨by decide +kernel, mgd 797 (by decide +kernel) (by decide +kernel), mgd 153 (by decide +kernel) rfl, rfl, by decide, by decide +kernel, by decide +kernel, by decide +kernel⟩
theorem mf_105 : mfact (yX4_takeCrease, cX4_takeCrease, 1, (some FieldType.boolean), 0, 4, 0, 0) := ⟨by decide +kernel, mgd 801 (by decide +kernel) (by decide +kernel), mgd 153 (by decide +kernel) rfl, rfl, by decide, by decide +kernel, by decide +kernel, by decide +kernel⟩
theorem mf_106 : mfact (yX4_clear, cX4_clear, 1, none, 0, 4, 0, 0) := ⟨by decide +kernel, mgd 805 (by decide +kernel) (by decide +kernel), mgd 153 (by decide +kernel) rfl, rfl, by decide, by decide +kernel, by decide +kernel, by decide +kernel⟩
theorem mf_107 : mfact (yX6_perform, cX6_perform, 1, (some FieldType.int), 0, 6, 0, 0) := ⟨by decide +kernel, mgd 812 (by decide +kernel) (by decide +kernel), mgd 149 (by decide +kernel) rfl, rfl, by decide, by decide +kernel, by decide +kernel, by decide +kernel⟩
theorem mf_108 : mfact (yX6_withCreasesAsTold, cX6_withCreasesAsTold, 3, (some FieldType.int), 1, 6, 0, 0) := ⟨by decide +kernel, mgd 817 (by decide +kernel) (by decide +kernel), mgd 149 (by decide +kernel) rfl, rfl, by decide, by decide +kernel, by decide +kernel, by decide +kernel⟩
theorem mf_109 : mfact (yX6_refusal, cX6_refusal, 2, (some FieldType.int), 1, 6, 0, 0) := ⟨by decide +kernel, mgd 827 (by decide +kernel) (by decide +kernel), mgd 149 (by decide +kernel) rfl, rfl, by decide, by decide +kernel, by decide +kernel, by decide +kernel⟩
theorem mf_110 : mfact (yX6_account, cX6_account, 2, (some FieldType.int), 1, 6, 0, 0) := ⟨by decide +kernel, mgd 831 (by decide +kernel) (by decide +kernel), mgd 149 (by decide +kernel) rfl, rfl, by decide, by decide +kernel, by decide +kernel, by decide +kernel⟩
theorem mf_111 : mfact (yX5_countOfKind, cX5_countOfKind, 5, (some FieldType.int), 1, 5, 0, 0) := ⟨by decide +kernel, mgd 835 (by decide +kernel) (by decide +kernel), mgd 150 (by decide +kernel) rfl, rfl, by decide, by decide +kernel, by decide +kernel, by decide +kernel⟩
theorem mf_112 : mfact (yX5_foldedCount, cX5_foldedCount, 4, (some FieldType.int), 0, 5, 0, 0) := ⟨by decide +kernel, mgd 839 (by decide +kernel) (by decide +kernel), mgd 150 (by decide +kernel) rfl, rfl, by decide, by decide +kernel, by decide +kernel, by decide +kernel⟩
theorem mf_113 : mfact (yX5_panelCount, cX5_panelCount, 4, (some FieldType.int), 0, 5, 0, 0) := ⟨by decide +kernel, mgd 843 (by decide +kernel) (by decide +kernel), mgd 150 (by decide +kernel) rfl, rfl, by decide, by decide +kernel, by decide +kernel, by decide +kernel⟩
theorem mf_114 : mfact (yX5_creasesOf, cX5_creasesOf, 5, (some FieldType.int), 1, 5, 0, 0) := ⟨by decide +kernel, mgd 847 (by decide +kernel) (by decide +kernel), mgd 150 (by decide +kernel) rfl, rfl, by decide, by decide +kernel, by decide +kernel, by decide +kernel⟩
theorem mf_115 : mfact (yX6_share, cX6_share, 3, (some FieldType.int), 0, 6, 0, 0) := ⟨by decide +kernel, mgd 852 (by decide +kernel) (by decide +kernel), mgd 149 (by decide +kernel) rfl, rfl, by decide, by decide +kernel, by decide +kernel, by decide +kernel⟩
theorem mf_116 : mfact (yX6_bitsOf, cX6_bitsOf, 4, (some FieldType.int), 1, 6, 0, 0) := ⟨by decide +kernel, mgd 855 (by decide +kernel) (by decide +kernel), mgd 149 (by decide +kernel) rfl, rfl, by decide, by decide +kernel, by decide +kernel, by decide +kernel⟩
theorem mf_117 : mfact (yX6_undo, cX6_undo, 1, (some FieldType.int), 0, 6, 0, 0) := ⟨by decide +kernel, mgd 860 (by decide +kernel) (by decide +kernel), mgd 149 (by decide +kernel) rfl, rfl, by decide, by decide +kernel, by decide +kernel, by decide +kernel⟩
theorem mf_118 : mfact (yX0_pop, cX0_pop, 3, none, 1, 0, 0, 0) := ⟨by decide +kernel, mgd 864 (by decide +kernel) (by decide +kernel), mgd 152 (by decide +kernel) rfl, rfl, by decide, by decide +kernel, by decide +kernel, by decide +kernel⟩
theorem mf_119 : mfact (yX6_save, cX6_save, 1, (some FieldType.int), 0, 6, 0, 0) := ⟨by decide +kernel, mgd 868 (by decide +kernel) (by decide +kernel), mgd 149 (by decide +kernel) rfl, rfl, by decide, by decide +kernel, by decide +kernel, by decide +kernel⟩
theorem mt_3_ok : ∀ q ∈ mt_3, mfact q := List.forall_mem_cons.mpr ⟨mf_90, List.forall_mem_cons.mpr ⟨mf_91, List.forall_mem_cons.mpr ⟨mf_92, List.forall_mem_cons.mpr ⟨mf_93, List.forall_mem_cons.mpr ⟨mf_94, List.forall_mem_cons.mpr ⟨mf_95, List.forall_mem_cons.mpr ⟨mf_96, List.forall_mem_cons.mpr ⟨mf_97, List.forall_mem_cons.mpr ⟨mf_98, List.forall_mem_cons.mpr ⟨mf_99, List.forall_mem_cons.mpr ⟨mf_100, List.forall_mem_cons.mpr ⟨mf_101, List.forall_mem_cons.mpr ⟨mf_102, List.forall_mem_cons.mpr ⟨mf_103, List.forall_mem_cons.mpr ⟨mf_104, List.forall_mem_cons.mpr ⟨mf_105, List.forall_mem_cons.mpr ⟨mf_106, List.forall_mem_cons.mpr ⟨mf_107, List.forall_mem_cons.mpr ⟨mf_108, List.forall_mem_cons.mpr ⟨mf_109, List.forall_mem_cons.mpr ⟨mf_110, List.forall_mem_cons.mpr ⟨mf_111, List.forall_mem_cons.mpr ⟨mf_112, List.forall_mem_cons.mpr ⟨mf_113, List.forall_mem_cons.mpr ⟨mf_114, List.forall_mem_cons.mpr ⟨mf_115, List.forall_mem_cons.mpr ⟨mf_116, List.forall_mem_cons.mpr ⟨mf_117, List.forall_mem_cons.mpr ⟨mf_118, List.forall_mem_cons.mpr ⟨mf_119, fun _ h => absurd h List.not_mem_nil⟩⟩⟩⟩⟩⟩⟩⟩⟩⟩⟩⟩⟩⟩⟩⟩⟩⟩⟩⟩⟩⟩⟩⟩⟩⟩⟩⟩⟩⟩
def mt_4 : List (MethodName × ByteArray × Nat × Option FieldType × Nat × Nat × Nat × Nat) := [(yX6_restore, cX6_restore, 1, (some FieldType.int), 0, 6, 0, 0),
  (yX0_clear, cX0_clear, 1, none, 0, 0, 0, 0),
  (yX7_init, cX7_init, 1, none, 0, 7, 13, 1846),
  (yX7_add, cX7_add, 4, (some FieldType.int), 3, 7, 0, 0),
  (yX7_keeps, cX7_keeps, 1, none, 0, 7, 0, 0),
  (yX7_copies, cX7_copies, 5, none, 4, 7, 0, 0),
  (yX7_addsTold, cX7_addsTold, 5, (some FieldType.int), 3, 7, 0, 0),
  (yX7_isIn, cX7_isIn, 3, (some FieldType.boolean), 3, 7, 0, 0),
  (yX7_laysSizes, cX7_laysSizes, 6, (some FieldType.int), 1, 7, 0, 0),
  (yX7_digits, cX7_digits, 3, (some FieldType.int), 1, 7, 0, 0),
  (yX7_areSizes, cX7_areSizes, 3, (some FieldType.boolean), 2, 7, 0, 0),
  (yX7_sumOfNew, cX7_sumOfNew, 4, (some FieldType.int), 1, 7, 0, 0),
  (yX7_laysCreases, cX7_laysCreases, 6, (some FieldType.boolean), 2, 7, 0, 0),
  (yX7_adds, cX7_adds, 5, (some FieldType.int), 2, 7, 0, 0),
  (yX7_refuses, cX7_refuses, 3, (some FieldType.int), 2, 7, 0, 0),
  (yX7_at, cX7_at, 2, (some FieldType.int), 2, 7, 0, 0),
  (yX7_creases, cX7_creases, 2, (some FieldType.int), 1, 7, 0, 0),
  (yX7_of, cX7_of, 3, (some FieldType.int), 2, 7, 0, 0),
  (yX7_isCorner, cX7_isCorner, 2, (some FieldType.boolean), 1, 7, 0, 0),
  (yX7_ends, cX7_ends, 2, (some FieldType.int), 1, 7, 0, 0),
  (yX7_changed, cX7_changed, 2, none, 0, 7, 0, 0),
  (yX7_mark, cX7_mark, 4, (some FieldType.int), 3, 7, 0, 0),
  (yX7_marks, cX7_marks, 5, (some FieldType.int), 3, 7, 0, 0),
  (yX7_isCrease, cX7_isCrease, 3, (some FieldType.boolean), 2, 7, 0, 0),
  (yX7_isPiece, cX7_isPiece, 2, (some FieldType.boolean), 1, 7, 0, 0),
  (yX7_isFolded, cX7_isFolded, 2, (some FieldType.boolean), 1, 7, 0, 0),
  (yX7_creaseOf, cX7_creaseOf, 3, (some FieldType.int), 2, 7, 0, 0),
  (yX7_turn, cX7_turn, 2, (some FieldType.int), 1, 7, 0, 0),
  (yX7_turns, cX7_turns, 4, (some FieldType.int), 1, 7, 0, 0),
  (yX7_countOf, cX7_countOf, 5, (some FieldType.int), 2, 7, 0, 0)]
theorem mf_120 : mfact (yX6_restore, cX6_restore, 1, (some FieldType.int), 0, 6, 0, 0) := ⟨by decide +kernel, mgd 872 (by decide +kernel) (by decide +kernel), mgd 149 (by decide +kernel) rfl, rfl, by decide, by decide +kernel, by decide +kernel, by decide +kernel⟩
theorem mf_121 : mfact (yX0_clear, cX0_clear, 1, none, 0, 0, 0, 0) := ⟨by decide +kernel, mgd 876 (by decide +kernel) (by decide +kernel), mgd 152 (by decide +kernel) rfl, rfl, by decide, by decide +kernel, by decide +kernel, by decide +kernel⟩
theorem mf_122 : mfact (yX7_init, cX7_init, 1, none, 0, 7, 13, 1846) := ⟨by decide +kernel, mgd 881 (by decide +kernel) (by decide +kernel), mgd 156 (by decide +kernel) rfl, rfl, by decide, by decide +kernel, by decide +kernel, by decide +kernel⟩
theorem mf_123 : mfact (yX7_add, cX7_add, 4, (some FieldType.int), 3, 7, 0, 0) := ⟨by decide +kernel, mgd 978 (by decide +kernel) (by decide +kernel), mgd 156 (by decide +kernel) rfl, rfl, by decide, by decide +kernel, by decide +kernel, by decide +kernel⟩
theorem mf_124 : mfact (yX7_keeps, cX7_keeps, 1, none, 0, 7, 0, 0) := ⟨by decide +kernel, mgd 982 (by decide +kernel) (by decide +kernel), mgd 156 (by decide +kernel) rfl, rfl, by decide, by decide +kernel, by decide +kernel, by decide +kernel⟩
theorem mf_125 : mfact (yX7_copies, cX7_copies, 5, none, 4, 7, 0, 0) := ⟨by decide +kernel, mgd 985 (by decide +kernel) (by decide +kernel), mgd 156 (by decide +kernel) rfl, rfl, by decide, by decide +kernel, by decide +kernel, by decide +kernel⟩
theorem mf_126 : mfact (yX7_addsTold, cX7_addsTold, 5, (some FieldType.int), 3, 7, 0, 0) := ⟨by decide +kernel, mgd 989 (by decide +kernel) (by decide +kernel), mgd 156 (by decide +kernel) rfl, rfl, by decide, by decide +kernel, by decide +kernel, by decide +kernel⟩
theorem mf_127 : mfact (yX7_isIn, cX7_isIn, 3, (some FieldType.boolean), 3, 7, 0, 0) := ⟨by decide +kernel, mgd 992 (by decide +kernel) (by decide +kernel), mgd 156 (by decide +kernel) rfl, rfl, by decide, by decide +kernel, by decide +kernel, by decide +kernel⟩
theorem mf_128 : mfact (yX7_laysSizes, cX7_laysSizes, 6, (some FieldType.int), 1, 7, 0, 0) := ⟨by decide +kernel, mgd 996 (by decide +kernel) (by decide +kernel), mgd 156 (by decide +kernel) rfl, rfl, by decide, by decide +kernel, by decide +kernel, by decide +kernel⟩
theorem mf_129 : mfact (yX7_digits, cX7_digits, 3, (some FieldType.int), 1, 7, 0, 0) := ⟨by decide +kernel, mgd 999 (by decide +kernel) (by decide +kernel), mgd 156 (by decide +kernel) rfl, rfl, by decide, by decide +kernel, by decide +kernel, by decide +kernel⟩
theorem mf_130 : mfact (yX7_areSizes, cX7_areSizes, 3, (some FieldType.boolean), 2, 7, 0, 0) := ⟨by decide +kernel, mgd 1003 (by decide +kernel) (by decide +kernel), mgd 156 (by decide +kernel) rfl, rfl, by decide, by decide +kernel, by decide +kernel, by decide +kernel⟩
theorem mf_131 : mfact (yX7_sumOfNew, cX7_sumOfNew, 4, (some FieldType.int), 1, 7, 0, 0) := ⟨by decide +kernel, mgd 1007 (by decide +kernel) (by decide +kernel), mgd 156 (by decide +kernel) rfl, rfl, by decide, by decide +kernel, by decide +kernel, by decide +kernel⟩
theorem mf_132 : mfact (yX7_laysCreases, cX7_laysCreases, 6, (some FieldType.boolean), 2, 7, 0, 0) := ⟨by decide +kernel, mgd 1011 (by decide +kernel) (by decide +kernel), mgd 156 (by decide +kernel) rfl, rfl, by decide, by decide +kernel, by decide +kernel, by decide +kernel⟩
theorem mf_133 : mfact (yX7_adds, cX7_adds, 5, (some FieldType.int), 2, 7, 0, 0) := ⟨by decide +kernel, mgd 1015 (by decide +kernel) (by decide +kernel), mgd 156 (by decide +kernel) rfl, rfl, by decide, by decide +kernel, by decide +kernel, by decide +kernel⟩
theorem mf_134 : mfact (yX7_refuses, cX7_refuses, 3, (some FieldType.int), 2, 7, 0, 0) := ⟨by decide +kernel, mgd 1019 (by decide +kernel) (by decide +kernel), mgd 156 (by decide +kernel) rfl, rfl, by decide, by decide +kernel, by decide +kernel, by decide +kernel⟩
theorem mf_135 : mfact (yX7_at, cX7_at, 2, (some FieldType.int), 2, 7, 0, 0) := ⟨by decide +kernel, mgd 1022 (by decide +kernel) (by decide +kernel), mgd 156 (by decide +kernel) rfl, rfl, by decide, by decide +kernel, by decide +kernel, by decide +kernel⟩
theorem mf_136 : mfact (yX7_creases, cX7_creases, 2, (some FieldType.int), 1, 7, 0, 0) := ⟨by decide +kernel, mgd 1026 (by decide +kernel) (by decide +kernel), mgd 156 (by decide +kernel) rfl, rfl, by decide, by decide +kernel, by decide +kernel, by decide +kernel⟩
theorem mf_137 : mfact (yX7_of, cX7_of, 3, (some FieldType.int), 2, 7, 0, 0) := ⟨by decide +kernel, mgd 1030 (by decide +kernel) (by decide +kernel), mgd 156 (by decide +kernel) rfl, rfl, by decide, by decide +kernel, by decide +kernel, by decide +kernel⟩
theorem mf_138 : mfact (yX7_isCorner, cX7_isCorner, 2, (some FieldType.boolean), 1, 7, 0, 0) := ⟨by decide +kernel, mgd 1034 (by decide +kernel) (by decide +kernel), mgd 156 (by decide +kernel) rfl, rfl, by decide, by decide +kernel, by decide +kernel, by decide +kernel⟩
theorem mf_139 : mfact (yX7_ends, cX7_ends, 2, (some FieldType.int), 1, 7, 0, 0) := ⟨by decide +kernel, mgd 1038 (by decide +kernel) (by decide +kernel), mgd 156 (by decide +kernel) rfl, rfl, by decide, by decide +kernel, by decide +kernel, by decide +kernel⟩
theorem mf_140 : mfact (yX7_changed, cX7_changed, 2, none, 0, 7, 0, 0) := ⟨by decide +kernel, mgd 1042 (by decide +kernel) (by decide +kernel), mgd 156 (by decide +kernel) rfl, rfl, by decide, by decide +kernel, by decide +kernel, by decide +kernel⟩
theorem mf_141 : mfact (yX7_mark, cX7_mark, 4, (some FieldType.int), 3, 7, 0, 0) := ⟨by decide +kernel, mgd 1046 (by decide +kernel) (by decide +kernel), mgd 156 (by decide +kernel) rfl, rfl, by decide, by decide +kernel, by decide +kernel, by decide +kernel⟩
theorem mf_142 : mfact (yX7_marks, cX7_marks, 5, (some FieldType.int), 3, 7, 0, 0) := ⟨by decide +kernel, mgd 1050 (by decide +kernel) (by decide +kernel), mgd 156 (by decide +kernel) rfl, rfl, by decide, by decide +kernel, by decide +kernel, by decide +kernel⟩
theorem mf_143 : mfact (yX7_isCrease, cX7_isCrease, 3, (some FieldType.boolean), 2, 7, 0, 0) := ⟨by decide +kernel, mgd 1054 (by decide +kernel) (by decide +kernel), mgd 156 (by decide +kernel) rfl, rfl, by decide, by decide +kernel, by decide +kernel, by decide +kernel⟩
theorem mf_144 : mfact (yX7_isPiece, cX7_isPiece, 2, (some FieldType.boolean), 1, 7, 0, 0) := ⟨by decide +kernel, mgd 1058 (by decide +kernel) (by decide +kernel), mgd 156 (by decide +kernel) rfl, rfl, by decide, by decide +kernel, by decide +kernel, by decide +kernel⟩
theorem mf_145 : mfact (yX7_isFolded, cX7_isFolded, 2, (some FieldType.boolean), 1, 7, 0, 0) := ⟨by decide +kernel, mgd 1062 (by decide +kernel) (by decide +kernel), mgd 156 (by decide +kernel) rfl, rfl, by decide, by decide +kernel, by decide +kernel, by decide +kernel⟩
theorem mf_146 : mfact (yX7_creaseOf, cX7_creaseOf, 3, (some FieldType.int), 2, 7, 0, 0) := ⟨by decide +kernel, mgd 1066 (by decide +kernel) (by decide +kernel), mgd 156 (by decide +kernel) rfl, rfl, by decide, by decide +kernel, by decide +kernel, by decide +kernel⟩
theorem mf_147 : mfact (yX7_turn, cX7_turn, 2, (some FieldType.int), 1, 7, 0, 0) := ⟨by decide +kernel, mgd 1070 (by decide +kernel) (by decide +kernel), mgd 156 (by decide +kernel) rfl, rfl, by decide, by decide +kernel, by decide +kernel, by decide +kernel⟩
theorem mf_148 : mfact (yX7_turns, cX7_turns, 4, (some FieldType.int), 1, 7, 0, 0) := ⟨by decide +kernel, mgd 1074 (by decide +kernel) (by decide +kernel), mgd 156 (by decide +kernel) rfl, rfl, by decide, by decide +kernel, by decide +kernel, by decide +kernel⟩
theorem mf_149 : mfact (yX7_countOf, cX7_countOf, 5, (some FieldType.int), 2, 7, 0, 0) := ⟨by decide +kernel, mgd 1078 (by decide +kernel) (by decide +kernel), mgd 156 (by decide +kernel) rfl, rfl, by decide, by decide +kernel, by decide +kernel, by decide +kernel⟩
theorem mt_4_ok : ∀ q ∈ mt_4, mfact q := List.forall_mem_cons.mpr ⟨mf_120, List.forall_mem_cons.mpr ⟨mf_121, List.forall_mem_cons.mpr ⟨mf_122, List.forall_mem_cons.mpr ⟨mf_123, List.forall_mem_cons.mpr ⟨mf_124, List.forall_mem_cons.mpr ⟨mf_125, List.forall_mem_cons.mpr ⟨mf_126, List.forall_mem_cons.mpr ⟨mf_127, List.forall_mem_cons.mpr ⟨mf_128, List.forall_mem_cons.mpr ⟨mf_129, List.forall_mem_cons.mpr ⟨mf_130, List.forall_mem_cons.mpr ⟨mf_131, List.forall_mem_cons.mpr ⟨mf_132, List.forall_mem_cons.mpr ⟨mf_133, List.forall_mem_cons.mpr ⟨mf_134, List.forall_mem_cons.mpr ⟨mf_135, List.forall_mem_cons.mpr ⟨mf_136, List.forall_mem_cons.mpr ⟨mf_137, List.forall_mem_cons.mpr ⟨mf_138, List.forall_mem_cons.mpr ⟨mf_139, List.forall_mem_cons.mpr ⟨mf_140, List.forall_mem_cons.mpr ⟨mf_141, List.forall_mem_cons.mpr ⟨mf_142, List.forall_mem_cons.mpr ⟨mf_143, List.forall_mem_cons.mpr ⟨mf_144, List.forall_mem_cons.mpr ⟨mf_145, List.forall_mem_cons.mpr ⟨mf_146, List.forall_mem_cons.mpr ⟨mf_147, List.forall_mem_cons.mpr ⟨mf_148, List.forall_mem_cons.mpr ⟨mf_149, fun _ h => absurd h List.not_mem_nil⟩⟩⟩⟩⟩⟩⟩⟩⟩⟩⟩⟩⟩⟩⟩⟩⟩⟩⟩⟩⟩⟩⟩⟩⟩⟩⟩⟩⟩⟩
def mt_5 : List (MethodName × ByteArray × Nat × Option FieldType × Nat × Nat × Nat × Nat) := [(yX7_rotate, cX7_rotate, 3, (some FieldType.int), 2, 7, 0, 0),
  (yX7_rotates, cX7_rotates, 6, (some FieldType.int), 2, 7, 0, 0),
  (yX7_sizeOf, cX7_sizeOf, 3, (some FieldType.int), 2, 7, 0, 0),
  (yX7_join, cX7_join, 4, (some FieldType.int), 3, 7, 0, 0),
  (yX7_joins, cX7_joins, 7, (some FieldType.int), 3, 7, 0, 0),
  (yX7_goes, cX7_goes, 3, none, 1, 7, 0, 0),
  (yX7_cut, cX7_cut, 3, (some FieldType.int), 2, 7, 0, 0),
  (yX7_cuts, cX7_cuts, 7, (some FieldType.int), 2, 7, 0, 0),
  (yX7_lesser, cX7_lesser, 2, (some FieldType.int), 2, 7, 0, 0),
  (yX7_why, cX7_why, 2, (some FieldType.int), 1, 7, 0, 0),
  (yX7_whyNot, cX7_whyNot, 3, (some FieldType.int), 1, 7, 0, 0),
  (yX7_evenAngles, cX7_evenAngles, 4, (some FieldType.int), 1, 7, 0, 0),
  (yX7_hasSharp, cX7_hasSharp, 6, (some FieldType.boolean), 1, 7, 0, 0),
  (yX7_foldsNow, cX7_foldsNow, 2, (some FieldType.boolean), 1, 7, 0, 0),
  (yX7_lays, cX7_lays, 3, none, 1, 7, 0, 0),
  (yX7_folds, cX7_folds, 2, (some FieldType.boolean), 0, 7, 0, 0),
  (yX7_reduces, cX7_reduces, 3, (some FieldType.int), 0, 7, 0, 0),
  (yX7_stepNow, cX7_stepNow, 2, (some FieldType.int), 0, 7, 0, 0),
  (yX7_crimped, cX7_crimped, 6, (some FieldType.int), 0, 7, 0, 0),
  (yX7_makes, cX7_makes, 2, none, 1, 7, 0, 0),
  (yX7_dropsSize, cX7_dropsSize, 3, none, 1, 7, 0, 0),
  (yX7_dropsCrease, cX7_dropsCrease, 3, none, 1, 7, 0, 0),
  (yX7_crimpsCorner, cX7_crimpsCorner, 6, none, 1, 7, 0, 0),
  (yX7_greater, cX7_greater, 2, (some FieldType.int), 2, 7, 0, 0),
  (yX7_crimpsStrip, cX7_crimpsStrip, 2, none, 1, 7, 0, 0),
  (yX7_step, cX7_step, 3, (some FieldType.int), 1, 7, 0, 0),
  (yX7_steps, cX7_steps, 2, (some FieldType.int), 1, 7, 0, 0),
  (yX7_ways, cX7_ways, 4, (some FieldType.int), 1, 7, 0, 0),
  (yX7_otherwise, cX7_otherwise, 6, (some FieldType.int), 2, 7, 0, 0),
  (yX7_foldsBy, cX7_foldsBy, 3, (some FieldType.boolean), 2, 7, 0, 0)]
theorem mf_150 : mfact (yX7_rotate, cX7_rotate, 3, (some FieldType.int), 2, 7, 0, 0) := ⟨by decide +kernel, mgd 1082 (by decide +kernel) (by decide +kernel), mgd 156 (by decide +kernel) rfl, rfl, by decide, by decide +kernel, by decide +kernel, by decide +kernel⟩
theorem mf_151 : mfact (yX7_rotates, cX7_rotates, 6, (some FieldType.int), 2, 7, 0, 0) := ⟨by decide +kernel, mgd 1086 (by decide +kernel) (by decide +kernel), mgd 156 (by decide +kernel) rfl, rfl, by decide, by decide +kernel, by decide +kernel, by decide +kernel⟩
theorem mf_152 : mfact (yX7_sizeOf, cX7_sizeOf, 3, (some FieldType.int), 2, 7, 0, 0) := ⟨by decide +kernel, mgd 1090 (by decide +kernel) (by decide +kernel), mgd 156 (by decide +kernel) rfl, rfl, by decide, by decide +kernel, by decide +kernel, by decide +kernel⟩
theorem mf_153 : mfact (yX7_join, cX7_join, 4, (some FieldType.int), 3, 7, 0, 0) := ⟨by decide +kernel, mgd 1094 (by decide +kernel) (by decide +kernel), mgd 156 (by decide +kernel) rfl, rfl, by decide, by decide +kernel, by decide +kernel, by decide +kernel⟩
theorem mf_154 : mfact (yX7_joins, cX7_joins, 7, (some FieldType.int), 3, 7, 0, 0) := ⟨by decide +kernel, mgd 1098 (by decide +kernel) (by decide +kernel), mgd 156 (by decide +kernel) rfl, rfl, by decide, by decide +kernel, by decide +kernel, by decide +kernel⟩
theorem mf_155 : mfact (yX7_goes, cX7_goes, 3, none, 1, 7, 0, 0) := ⟨by decide +kernel, mgd 1102 (by decide +kernel) (by decide +kernel), mgd 156 (by decide +kernel) rfl, rfl, by decide, by decide +kernel, by decide +kernel, by decide +kernel⟩
theorem mf_156 : mfact (yX7_cut, cX7_cut, 3, (some FieldType.int), 2, 7, 0, 0) := ⟨by decide +kernel, mgd 1106 (by decide +kernel) (by decide +kernel), mgd 156 (by decide +kernel) rfl, rfl, by decide, by decide +kernel, by decide +kernel, by decide +kernel⟩
theorem mf_157 : mfact (yX7_cuts, cX7_cuts, 7, (some FieldType.int), 2, 7, 0, 0) := ⟨by decide +kernel, mgd 1110 (by decide +kernel) (by decide +kernel), mgd 156 (by decide +kernel) rfl, rfl, by decide, by decide +kernel, by decide +kernel, by decide +kernel⟩
theorem mf_158 : mfact (yX7_lesser, cX7_lesser, 2, (some FieldType.int), 2, 7, 0, 0) := ⟨by decide +kernel, mgd 1113 (by decide +kernel) (by decide +kernel), mgd 156 (by decide +kernel) rfl, rfl, by decide, by decide +kernel, by decide +kernel, by decide +kernel⟩
theorem mf_159 : mfact (yX7_why, cX7_why, 2, (some FieldType.int), 1, 7, 0, 0) := ⟨by decide +kernel, mgd 1117 (by decide +kernel) (by decide +kernel), mgd 156 (by decide +kernel) rfl, rfl, by decide, by decide +kernel, by decide +kernel, by decide +kernel⟩
theorem mf_160 : mfact (yX7_whyNot, cX7_whyNot, 3, (some FieldType.int), 1, 7, 0, 0) := ⟨by decide +kernel, mgd 1121 (by decide +kernel) (by decide +kernel), mgd 156 (by decide +kernel) rfl, rfl, by decide, by decide +kernel, by decide +kernel, by decide +kernel⟩
theorem mf_161 : mfact (yX7_evenAngles, cX7_evenAngles, 4, (some FieldType.int), 1, 7, 0, 0) := ⟨by decide +kernel, mgd 1125 (by decide +kernel) (by decide +kernel), mgd 156 (by decide +kernel) rfl, rfl, by decide, by decide +kernel, by decide +kernel, by decide +kernel⟩
theorem mf_162 : mfact (yX7_hasSharp, cX7_hasSharp, 6, (some FieldType.boolean), 1, 7, 0, 0) := ⟨by decide +kernel, mgd 1129 (by decide +kernel) (by decide +kernel), mgd 156 (by decide +kernel) rfl, rfl, by decide, by decide +kernel, by decide +kernel, by decide +kernel⟩
theorem mf_163 : mfact (yX7_foldsNow, cX7_foldsNow, 2, (some FieldType.boolean), 1, 7, 0, 0) := ⟨by decide +kernel, mgd 1133 (by decide +kernel) (by decide +kernel), mgd 156 (by decide +kernel) rfl, rfl, by decide, by decide +kernel, by decide +kernel, by decide +kernel⟩
theorem mf_164 : mfact (yX7_lays, cX7_lays, 3, none, 1, 7, 0, 0) := ⟨by decide +kernel, mgd 1137 (by decide +kernel) (by decide +kernel), mgd 156 (by decide +kernel) rfl, rfl, by decide, by decide +kernel, by decide +kernel, by decide +kernel⟩
theorem mf_165 : mfact (yX7_folds, cX7_folds, 2, (some FieldType.boolean), 0, 7, 0, 0) := ⟨by decide +kernel, mgd 1141 (by decide +kernel) (by decide +kernel), mgd 156 (by decide +kernel) rfl, rfl, by decide, by decide +kernel, by decide +kernel, by decide +kernel⟩
theorem mf_166 : mfact (yX7_reduces, cX7_reduces, 3, (some FieldType.int), 0, 7, 0, 0) := ⟨by decide +kernel, mgd 1145 (by decide +kernel) (by decide +kernel), mgd 156 (by decide +kernel) rfl, rfl, by decide, by decide +kernel, by decide +kernel, by decide +kernel⟩
theorem mf_167 : mfact (yX7_stepNow, cX7_stepNow, 2, (some FieldType.int), 0, 7, 0, 0) := ⟨by decide +kernel, mgd 1149 (by decide +kernel) (by decide +kernel), mgd 156 (by decide +kernel) rfl, rfl, by decide, by decide +kernel, by decide +kernel, by decide +kernel⟩
theorem mf_168 : mfact (yX7_crimped, cX7_crimped, 6, (some FieldType.int), 0, 7, 0, 0) := ⟨by decide +kernel, mgd 1153 (by decide +kernel) (by decide +kernel), mgd 156 (by decide +kernel) rfl, rfl, by decide, by decide +kernel, by decide +kernel, by decide +kernel⟩
theorem mf_169 : mfact (yX7_makes, cX7_makes, 2, none, 1, 7, 0, 0) := ⟨by decide +kernel, mgd 1157 (by decide +kernel) (by decide +kernel), mgd 156 (by decide +kernel) rfl, rfl, by decide, by decide +kernel, by decide +kernel, by decide +kernel⟩
theorem mf_170 : mfact (yX7_dropsSize, cX7_dropsSize, 3, none, 1, 7, 0, 0) := ⟨by decide +kernel, mgd 1161 (by decide +kernel) (by decide +kernel), mgd 156 (by decide +kernel) rfl, rfl, by decide, by decide +kernel, by decide +kernel, by decide +kernel⟩
theorem mf_171 : mfact (yX7_dropsCrease, cX7_dropsCrease, 3, none, 1, 7, 0, 0) := ⟨by decide +kernel, mgd 1165 (by decide +kernel) (by decide +kernel), mgd 156 (by decide +kernel) rfl, rfl, by decide, by decide +kernel, by decide +kernel, by decide +kernel⟩
theorem mf_172 : mfact (yX7_crimpsCorner, cX7_crimpsCorner, 6, none, 1, 7, 0, 0) := ⟨by decide +kernel, mgd 1169 (by decide +kernel) (by decide +kernel), mgd 156 (by decide +kernel) rfl, rfl, by decide, by decide +kernel, by decide +kernel, by decide +kernel⟩
theorem mf_173 : mfact (yX7_greater, cX7_greater, 2, (some FieldType.int), 2, 7, 0, 0) := ⟨by decide +kernel, mgd 1172 (by decide +kernel) (by decide +kernel), mgd 156 (by decide +kernel) rfl, rfl, by decide, by decide +kernel, by decide +kernel, by decide +kernel⟩
theorem mf_174 : mfact (yX7_crimpsStrip, cX7_crimpsStrip, 2, none, 1, 7, 0, 0) := ⟨by decide +kernel, mgd 1176 (by decide +kernel) (by decide +kernel), mgd 156 (by decide +kernel) rfl, rfl, by decide, by decide +kernel, by decide +kernel, by decide +kernel⟩
theorem mf_175 : mfact (yX7_step, cX7_step, 3, (some FieldType.int), 1, 7, 0, 0) := ⟨by decide +kernel, mgd 1180 (by decide +kernel) (by decide +kernel), mgd 156 (by decide +kernel) rfl, rfl, by decide, by decide +kernel, by decide +kernel, by decide +kernel⟩
theorem mf_176 : mfact (yX7_steps, cX7_steps, 2, (some FieldType.int), 1, 7, 0, 0) := ⟨by decide +kernel, mgd 1184 (by decide +kernel) (by decide +kernel), mgd 156 (by decide +kernel) rfl, rfl, by decide, by decide +kernel, by decide +kernel, by decide +kernel⟩
theorem mf_177 : mfact (yX7_ways, cX7_ways, 4, (some FieldType.int), 1, 7, 0, 0) := ⟨by decide +kernel, mgd 1188 (by decide +kernel) (by decide +kernel), mgd 156 (by decide +kernel) rfl, rfl, by decide, by decide +kernel, by decide +kernel, by decide +kernel⟩
theorem mf_178 : mfact (yX7_otherwise, cX7_otherwise, 6, (some FieldType.int), 2, 7, 0, 0) := ⟨by decide +kernel, mgd 1192 (by decide +kernel) (by decide +kernel), mgd 156 (by decide +kernel) rfl, rfl, by decide, by decide +kernel, by decide +kernel, by decide +kernel⟩
theorem mf_179 : mfact (yX7_foldsBy, cX7_foldsBy, 3, (some FieldType.boolean), 2, 7, 0, 0) := ⟨by decide +kernel, mgd 1196 (by decide +kernel) (by decide +kernel), mgd 156 (by decide +kernel) rfl, rfl, by decide, by decide +kernel, by decide +kernel, by decide +kernel⟩
theorem mt_5_ok : ∀ q ∈ mt_5, mfact q := List.forall_mem_cons.mpr ⟨mf_150, List.forall_mem_cons.mpr ⟨mf_151, List.forall_mem_cons.mpr ⟨mf_152, List.forall_mem_cons.mpr ⟨mf_153, List.forall_mem_cons.mpr ⟨mf_154, List.forall_mem_cons.mpr ⟨mf_155, List.forall_mem_cons.mpr ⟨mf_156, List.forall_mem_cons.mpr ⟨mf_157, List.forall_mem_cons.mpr ⟨mf_158, List.forall_mem_cons.mpr ⟨mf_159, List.forall_mem_cons.mpr ⟨mf_160, List.forall_mem_cons.mpr ⟨mf_161, List.forall_mem_cons.mpr ⟨mf_162, List.forall_mem_cons.mpr ⟨mf_163, List.forall_mem_cons.mpr ⟨mf_164, List.forall_mem_cons.mpr ⟨mf_165, List.forall_mem_cons.mpr ⟨mf_166, List.forall_mem_cons.mpr ⟨mf_167, List.forall_mem_cons.mpr ⟨mf_168, List.forall_mem_cons.mpr ⟨mf_169, List.forall_mem_cons.mpr ⟨mf_170, List.forall_mem_cons.mpr ⟨mf_171, List.forall_mem_cons.mpr ⟨mf_172, List.forall_mem_cons.mpr ⟨mf_173, List.forall_mem_cons.mpr ⟨mf_174, List.forall_mem_cons.mpr ⟨mf_175, List.forall_mem_cons.mpr ⟨mf_176, List.forall_mem_cons.mpr ⟨mf_177, List.forall_mem_cons.mpr ⟨mf_178, List.forall_mem_cons.mpr ⟨mf_179, fun _ h => absurd h List.not_mem_nil⟩⟩⟩⟩⟩⟩⟩⟩⟩⟩⟩⟩⟩⟩⟩⟩⟩⟩⟩⟩⟩⟩⟩⟩⟩⟩⟩⟩⟩⟩
def mt_6 : List (MethodName × ByteArray × Nat × Option FieldType × Nat × Nat × Nat × Nat) := [(yX7_laysBy, cX7_laysBy, 4, none, 2, 7, 0, 0),
  (yX7_fewest, cX7_fewest, 5, (some FieldType.int), 1, 7, 0, 0),
  (yX7_stage, cX7_stage, 2, (some FieldType.int), 1, 7, 0, 0),
  (yX7_stages, cX7_stages, 3, (some FieldType.int), 1, 7, 0, 0),
  (yX7_used, cX7_used, 3, (some FieldType.int), 0, 7, 0, 0),
  (yX7_widthOf, cX7_widthOf, 5, (some FieldType.int), 1, 7, 0, 0),
  (yX7_placeOf, cX7_placeOf, 5, (some FieldType.int), 2, 7, 0, 0),
  (yX7_fold, cX7_fold, 2, (some FieldType.int), 1, 7, 0, 0),
  (yX7_foldsOnStage, cX7_foldsOnStage, 4, (some FieldType.int), 1, 7, 0, 0),
  (yX7_lowestOpen, cX7_lowestOpen, 3, (some FieldType.int), 1, 7, 0, 0),
  (yX7_unfold, cX7_unfold, 2, (some FieldType.int), 1, 7, 0, 0),
  (yX7_unfolds, cX7_unfolds, 2, (some FieldType.int), 1, 7, 0, 0),
  (yX7_drop, cX7_drop, 2, (some FieldType.int), 1, 7, 0, 0),
  (yX7_drops, cX7_drops, 2, (some FieldType.int), 1, 7, 0, 0),
  (yX7_piece, cX7_piece, 3, (some FieldType.int), 2, 7, 0, 0),
  (yX7_sumOf, cX7_sumOf, 4, (some FieldType.int), 1, 7, 0, 0),
  (yX7_size, cX7_size, 3, (some FieldType.int), 2, 7, 0, 0),
  (yX7_crease, cX7_crease, 3, (some FieldType.int), 2, 7, 0, 0),
  (yX7_foldsAgain, cX7_foldsAgain, 3, (some FieldType.int), 1, 7, 0, 0),
  (yX7_wrongStrip, cX7_wrongStrip, 2, (some FieldType.int), 1, 7, 0, 0),
  (yX7_ordersOf, cX7_ordersOf, 3, (some FieldType.int), 1, 7, 0, 0),
  (yX7_gives, cX7_gives, 3, none, 1, 7, 0, 0),
  (yX7_isPossible, cX7_isPossible, 2, (some FieldType.boolean), 0, 7, 0, 0),
  (yX7_collides, cX7_collides, 4, (some FieldType.boolean), 1, 7, 0, 0),
  (yX7_reachesOver, cX7_reachesOver, 3, (some FieldType.boolean), 2, 7, 0, 0),
  (yX7_isBetween, cX7_isBetween, 5, (some FieldType.boolean), 2, 7, 0, 0),
  (yX7_isAbove, cX7_isAbove, 2, (some FieldType.boolean), 1, 7, 0, 0),
  (yX7_orders, cX7_orders, 3, (some FieldType.int), 1, 7, 0, 0),
  (yX7_layer, cX7_layer, 4, (some FieldType.int), 2, 7, 0, 0),
  (yX7_isStripWithout, cX7_isStripWithout, 4, (some FieldType.boolean), 3, 7, 0, 0)]
theorem mf_180 : mfact (yX7_laysBy, cX7_laysBy, 4, none, 2, 7, 0, 0) := ⟨by decide +kernel, mgd 1200 (by decide +kernel) (by decide +kernel), mgd 156 (by decide +kernel) rfl, rfl, by decide, by decide +kernel, by decide +kernel, by decide +kernel⟩
theorem mf_181 : mfact (yX7_fewest, cX7_fewest, 5, (some FieldType.int), 1, 7, 0, 0) := ⟨by decide +kernel, mgd 1204 (by decide +kernel) (by decide +kernel), mgd 156 (by decide +kernel) rfl, rfl, by decide, by decide +kernel, by decide +kernel, by decide +kernel⟩
theorem mf_182 : mfact (yX7_stage, cX7_stage, 2, (some FieldType.int), 1, 7, 0, 0) := ⟨by decide +kernel, mgd 1208 (by decide +kernel) (by decide +kernel), mgd 156 (by decide +kernel) rfl, rfl, by decide, by decide +kernel, by decide +kernel, by decide +kernel⟩
theorem mf_183 : mfact (yX7_stages, cX7_stages, 3, (some FieldType.int), 1, 7, 0, 0) := ⟨by decide +kernel, mgd 1212 (by decide +kernel) (by decide +kernel), mgd 156 (by decide +kernel) rfl, rfl, by decide, by decide +kernel, by decide +kernel, by decide +kernel⟩
theorem mf_184 : mfact (yX7_used, cX7_used, 3, (some FieldType.int), 0, 7, 0, 0) := ⟨by decide +kernel, mgd 1216 (by decide +kernel) (by decide +kernel), mgd 156 (by decide +kernel) rfl, rfl, by decide, by decide +kernel, by decide +kernel, by decide +kernel⟩
theorem mf_185 : mfact (yX7_widthOf, cX7_widthOf, 5, (some FieldType.int), 1, 7, 0, 0) := ⟨by decide +kernel, mgd 1220 (by decide +kernel) (by decide +kernel), mgd 156 (by decide +kernel) rfl, rfl, by decide, by decide +kernel, by decide +kernel, by decide +kernel⟩
theorem mf_186 : mfact (yX7_placeOf, cX7_placeOf, 5, (some FieldType.int), 2, 7, 0, 0) := ⟨by decide +kernel, mgd 1224 (by decide +kernel) (by decide +kernel), mgd 156 (by decide +kernel) rfl, rfl, by decide, by decide +kernel, by decide +kernel, by decide +kernel⟩
theorem mf_187 : mfact (yX7_fold, cX7_fold, 2, (some FieldType.int), 1, 7, 0, 0) := ⟨by decide +kernel, mgd 1228 (by decide +kernel) (by decide +kernel), mgd 156 (by decide +kernel) rfl, rfl, by decide, by decide +kernel, by decide +kernel, by decide +kernel⟩
theorem mf_188 : mfact (yX7_foldsOnStage, cX7_foldsOnStage, 4, (some FieldType.int), 1, 7, 0, 0) := ⟨by decide +kernel, mgd 1232 (by decide +kernel) (by decide +kernel), mgd 156 (by decide +kernel) rfl, rfl, by decide, by decide +kernel, by decide +kernel, by decide +kernel⟩
theorem mf_189 : mfact (yX7_lowestOpen, cX7_lowestOpen, 3, (some FieldType.int), 1, 7, 0, 0) := ⟨by decide +kernel, mgd 1236 (by decide +kernel) (by decide +kernel), mgd 156 (by decide +kernel) rfl, rfl, by decide, by decide +kernel, by decide +kernel, by decide +kernel⟩
theorem mf_190 : mfact (yX7_unfold, cX7_unfold, 2, (some FieldType.int), 1, 7, 0, 0) := ⟨by decide +kernel, mgd 1240 (by decide +kernel) (by decide +kernel), mgd 156 (by decide +kernel) rfl, rfl, by decide, by decide +kernel, by decide +kernel, by decide +kernel⟩
theorem mf_191 : mfact (yX7_unfolds, cX7_unfolds, 2, (some FieldType.int), 1, 7, 0, 0) := ⟨by decide +kernel, mgd 1244 (by decide +kernel) (by decide +kernel), mgd 156 (by decide +kernel) rfl, rfl, by decide, by decide +kernel, by decide +kernel, by decide +kernel⟩
theorem mf_192 : mfact (yX7_drop, cX7_drop, 2, (some FieldType.int), 1, 7, 0, 0) := ⟨by decide +kernel, mgd 1248 (by decide +kernel) (by decide +kernel), mgd 156 (by decide +kernel) rfl, rfl, by decide, by decide +kernel, by decide +kernel, by decide +kernel⟩
theorem mf_193 : mfact (yX7_drops, cX7_drops, 2, (some FieldType.int), 1, 7, 0, 0) := ⟨by decide +kernel, mgd 1252 (by decide +kernel) (by decide +kernel), mgd 156 (by decide +kernel) rfl, rfl, by decide, by decide +kernel, by decide +kernel, by decide +kernel⟩
theorem mf_194 : mfact (yX7_piece, cX7_piece, 3, (some FieldType.int), 2, 7, 0, 0) := ⟨by decide +kernel, mgd 1256 (by decide +kernel) (by decide +kernel), mgd 156 (by decide +kernel) rfl, rfl, by decide, by decide +kernel, by decide +kernel, by decide +kernel⟩
theorem mf_195 : mfact (yX7_sumOf, cX7_sumOf, 4, (some FieldType.int), 1, 7, 0, 0) := ⟨by decide +kernel, mgd 1260 (by decide +kernel) (by decide +kernel), mgd 156 (by decide +kernel) rfl, rfl, by decide, by decide +kernel, by decide +kernel, by decide +kernel⟩
theorem mf_196 : mfact (yX7_size, cX7_size, 3, (some FieldType.int), 2, 7, 0, 0) := ⟨by decide +kernel, mgd 1264 (by decide +kernel) (by decide +kernel), mgd 156 (by decide +kernel) rfl, rfl, by decide, by decide +kernel, by decide +kernel, by decide +kernel⟩
theorem mf_197 : mfact (yX7_crease, cX7_crease, 3, (some FieldType.int), 2, 7, 0, 0) := ⟨by decide +kernel, mgd 1268 (by decide +kernel) (by decide +kernel), mgd 156 (by decide +kernel) rfl, rfl, by decide, by decide +kernel, by decide +kernel, by decide +kernel⟩
theorem mf_198 : mfact (yX7_foldsAgain, cX7_foldsAgain, 3, (some FieldType.int), 1, 7, 0, 0) := ⟨by decide +kernel, mgd 1272 (by decide +kernel) (by decide +kernel), mgd 156 (by decide +kernel) rfl, rfl, by decide, by decide +kernel, by decide +kernel, by decide +kernel⟩
theorem mf_199 : mfact (yX7_wrongStrip, cX7_wrongStrip, 2, (some FieldType.int), 1, 7, 0, 0) := ⟨by decide +kernel, mgd 1276 (by decide +kernel) (by decide +kernel), mgd 156 (by decide +kernel) rfl, rfl, by decide, by decide +kernel, by decide +kernel, by decide +kernel⟩
theorem mf_200 : mfact (yX7_ordersOf, cX7_ordersOf, 3, (some FieldType.int), 1, 7, 0, 0) := ⟨by decide +kernel, mgd 1280 (by decide +kernel) (by decide +kernel), mgd 156 (by decide +kernel) rfl, rfl, by decide, by decide +kernel, by decide +kernel, by decide +kernel⟩
theorem mf_201 : mfact (yX7_gives, cX7_gives, 3, none, 1, 7, 0, 0) := ⟨by decide +kernel, mgd 1284 (by decide +kernel) (by decide +kernel), mgd 156 (by decide +kernel) rfl, rfl, by decide, by decide +kernel, by decide +kernel, by decide +kernel⟩
theorem mf_202 : mfact (yX7_isPossible, cX7_isPossible, 2, (some FieldType.boolean), 0, 7, 0, 0) := ⟨by decide +kernel, mgd 1288 (by decide +kernel) (by decide +kernel), mgd 156 (by decide +kernel) rfl, rfl, by decide, by decide +kernel, by decide +kernel, by decide +kernel⟩
theorem mf_203 : mfact (yX7_collides, cX7_collides, 4, (some FieldType.boolean), 1, 7, 0, 0) := ⟨by decide +kernel, mgd 1292 (by decide +kernel) (by decide +kernel), mgd 156 (by decide +kernel) rfl, rfl, by decide, by decide +kernel, by decide +kernel, by decide +kernel⟩
theorem mf_204 : mfact (yX7_reachesOver, cX7_reachesOver, 3, (some FieldType.boolean), 2, 7, 0, 0) := ⟨by decide +kernel, mgd 1296 (by decide +kernel) (by decide +kernel), mgd 156 (by decide +kernel) rfl, rfl, by decide, by decide +kernel, by decide +kernel, by decide +kernel⟩
theorem mf_205 : mfact (yX7_isBetween, cX7_isBetween, 5, (some FieldType.boolean), 2, 7, 0, 0) := ⟨by decide +kernel, mgd 1300 (by decide +kernel) (by decide +kernel), mgd 156 (by decide +kernel) rfl, rfl, by decide, by decide +kernel, by decide +kernel, by decide +kernel⟩
theorem mf_206 : mfact (yX7_isAbove, cX7_isAbove, 2, (some FieldType.boolean), 1, 7, 0, 0) := ⟨by decide +kernel, mgd 1304 (by decide +kernel) (by decide +kernel), mgd 156 (by decide +kernel) rfl, rfl, by decide, by decide +kernel, by decide +kernel, by decide +kernel⟩
theorem mf_207 : mfact (yX7_orders, cX7_orders, 3, (some FieldType.int), 1, 7, 0, 0) := ⟨by decide +kernel, mgd 1308 (by decide +kernel) (by decide +kernel), mgd 156 (by decide +kernel) rfl, rfl, by decide, by decide +kernel, by decide +kernel, by decide +kernel⟩
theorem mf_208 : mfact (yX7_layer, cX7_layer, 4, (some FieldType.int), 2, 7, 0, 0) := ⟨by decide +kernel, mgd 1312 (by decide +kernel) (by decide +kernel), mgd 156 (by decide +kernel) rfl, rfl, by decide, by decide +kernel, by decide +kernel, by decide +kernel⟩
theorem mf_209 : mfact (yX7_isStripWithout, cX7_isStripWithout, 4, (some FieldType.boolean), 3, 7, 0, 0) := ⟨by decide +kernel, mgd 1316 (by decide +kernel) (by decide +kernel), mgd 156 (by decide +kernel) rfl, rfl, by decide, by decide +kernel, by decide +kernel, by decide +kernel⟩
theorem mt_6_ok : ∀ q ∈ mt_6, mfact q := List.forall_mem_cons.mpr ⟨mf_180, List.forall_mem_cons.mpr ⟨mf_181, List.forall_mem_cons.mpr ⟨mf_182, List.forall_mem_cons.mpr ⟨mf_183, List.forall_mem_cons.mpr ⟨mf_184, List.forall_mem_cons.mpr ⟨mf_185, List.forall_mem_cons.mpr ⟨mf_186, List.forall_mem_cons.mpr ⟨mf_187, List.forall_mem_cons.mpr ⟨mf_188, List.forall_mem_cons.mpr ⟨mf_189, List.forall_mem_cons.mpr ⟨mf_190, List.forall_mem_cons.mpr ⟨mf_191, List.forall_mem_cons.mpr ⟨mf_192, List.forall_mem_cons.mpr ⟨mf_193, List.forall_mem_cons.mpr ⟨mf_194, List.forall_mem_cons.mpr ⟨mf_195, List.forall_mem_cons.mpr ⟨mf_196, List.forall_mem_cons.mpr ⟨mf_197, List.forall_mem_cons.mpr ⟨mf_198, List.forall_mem_cons.mpr ⟨mf_199, List.forall_mem_cons.mpr ⟨mf_200, List.forall_mem_cons.mpr ⟨mf_201, List.forall_mem_cons.mpr ⟨mf_202, List.forall_mem_cons.mpr ⟨mf_203, List.forall_mem_cons.mpr ⟨mf_204, List.forall_mem_cons.mpr ⟨mf_205, List.forall_mem_cons.mpr ⟨mf_206, List.forall_mem_cons.mpr ⟨mf_207, List.forall_mem_cons.mpr ⟨mf_208, List.forall_mem_cons.mpr ⟨mf_209, fun _ h => absurd h List.not_mem_nil⟩⟩⟩⟩⟩⟩⟩⟩⟩⟩⟩⟩⟩⟩⟩⟩⟩⟩⟩⟩⟩⟩⟩⟩⟩⟩⟩⟩⟩⟩
def mt_7 : List (MethodName × ByteArray × Nat × Option FieldType × Nat × Nat × Nat × Nat) := [(yX7_place, cX7_place, 3, (some FieldType.int), 2, 7, 0, 0),
  (yX7_thickest, cX7_thickest, 7, (some FieldType.int), 1, 7, 0, 0),
  (yX7_overAt, cX7_overAt, 7, (some FieldType.int), 2, 7, 0, 0),
  (yX7_reflected, cX7_reflected, 5, (some FieldType.int), 1, 7, 0, 0),
  (yX7_append, cX7_append, 2, (some FieldType.int), 1, 7, 0, 0),
  (yX7_read, cX7_read, 2, (some FieldType.int), 0, 7, 0, 0),
  (yX7_isText, cX7_isText, 2, (some FieldType.boolean), 0, 7, 0, 0),
  (yX7_readsCommand, cX7_readsCommand, 1, (some FieldType.boolean), 0, 7, 0, 0),
  (yX7_sign, cX7_sign, 1, (some FieldType.int), 0, 7, 0, 0),
  (yX7_readsSizes, cX7_readsSizes, 2, (some FieldType.boolean), 0, 7, 0, 0),
  (yX7_takes, cX7_takes, 3, (some FieldType.boolean), 1, 7, 0, 0),
  (yX7_readsSigns, cX7_readsSigns, 1, (some FieldType.boolean), 0, 7, 0, 0),
  (yX7_kindOf, cX7_kindOf, 1, (some FieldType.int), 1, 7, 0, 0),
  (yX7_digit, cX7_digit, 1, (some FieldType.int), 0, 7, 0, 0),
  (yX7_readsMark, cX7_readsMark, 1, (some FieldType.boolean), 0, 7, 0, 0),
  (yX7_doesAll, cX7_doesAll, 4, (some FieldType.int), 0, 7, 0, 0),
  (yX7_does, cX7_does, 1, (some FieldType.int), 0, 7, 0, 0),
  (yX7_addsSigned, cX7_addsSigned, 3, (some FieldType.int), 0, 7, 0, 0),
  (yX7_refusal, cX7_refusal, 2, (some FieldType.int), 1, 7, 0, 0),
  (yX7_account, cX7_account, 2, (some FieldType.int), 1, 7, 0, 0),
  (yX7_allOf, cX7_allOf, 4, (some FieldType.int), 1, 7, 0, 0),
  (yX7_panelsOfAll, cX7_panelsOfAll, 3, (some FieldType.int), 0, 7, 0, 0),
  (yX7_share, cX7_share, 1, (some FieldType.int), 0, 7, 0, 0),
  (yX7_undo, cX7_undo, 1, (some FieldType.int), 0, 7, 0, 0),
  (yX7_save, cX7_save, 1, (some FieldType.int), 0, 7, 0, 0),
  (yX7_restore, cX7_restore, 1, (some FieldType.int), 0, 7, 0, 0),
  (yJ9_floorMod_7cf53, cJ9_floorMod_7cf53, 3, (some FieldType.int), 2, 9, 0, 0),
  (yJxf58ca_floatToIntBits_5c35a, cJxf58ca_floatToIntBits_5c35a, 1, (some FieldType.int), 1, 10, 0, 0),
  (yJxf58ca_isNaN_12338, cJxf58ca_isNaN_12338, 1, (some FieldType.boolean), 1, 10, 0, 0)]
theorem mf_210 : mfact (yX7_place, cX7_place, 3, (some FieldType.int), 2, 7, 0, 0) := ⟨by decide +kernel, mgd 1320 (by decide +kernel) (by decide +kernel), mgd 156 (by decide +kernel) rfl, rfl, by decide, by decide +kernel, by decide +kernel, by decide +kernel⟩
theorem mf_211 : mfact (yX7_thickest, cX7_thickest, 7, (some FieldType.int), 1, 7, 0, 0) := ⟨by decide +kernel, mgd 1324 (by decide +kernel) (by decide +kernel), mgd 156 (by decide +kernel) rfl, rfl, by decide, by decide +kernel, by decide +kernel, by decide +kernel⟩
theorem mf_212 : mfact (yX7_overAt, cX7_overAt, 7, (some FieldType.int), 2, 7, 0, 0) := ⟨by decide +kernel, mgd 1328 (by decide +kernel) (by decide +kernel), mgd 156 (by decide +kernel) rfl, rfl, by decide, by decide +kernel, by decide +kernel, by decide +kernel⟩
theorem mf_213 : mfact (yX7_reflected, cX7_reflected, 5, (some FieldType.int), 1, 7, 0, 0) := ⟨by decide +kernel, mgd 1332 (by decide +kernel) (by decide +kernel), mgd 156 (by decide +kernel) rfl, rfl, by decide, by decide +kernel, by decide +kernel, by decide +kernel⟩
theorem mf_214 : mfact (yX7_append, cX7_append, 2, (some FieldType.int), 1, 7, 0, 0) := ⟨by decide +kernel, mgd 1336 (by decide +kernel) (by decide +kernel), mgd 156 (by decide +kernel) rfl, rfl, by decide, by decide +kernel, by decide +kernel, by decide +kernel⟩
theorem mf_215 : mfact (yX7_read, cX7_read, 2, (some FieldType.int), 0, 7, 0, 0) := ⟨by decide +kernel, mgd 1340 (by decide +kernel) (by decide +kernel), mgd 156 (by decide +kernel) rfl, rfl, by decide, by decide +kernel, by decide +kernel, by decide +kernel⟩
theorem mf_216 : mfact (yX7_isText, cX7_isText, 2, (some FieldType.boolean), 0, 7, 0, 0) := ⟨by decide +kernel, mgd 1344 (by decide +kernel) (by decide +kernel), mgd 156 (by decide +kernel) rfl, rfl, by decide, by decide +kernel, by decide +kernel, by decide +kernel⟩
theorem mf_217 : mfact (yX7_readsCommand, cX7_readsCommand, 1, (some FieldType.boolean), 0, 7, 0, 0) := ⟨by decide +kernel, mgd 1348 (by decide +kernel) (by decide +kernel), mgd 156 (by decide +kernel) rfl, rfl, by decide, by decide +kernel, by decide +kernel, by decide +kernel⟩
theorem mf_218 : mfact (yX7_sign, cX7_sign, 1, (some FieldType.int), 0, 7, 0, 0) := ⟨by decide +kernel, mgd 1352 (by decide +kernel) (by decide +kernel), mgd 156 (by decide +kernel) rfl, rfl, by decide, by decide +kernel, by decide +kernel, by decide +kernel⟩
theorem mf_219 : mfact (yX7_readsSizes, cX7_readsSizes, 2, (some FieldType.boolean), 0, 7, 0, 0) := ⟨by decide +kernel, mgd 1356 (by decide +kernel) (by decide +kernel), mgd 156 (by decide +kernel) rfl, rfl, by decide, by decide +kernel, by decide +kernel, by decide +kernel⟩
theorem mf_220 : mfact (yX7_takes, cX7_takes, 3, (some FieldType.boolean), 1, 7, 0, 0) := ⟨by decide +kernel, mgd 1360 (by decide +kernel) (by decide +kernel), mgd 156 (by decide +kernel) rfl, rfl, by decide, by decide +kernel, by decide +kernel, by decide +kernel⟩
theorem mf_221 : mfact (yX7_readsSigns, cX7_readsSigns, 1, (some FieldType.boolean), 0, 7, 0, 0) := ⟨by decide +kernel, mgd 1364 (by decide +kernel) (by decide +kernel), mgd 156 (by decide +kernel) rfl, rfl, by decide, by decide +kernel, by decide +kernel, by decide +kernel⟩
theorem mf_222 : mfact (yX7_kindOf, cX7_kindOf, 1, (some FieldType.int), 1, 7, 0, 0) := ⟨by decide +kernel, mgd 1367 (by decide +kernel) (by decide +kernel), mgd 156 (by decide +kernel) rfl, rfl, by decide, by decide +kernel, by decide +kernel, by decide +kernel⟩
theorem mf_223 : mfact (yX7_digit, cX7_digit, 1, (some FieldType.int), 0, 7, 0, 0) := ⟨by decide +kernel, mgd 1371 (by decide +kernel) (by decide +kernel), mgd 156 (by decide +kernel) rfl, rfl, by decide, by decide +kernel, by decide +kernel, by decide +kernel⟩
theorem mf_224 : mfact (yX7_readsMark, cX7_readsMark, 1, (some FieldType.boolean), 0, 7, 0, 0) := ⟨by decide +kernel, mgd 1375 (by decide +kernel) (by decide +kernel), mgd 156 (by decide +kernel) rfl, rfl, by decide, by decide +kernel, by decide +kernel, by decide +kernel⟩
theorem mf_225 : mfact (yX7_doesAll, cX7_doesAll, 4, (some FieldType.int), 0, 7, 0, 0) := ⟨by decide +kernel, mgd 1379 (by decide +kernel) (by decide +kernel), mgd 156 (by decide +kernel) rfl, rfl, by decide, by decide +kernel, by decide +kernel, by decide +kernel⟩
theorem mf_226 : mfact (yX7_does, cX7_does, 1, (some FieldType.int), 0, 7, 0, 0) := ⟨by decide +kernel, mgd 1383 (by decide +kernel) (by decide +kernel), mgd 156 (by decide +kernel) rfl, rfl, by decide, by decide +kernel, by decide +kernel, by decide +kernel⟩
theorem mf_227 : mfact (yX7_addsSigned, cX7_addsSigned, 3, (some FieldType.int), 0, 7, 0, 0) := ⟨by decide +kernel, mgd 1387 (by decide +kernel) (by decide +kernel), mgd 156 (by decide +kernel) rfl, rfl, by decide, by decide +kernel, by decide +kernel, by decide +kernel⟩
theorem mf_228 : mfact (yX7_refusal, cX7_refusal, 2, (some FieldType.int), 1, 7, 0, 0) := ⟨by decide +kernel, mgd 1391 (by decide +kernel) (by decide +kernel), mgd 156 (by decide +kernel) rfl, rfl, by decide, by decide +kernel, by decide +kernel, by decide +kernel⟩
theorem mf_229 : mfact (yX7_account, cX7_account, 2, (some FieldType.int), 1, 7, 0, 0) := ⟨by decide +kernel, mgd 1395 (by decide +kernel) (by decide +kernel), mgd 156 (by decide +kernel) rfl, rfl, by decide, by decide +kernel, by decide +kernel, by decide +kernel⟩
theorem mf_230 : mfact (yX7_allOf, cX7_allOf, 4, (some FieldType.int), 1, 7, 0, 0) := ⟨by decide +kernel, mgd 1399 (by decide +kernel) (by decide +kernel), mgd 156 (by decide +kernel) rfl, rfl, by decide, by decide +kernel, by decide +kernel, by decide +kernel⟩
theorem mf_231 : mfact (yX7_panelsOfAll, cX7_panelsOfAll, 3, (some FieldType.int), 0, 7, 0, 0) := ⟨by decide +kernel, mgd 1404 (by decide +kernel) (by decide +kernel), mgd 156 (by decide +kernel) rfl, rfl, by decide, by decide +kernel, by decide +kernel, by decide +kernel⟩
theorem mf_232 : mfact (yX7_share, cX7_share, 1, (some FieldType.int), 0, 7, 0, 0) := ⟨by decide +kernel, mgd 1408 (by decide +kernel) (by decide +kernel), mgd 156 (by decide +kernel) rfl, rfl, by decide, by decide +kernel, by decide +kernel, by decide +kernel⟩
theorem mf_233 : mfact (yX7_undo, cX7_undo, 1, (some FieldType.int), 0, 7, 0, 0) := ⟨by decide +kernel, mgd 1422 (by decide +kernel) (by decide +kernel), mgd 156 (by decide +kernel) rfl, rfl, by decide, by decide +kernel, by decide +kernel, by decide +kernel⟩
theorem mf_234 : mfact (yX7_save, cX7_save, 1, (some FieldType.int), 0, 7, 0, 0) := ⟨by decide +kernel, mgd 1426 (by decide +kernel) (by decide +kernel), mgd 156 (by decide +kernel) rfl, rfl, by decide, by decide +kernel, by decide +kernel, by decide +kernel⟩
theorem mf_235 : mfact (yX7_restore, cX7_restore, 1, (some FieldType.int), 0, 7, 0, 0) := ⟨by decide +kernel, mgd 1430 (by decide +kernel) (by decide +kernel), mgd 156 (by decide +kernel) rfl, rfl, by decide, by decide +kernel, by decide +kernel, by decide +kernel⟩
theorem mf_236 : mfact (yJ9_floorMod_7cf53, cJ9_floorMod_7cf53, 3, (some FieldType.int), 2, 9, 0, 0) := ⟨by decide +kernel, mgd 743 (by decide +kernel) (by decide +kernel), mgd 157 (by decide +kernel) rfl, rfl, by decide, by decide +kernel, by decide +kernel, by decide +kernel⟩
theorem mf_237 : mfact (yJxf58ca_floatToIntBits_5c35a, cJxf58ca_floatToIntBits_5c35a, 1, (some FieldType.int), 1, 10, 0, 0) := ⟨by decide +kernel, mgd 1411 (by decide +kernel) (by decide +kernel), mgd 158 (by decide +kernel) rfl, rfl, by decide, by decide +kernel, by decide +kernel, by decide +kernel⟩
theorem mf_238 : mfact (yJxf58ca_isNaN_12338, cJxf58ca_isNaN_12338, 1, (some FieldType.boolean), 1, 10, 0, 0) := ⟨by decide +kernel, mgd 1414 (by decide +kernel) (by decide +kernel), mgd 158 (by decide +kernel) rfl, rfl, by decide, by decide +kernel, by decide +kernel, by decide +kernel⟩
theorem mt_7_ok : ∀ q ∈ mt_7, mfact q := List.forall_mem_cons.mpr ⟨mf_210, List.forall_mem_cons.mpr ⟨mf_211, List.forall_mem_cons.mpr ⟨mf_212, List.forall_mem_cons.mpr ⟨mf_213, List.forall_mem_cons.mpr ⟨mf_214, List.forall_mem_cons.mpr ⟨mf_215, List.forall_mem_cons.mpr ⟨mf_216, List.forall_mem_cons.mpr ⟨mf_217, List.forall_mem_cons.mpr ⟨mf_218, List.forall_mem_cons.mpr ⟨mf_219, List.forall_mem_cons.mpr ⟨mf_220, List.forall_mem_cons.mpr ⟨mf_221, List.forall_mem_cons.mpr ⟨mf_222, List.forall_mem_cons.mpr ⟨mf_223, List.forall_mem_cons.mpr ⟨mf_224, List.forall_mem_cons.mpr ⟨mf_225, List.forall_mem_cons.mpr ⟨mf_226, List.forall_mem_cons.mpr ⟨mf_227, List.forall_mem_cons.mpr ⟨mf_228, List.forall_mem_cons.mpr ⟨mf_229, List.forall_mem_cons.mpr ⟨mf_230, List.forall_mem_cons.mpr ⟨mf_231, List.forall_mem_cons.mpr ⟨mf_232, List.forall_mem_cons.mpr ⟨mf_233, List.forall_mem_cons.mpr ⟨mf_234, List.forall_mem_cons.mpr ⟨mf_235, List.forall_mem_cons.mpr ⟨mf_236, List.forall_mem_cons.mpr ⟨mf_237, List.forall_mem_cons.mpr ⟨mf_238, fun _ h => absurd h List.not_mem_nil⟩⟩⟩⟩⟩⟩⟩⟩⟩⟩⟩⟩⟩⟩⟩⟩⟩⟩⟩⟩⟩⟩⟩⟩⟩⟩⟩⟩⟩
def mtL : List (MethodName × ByteArray × Nat × Option FieldType × Nat × Nat × Nat × Nat) := mt_0 ++ (mt_1 ++ (mt_2 ++ (mt_3 ++ (mt_4 ++ (mt_5 ++ (mt_6 ++ (mt_7)))))))
theorem mall {α : Type} {p : α → Prop} {a b : List α} (ha : ∀ q ∈ a, p q) (hb : ∀ q ∈ b, p q) : ∀ q ∈ a ++ b, p q := fun q h => (List.mem_append.mp h).elim (ha q) (hb q)
theorem mtL_ok : ∀ q ∈ mtL, mfact q := mall mt_0_ok (mall mt_1_ok (mall mt_2_ok (mall mt_3_ok (mall mt_4_ok (mall mt_5_ok (mall mt_6_ok (mt_7_ok)))))))
theorem mobj : Cond.instanceMethod objectInit ∈ lw_good ∧ Cond.code objectInit ⟨#[0xb1]⟩ 1 none ∈ lw_good := ⟨mgd 165 (by decide +kernel) rfl, mgd 166 (by decide +kernel) rfl⟩
theorem mmath_max : Cond.static Lib.Math.max.name ∈ lw_good ∧ Cond.initialized "java/lang/Math" ∈ lw_good ∧ Cond.code Lib.Math.max.name Lib.Math.max.code 2 (some .int) ∈ lw_good := ⟨mgd 393 (by decide +kernel) rfl, mgd 157 (by decide +kernel) rfl, mgd 394 (by decide +kernel) (by decide +kernel)⟩
theorem mmath_min : Cond.static Lib.Math.min.name ∈ lw_good ∧ Cond.initialized "java/lang/Math" ∈ lw_good ∧ Cond.code Lib.Math.min.name Lib.Math.min.code 2 (some .int) ∈ lw_good := ⟨mgd 400 (by decide +kernel) rfl, mgd 157 (by decide +kernel) rfl, mgd 401 (by decide +kernel) (by decide +kernel)⟩
theorem mmath_abs : Cond.static Lib.Math.abs.name ∈ lw_good ∧ Cond.initialized "java/lang/Math" ∈ lw_good ∧ Cond.code Lib.Math.abs.name Lib.Math.abs.code 1 (some .int) ∈ lw_good := ⟨mgd 551 (by decide +kernel) rfl, mgd 157 (by decide +kernel) rfl, mgd 552 (by decide +kernel) (by decide +kernel)⟩
theorem mnat : Cond.native ⟨"java/lang/Float", "floatToRawIntBits", "(F)I"⟩ ∈ lw_good ∧ Cond.static ⟨"java/lang/Float", "floatToRawIntBits", "(F)I"⟩ ∈ lw_good ∧ Cond.initialized "java/lang/Float" ∈ lw_good := ⟨mgd 1417 (by decide +kernel) rfl, mgd 1416 (by decide +kernel) rfl, mgd 158 (by decide +kernel) rfl⟩
def mldcIL : List (Nat × Nat × Int32) := [(1, 29, 1000000), (6, 209, 1000000), (10, 77, 2143289344)]
theorem mldcI_1_29 : Cond.constant (cN 1) 29 1000000 ∈ lw_good := mgd 631 (by decide +kernel) rfl
theorem mldcI_6_209 : Cond.constant (cN 6) 209 1000000 ∈ lw_good := mgd 712 (by decide +kernel) rfl
theorem mldcI_10_77 : Cond.constant (cN 10) 77 2143289344 ∈ lw_good := mgd 1418 (by decide +kernel) rfl
theorem mldcIL_ok : ∀ q ∈ mldcIL, Cond.constant (cN q.1) q.2.1 q.2.2 ∈ lw_good := List.forall_mem_cons.mpr ⟨mldcI_1_29, List.forall_mem_cons.mpr ⟨mldcI_6_209, List.forall_mem_cons.mpr ⟨mldcI_10_77, fun _ h => absurd h List.not_mem_nil⟩⟩⟩
def mldcI (o i : Nat) : Option Int32 := (mldcIL.find? (fun q => q.1 == o && q.2.1 == i)).map (fun q => q.2.2)
theorem mldcI_ok {o i : Nat} {v : Int32} (h : mldcI o i = some v) : Cond.constant (cN o) i v ∈ lw_good := by
  unfold mldcI at h
  cases hf : mldcIL.find? (fun q => q.1 == o && q.2.1 == i) with
  | none => rw [hf] at h; cases h
  | some q =>
    rw [hf] at h
    have h1 := List.find?_some hf
    have h2 := mldcIL_ok q (List.mem_of_find?_eq_some hf)
    obtain ⟨o', i', c'⟩ := q
    simp only [Option.map_some, Option.some.injEq] at h
    simp only [Bool.and_eq_true, beq_iff_eq] at h1
    obtain ⟨rfl, rfl⟩ := h1
    subst h
    exact h2
def mldcFL : List (Nat × Nat × UInt32) := [(6, 312, 1258291200)]
theorem mldcF_6_312 : Cond.constantFloat (cN 6) 312 1258291200 ∈ lw_good := mgd 856 (by decide +kernel) rfl
theorem mldcFL_ok : ∀ q ∈ mldcFL, Cond.constantFloat (cN q.1) q.2.1 q.2.2 ∈ lw_good := List.forall_mem_cons.mpr ⟨mldcF_6_312, fun _ h => absurd h List.not_mem_nil⟩
def mldcF (o i : Nat) : Option UInt32 := (mldcFL.find? (fun q => q.1 == o && q.2.1 == i)).map (fun q => q.2.2)
theorem mldcF_ok {o i : Nat} {v : UInt32} (h : mldcF o i = some v) : Cond.constantFloat (cN o) i v ∈ lw_good := by
  unfold mldcF at h
  cases hf : mldcFL.find? (fun q => q.1 == o && q.2.1 == i) with
  | none => rw [hf] at h; cases h
  | some q =>
    rw [hf] at h
    have h1 := List.find?_some hf
    have h2 := mldcFL_ok q (List.mem_of_find?_eq_some hf)
    obtain ⟨o', i', c'⟩ := q
    simp only [Option.map_some, Option.some.injEq] at h
    simp only [Bool.and_eq_true, beq_iff_eq] at h1
    obtain ⟨rfl, rfl⟩ := h1
    subst h
    exact h2
def mlink (o i : Nat) (y : MethodName) (nest : Bool) : Prop := (nest = true → ∃ host, Cond.methodLinkNest (cN o) i y host ∈ lw_nests) ∧ (nest = false → Cond.methodLink (cN o) i y ∈ lw_good)
/-- kinds: 0 virtual, 1 of a nest mate, 2 static, 3 static of a nest mate, 4 a constructor, 5 of a nest mate, 6 Object's -/
def cfact (o i kd k : Nat) : Prop := match kd with
  | 6 => Cond.methodLink (cN o) i objectInit ∈ lw_good
  | 7 => Cond.methodLink (cN o) i Lib.Math.max.name ∈ lw_good
  | 8 => Cond.methodLink (cN o) i Lib.Math.min.name ∈ lw_good
  | 9 => Cond.methodLink (cN o) i Lib.Math.abs.name ∈ lw_good
  | 10 => Cond.methodLink (cN o) i ⟨"java/lang/Float", "floatToRawIntBits", "(F)I"⟩ ∈ lw_good
  | _ => ∃ q, mtL[k]? = some q ∧ mlink o i q.1 (kd % 2 == 1) ∧ (kd < 2 → Cond.instanceMethod q.1 ∈ lw_good ∧ Cond.selects q.1.cls q.1 q.1 ∈ lw_good) ∧ (kd = 2 ∨ kd = 3 → Cond.static q.1 ∈ lw_good) ∧ (kd = 4 ∨ kd = 5 → Cond.instanceMethod q.1 ∈ lw_good ∧ q.1.name = "<init>") ∧ kd < 6
def cal0 : List (Nat × Nat × Nat) := [(3, 6, 0), (17, 5, 1), (22, 0, 16), (30, 1, 17), (37, 8, 0)]
theorem ca_0_3 : cfact 0 3 6 0 := mgd 232 (by decide +kernel) rfl
theorem ca_0_17 : cfact 0 17 5 1 := ⟨(yX5_init, cX5_init, 2, none, 0, 5, 25, 176), rfl, ⟨fun _ => ⟨RX6, mns 235 (by decide +kernel) rfl⟩, fun h => by cases h⟩, fun h => absurd h (by decide), fun h => absurd h (by decide), fun _ => ⟨mgd 170 (by decide +kernel) rfl, rfl⟩, by decide⟩
theorem ca_0_22 : cfact 0 22 0 16 := ⟨(yX0_stateAt, cX0_stateAt, 2, (some (FieldType.object "FoldedTheatre$State")), 1, 0, 0, 0), rfl, ⟨fun h => (by cases h), fun _ => mgd 410 (by decide +kernel) rfl⟩, fun _ => ⟨mgd 412 (by decide +kernel) rfl, mgd 7 (by decide +kernel) rfl⟩, fun h => absurd h (by decide), fun h => absurd h (by decide), by decide⟩
theorem ca_0_30 : cfact 0 30 1 17 := ⟨(yX5_copyFrom, cX5_copyFrom, 5, none, 1, 5, 0, 0), rfl, ⟨fun _ => ⟨RX6, mns 414 (by decide +kernel) rfl⟩, fun h => by cases h⟩, fun _ => ⟨mgd 416 (by decide +kernel) rfl, mgd 8 (by decide +kernel) rfl⟩, fun h => absurd h (by decide), fun h => absurd h (by decide), by decide⟩
theorem ca_0_37 : cfact 0 37 8 0 := mgd 425 (by decide +kernel) rfl
theorem cal0_ok : ∀ q ∈ cal0, cfact 0 q.1 q.2.1 q.2.2 := List.forall_mem_cons.mpr ⟨ca_0_3, List.forall_mem_cons.mpr ⟨ca_0_17, List.forall_mem_cons.mpr ⟨ca_0_22, List.forall_mem_cons.mpr ⟨ca_0_30, List.forall_mem_cons.mpr ⟨ca_0_37, fun _ h => absurd h List.not_mem_nil⟩⟩⟩⟩⟩
def cal1 : List (Nat × Nat × Nat) := [(3, 6, 0), (21, 0, 65), (25, 3, 22), (34, 0, 66), (38, 0, 69), (45, 8, 0), (52, 3, 19), (56, 1, 13), (59, 3, 12), (63, 0, 67), (67, 0, 68), (70, 0, 70), (74, 0, 72), (77, 7, 0), (80, 0, 71)]
theorem ca_1_3 : cfact 1 3 6 0 := mgd 312 (by decide +kernel) rfl
theorem ca_1_21 : cfact 1 21 0 65 := ⟨(yX1_load, cX1_load, 3, none, 1, 1, 0, 0), rfl, ⟨fun h => (by cases h), fun _ => mgd 623 (by decide +kernel) rfl⟩, fun _ => ⟨mgd 625 (by decide +kernel) rfl, mgd 37 (by decide +kernel) rfl⟩, fun h => absurd h (by decide), fun h => absurd h (by decide), by decide⟩
theorem ca_1_25 : cfact 1 25 3 22 := ⟨(yX6_put, cX6_put, 3, none, 3, 6, 0, 0), rfl, ⟨fun _ => ⟨RX6, mns 630 (by decide +kernel) rfl⟩, fun h => by cases h⟩, fun h => absurd h (by decide), fun _ => mgd 435 (by decide +kernel) rfl, fun h => absurd h (by decide), by decide⟩
theorem ca_1_34 : cfact 1 34 0 66 := ⟨(yX1_nextLayer, cX1_nextLayer, 3, (some FieldType.int), 1, 1, 0, 0), rfl, ⟨fun h => (by cases h), fun _ => mgd 632 (by decide +kernel) rfl⟩, fun _ => ⟨mgd 634 (by decide +kernel) rfl, mgd 38 (by decide +kernel) rfl⟩, fun h => absurd h (by decide), fun h => absurd h (by decide), by decide⟩
theorem ca_1_38 : cfact 1 38 0 69 := ⟨(yX1_layersCollide, cX1_layersCollide, 2, (some FieldType.boolean), 0, 1, 0, 0), rfl, ⟨fun h => (by cases h), fun _ => mgd 645 (by decide +kernel) rfl⟩, fun _ => ⟨mgd 647 (by decide +kernel) rfl, mgd 41 (by decide +kernel) rfl⟩, fun h => absurd h (by decide), fun h => absurd h (by decide), by decide⟩
theorem ca_1_45 : cfact 1 45 8 0 := mgd 627 (by decide +kernel) rfl
theorem ca_1_52 : cfact 1 52 3 19 := ⟨(yX6_copyRow, cX6_copyRow, 3, none, 2, 6, 0, 0), rfl, ⟨fun _ => ⟨RX6, mns 628 (by decide +kernel) rfl⟩, fun h => by cases h⟩, fun h => absurd h (by decide), fun _ => mgd 423 (by decide +kernel) rfl, fun h => absurd h (by decide), by decide⟩
theorem ca_1_56 : cfact 1 56 1 13 := ⟨(yX2_placeOf, cX2_placeOf, 4, (some FieldType.int), 1, 2, 0, 0), rfl, ⟨fun _ => ⟨RX6, mns 629 (by decide +kernel) rfl⟩, fun h => by cases h⟩, fun _ => ⟨mgd 397 (by decide +kernel) rfl, mgd 4 (by decide +kernel) rfl⟩, fun h => absurd h (by decide), fun h => absurd h (by decide), by decide⟩
theorem ca_1_59 : cfact 1 59 3 12 := ⟨(yX6_at, cX6_at, 2, (some FieldType.int), 2, 6, 0, 0), rfl, ⟨fun _ => ⟨RX6, mns 636 (by decide +kernel) rfl⟩, fun h => by cases h⟩, fun h => absurd h (by decide), fun _ => mgd 390 (by decide +kernel) rfl, fun h => absurd h (by decide), by decide⟩
theorem ca_1_63 : cfact 1 63 0 67 := ⟨(yX1_isFree, cX1_isFree, 4, (some FieldType.boolean), 2, 1, 0, 0), rfl, ⟨fun h => (by cases h), fun _ => mgd 637 (by decide +kernel) rfl⟩, fun _ => ⟨mgd 639 (by decide +kernel) rfl, mgd 39 (by decide +kernel) rfl⟩, fun h => absurd h (by decide), fun h => absurd h (by decide), by decide⟩
theorem ca_1_67 : cfact 1 67 0 68 := ⟨(yX1_isAsCreased, cX1_isAsCreased, 6, (some FieldType.boolean), 2, 1, 0, 0), rfl, ⟨fun h => (by cases h), fun _ => mgd 641 (by decide +kernel) rfl⟩, fun _ => ⟨mgd 643 (by decide +kernel) rfl, mgd 40 (by decide +kernel) rfl⟩, fun h => absurd h (by decide), fun h => absurd h (by decide), by decide⟩
theorem ca_1_70 : cfact 1 70 0 70 := ⟨(yX1_isPierced, cX1_isPierced, 6, (some FieldType.boolean), 1, 1, 0, 0), rfl, ⟨fun h => (by cases h), fun _ => mgd 649 (by decide +kernel) rfl⟩, fun _ => ⟨mgd 651 (by decide +kernel) rfl, mgd 42 (by decide +kernel) rfl⟩, fun h => absurd h (by decide), fun h => absurd h (by decide), by decide⟩
theorem ca_1_74 : cfact 1 74 0 72 := ⟨(yX1_isCrossed, cX1_isCrossed, 4, (some FieldType.boolean), 1, 1, 0, 0), rfl, ⟨fun h => (by cases h), fun _ => mgd 658 (by decide +kernel) rfl⟩, fun _ => ⟨mgd 660 (by decide +kernel) rfl, mgd 44 (by decide +kernel) rfl⟩, fun h => absurd h (by decide), fun h => absurd h (by decide), by decide⟩
theorem ca_1_77 : cfact 1 77 7 0 := mgd 653 (by decide +kernel) rfl
theorem ca_1_80 : cfact 1 80 0 71 := ⟨(yX1_isBetween, cX1_isBetween, 6, (some FieldType.boolean), 2, 1, 0, 0), rfl, ⟨fun h => (by cases h), fun _ => mgd 654 (by decide +kernel) rfl⟩, fun _ => ⟨mgd 656 (by decide +kernel) rfl, mgd 43 (by decide +kernel) rfl⟩, fun h => absurd h (by decide), fun h => absurd h (by decide), by decide⟩
theorem cal1_ok : ∀ q ∈ cal1, cfact 1 q.1 q.2.1 q.2.2 := List.forall_mem_cons.mpr ⟨ca_1_3, List.forall_mem_cons.mpr ⟨ca_1_21, List.forall_mem_cons.mpr ⟨ca_1_25, List.forall_mem_cons.mpr ⟨ca_1_34, List.forall_mem_cons.mpr ⟨ca_1_38, List.forall_mem_cons.mpr ⟨ca_1_45, List.forall_mem_cons.mpr ⟨ca_1_52, List.forall_mem_cons.mpr ⟨ca_1_56, List.forall_mem_cons.mpr ⟨ca_1_59, List.forall_mem_cons.mpr ⟨ca_1_63, List.forall_mem_cons.mpr ⟨ca_1_67, List.forall_mem_cons.mpr ⟨ca_1_70, List.forall_mem_cons.mpr ⟨ca_1_74, List.forall_mem_cons.mpr ⟨ca_1_77, List.forall_mem_cons.mpr ⟨ca_1_80, fun _ h => absurd h List.not_mem_nil⟩⟩⟩⟩⟩⟩⟩⟩⟩⟩⟩⟩⟩⟩⟩
def cal2 : List (Nat × Nat × Nat) := [(3, 6, 0), (29, 3, 22), (33, 0, 23), (37, 0, 25), (40, 3, 26), (44, 3, 19), (48, 3, 12), (52, 0, 32), (56, 0, 13), (59, 8, 0), (65, 7, 0), (68, 0, 11), (71, 0, 87), (74, 0, 88), (77, 0, 89), (80, 2, 236)]
theorem ca_2_3 : cfact 2 3 6 0 := mgd 179 (by decide +kernel) rfl
theorem ca_2_29 : cfact 2 29 3 22 := ⟨(yX6_put, cX6_put, 3, none, 3, 6, 0, 0), rfl, ⟨fun _ => ⟨RX6, mns 434 (by decide +kernel) rfl⟩, fun h => by cases h⟩, fun h => absurd h (by decide), fun _ => mgd 435 (by decide +kernel) rfl, fun h => absurd h (by decide), by decide⟩
theorem ca_2_33 : cfact 2 33 0 23 := ⟨(yX2_sum, cX2_sum, 3, (some FieldType.int), 0, 2, 0, 0), rfl, ⟨fun h => (by cases h), fun _ => mgd 437 (by decide +kernel) rfl⟩, fun _ => ⟨mgd 439 (by decide +kernel) rfl, mgd 11 (by decide +kernel) rfl⟩, fun h => absurd h (by decide), fun h => absurd h (by decide), by decide⟩
theorem ca_2_37 : cfact 2 37 0 25 := ⟨(yX2_creaseCount, cX2_creaseCount, 1, (some FieldType.int), 0, 2, 0, 0), rfl, ⟨fun h => (by cases h), fun _ => mgd 445 (by decide +kernel) rfl⟩, fun _ => ⟨mgd 447 (by decide +kernel) rfl, mgd 13 (by decide +kernel) rfl⟩, fun h => absurd h (by decide), fun h => absurd h (by decide), by decide⟩
theorem ca_2_40 : cfact 2 40 3 26 := ⟨(yX6_isCreaseKind, cX6_isCreaseKind, 1, (some FieldType.boolean), 1, 6, 0, 0), rfl, ⟨fun _ => ⟨RX6, mns 449 (by decide +kernel) rfl⟩, fun h => by cases h⟩, fun h => absurd h (by decide), fun _ => mgd 450 (by decide +kernel) rfl, fun h => absurd h (by decide), by decide⟩
theorem ca_2_44 : cfact 2 44 3 19 := ⟨(yX6_copyRow, cX6_copyRow, 3, none, 2, 6, 0, 0), rfl, ⟨fun _ => ⟨RX6, mns 422 (by decide +kernel) rfl⟩, fun h => by cases h⟩, fun h => absurd h (by decide), fun _ => mgd 423 (by decide +kernel) rfl, fun h => absurd h (by decide), by decide⟩
theorem ca_2_48 : cfact 2 48 3 12 := ⟨(yX6_at, cX6_at, 2, (some FieldType.int), 2, 6, 0, 0), rfl, ⟨fun _ => ⟨RX6, mns 389 (by decide +kernel) rfl⟩, fun h => by cases h⟩, fun h => absurd h (by decide), fun _ => mgd 390 (by decide +kernel) rfl, fun h => absurd h (by decide), by decide⟩
theorem ca_2_52 : cfact 2 52 0 32 := ⟨(yX2_countOf, cX2_countOf, 4, (some FieldType.int), 1, 2, 0, 0), rfl, ⟨fun h => (by cases h), fun _ => mgd 523 (by decide +kernel) rfl⟩, fun _ => ⟨mgd 479 (by decide +kernel) rfl, mgd 17 (by decide +kernel) rfl⟩, fun h => absurd h (by decide), fun h => absurd h (by decide), by decide⟩
theorem ca_2_56 : cfact 2 56 0 13 := ⟨(yX2_placeOf, cX2_placeOf, 4, (some FieldType.int), 1, 2, 0, 0), rfl, ⟨fun h => (by cases h), fun _ => mgd 395 (by decide +kernel) rfl⟩, fun _ => ⟨mgd 397 (by decide +kernel) rfl, mgd 4 (by decide +kernel) rfl⟩, fun h => absurd h (by decide), fun h => absurd h (by decide), by decide⟩
theorem ca_2_59 : cfact 2 59 8 0 := mgd 399 (by decide +kernel) rfl
theorem ca_2_65 : cfact 2 65 7 0 := mgd 392 (by decide +kernel) rfl
theorem ca_2_68 : cfact 2 68 0 11 := ⟨(yX2_greatestSize, cX2_greatestSize, 3, (some FieldType.int), 0, 2, 0, 0), rfl, ⟨fun h => (by cases h), fun _ => mgd 385 (by decide +kernel) rfl⟩, fun _ => ⟨mgd 387 (by decide +kernel) rfl, mgd 3 (by decide +kernel) rfl⟩, fun h => absurd h (by decide), fun h => absurd h (by decide), by decide⟩
theorem ca_2_71 : cfact 2 71 0 87 := ⟨(yX2_leftEndOf, cX2_leftEndOf, 2, (some FieldType.int), 1, 2, 0, 0), rfl, ⟨fun h => (by cases h), fun _ => mgd 721 (by decide +kernel) rfl⟩, fun _ => ⟨mgd 723 (by decide +kernel) rfl, mgd 49 (by decide +kernel) rfl⟩, fun h => absurd h (by decide), fun h => absurd h (by decide), by decide⟩
theorem ca_2_74 : cfact 2 74 0 88 := ⟨(yX2_panelsBehind, cX2_panelsBehind, 4, (some FieldType.int), 1, 2, 0, 0), rfl, ⟨fun h => (by cases h), fun _ => mgd 725 (by decide +kernel) rfl⟩, fun _ => ⟨mgd 727 (by decide +kernel) rfl, mgd 50 (by decide +kernel) rfl⟩, fun h => absurd h (by decide), fun h => absurd h (by decide), by decide⟩
theorem ca_2_77 : cfact 2 77 0 89 := ⟨(yX2_rightEndOf, cX2_rightEndOf, 2, (some FieldType.int), 1, 2, 0, 0), rfl, ⟨fun h => (by cases h), fun _ => mgd 729 (by decide +kernel) rfl⟩, fun _ => ⟨mgd 731 (by decide +kernel) rfl, mgd 51 (by decide +kernel) rfl⟩, fun h => absurd h (by decide), fun h => absurd h (by decide), by decide⟩
theorem ca_2_80 : cfact 2 80 2 236 := ⟨(yJ9_floorMod_7cf53, cJ9_floorMod_7cf53, 3, (some FieldType.int), 2, 9, 0, 0), rfl, ⟨fun h => (by cases h), fun _ => mgd 741 (by decide +kernel) rfl⟩, fun h => absurd h (by decide), fun _ => mgd 742 (by decide +kernel) rfl, fun h => absurd h (by decide), by decide⟩
theorem cal2_ok : ∀ q ∈ cal2, cfact 2 q.1 q.2.1 q.2.2 := List.forall_mem_cons.mpr ⟨ca_2_3, List.forall_mem_cons.mpr ⟨ca_2_29, List.forall_mem_cons.mpr ⟨ca_2_33, List.forall_mem_cons.mpr ⟨ca_2_37, List.forall_mem_cons.mpr ⟨ca_2_40, List.forall_mem_cons.mpr ⟨ca_2_44, List.forall_mem_cons.mpr ⟨ca_2_48, List.forall_mem_cons.mpr ⟨ca_2_52, List.forall_mem_cons.mpr ⟨ca_2_56, List.forall_mem_cons.mpr ⟨ca_2_59, List.forall_mem_cons.mpr ⟨ca_2_65, List.forall_mem_cons.mpr ⟨ca_2_68, List.forall_mem_cons.mpr ⟨ca_2_71, List.forall_mem_cons.mpr ⟨ca_2_74, List.forall_mem_cons.mpr ⟨ca_2_77, List.forall_mem_cons.mpr ⟨ca_2_80, fun _ h => absurd h List.not_mem_nil⟩⟩⟩⟩⟩⟩⟩⟩⟩⟩⟩⟩⟩⟩⟩⟩
def cal3 : List (Nat × Nat × Nat) := [(3, 6, 0), (30, 3, 19), (34, 1, 25), (39, 3, 12), (43, 0, 46), (47, 3, 22), (51, 1, 42), (55, 0, 45), (59, 0, 47), (62, 1, 32), (66, 9, 0), (71, 0, 48), (74, 0, 51), (77, 0, 55), (80, 0, 49), (83, 0, 50), (86, 2, 77), (90, 0, 79), (94, 2, 78), (98, 0, 52), (101, 0, 53), (105, 3, 54), (109, 7, 0), (112, 8, 0)]
theorem ca_3_3 : cfact 3 3 6 0 := mgd 293 (by decide +kernel) rfl
theorem ca_3_30 : cfact 3 30 3 19 := ⟨(yX6_copyRow, cX6_copyRow, 3, none, 2, 6, 0, 0), rfl, ⟨fun _ => ⟨RX6, mns 537 (by decide +kernel) rfl⟩, fun h => by cases h⟩, fun h => absurd h (by decide), fun _ => mgd 423 (by decide +kernel) rfl, fun h => absurd h (by decide), by decide⟩
theorem ca_3_34 : cfact 3 34 1 25 := ⟨(yX2_creaseCount, cX2_creaseCount, 1, (some FieldType.int), 0, 2, 0, 0), rfl, ⟨fun _ => ⟨RX6, mns 538 (by decide +kernel) rfl⟩, fun h => by cases h⟩, fun _ => ⟨mgd 447 (by decide +kernel) rfl, mgd 13 (by decide +kernel) rfl⟩, fun h => absurd h (by decide), fun h => absurd h (by decide), by decide⟩
theorem ca_3_39 : cfact 3 39 3 12 := ⟨(yX6_at, cX6_at, 2, (some FieldType.int), 2, 6, 0, 0), rfl, ⟨fun _ => ⟨RX6, mns 539 (by decide +kernel) rfl⟩, fun h => by cases h⟩, fun h => absurd h (by decide), fun _ => mgd 390 (by decide +kernel) rfl, fun h => absurd h (by decide), by decide⟩
theorem ca_3_43 : cfact 3 43 0 46 := ⟨(yX3_putCrease, cX3_putCrease, 3, none, 2, 3, 0, 0), rfl, ⟨fun h => (by cases h), fun _ => mgd 540 (by decide +kernel) rfl⟩, fun _ => ⟨mgd 542 (by decide +kernel) rfl, mgd 27 (by decide +kernel) rfl⟩, fun h => absurd h (by decide), fun h => absurd h (by decide), by decide⟩
theorem ca_3_47 : cfact 3 47 3 22 := ⟨(yX6_put, cX6_put, 3, none, 3, 6, 0, 0), rfl, ⟨fun _ => ⟨RX6, mns 544 (by decide +kernel) rfl⟩, fun h => by cases h⟩, fun h => absurd h (by decide), fun _ => mgd 435 (by decide +kernel) rfl, fun h => absurd h (by decide), by decide⟩
theorem ca_3_51 : cfact 3 51 1 42 := ⟨(yX2_isUndecided, cX2_isUndecided, 1, (some FieldType.boolean), 0, 2, 0, 0), rfl, ⟨fun _ => ⟨RX6, mns 532 (by decide +kernel) rfl⟩, fun h => by cases h⟩, fun _ => ⟨mgd 521 (by decide +kernel) rfl, mgd 23 (by decide +kernel) rfl⟩, fun h => absurd h (by decide), fun h => absurd h (by decide), by decide⟩
theorem ca_3_55 : cfact 3 55 0 45 := ⟨(yX3_load, cX3_load, 3, none, 1, 3, 0, 0), rfl, ⟨fun h => (by cases h), fun _ => mgd 533 (by decide +kernel) rfl⟩, fun _ => ⟨mgd 535 (by decide +kernel) rfl, mgd 26 (by decide +kernel) rfl⟩, fun h => absurd h (by decide), fun h => absurd h (by decide), by decide⟩
theorem ca_3_59 : cfact 3 59 0 47 := ⟨(yX3_evenAngles, cX3_evenAngles, 3, (some FieldType.int), 0, 3, 0, 0), rfl, ⟨fun h => (by cases h), fun _ => mgd 545 (by decide +kernel) rfl⟩, fun _ => ⟨mgd 547 (by decide +kernel) rfl, mgd 28 (by decide +kernel) rfl⟩, fun h => absurd h (by decide), fun h => absurd h (by decide), by decide⟩
theorem ca_3_62 : cfact 3 62 1 32 := ⟨(yX2_countOf, cX2_countOf, 4, (some FieldType.int), 1, 2, 0, 0), rfl, ⟨fun _ => ⟨RX6, mns 549 (by decide +kernel) rfl⟩, fun h => by cases h⟩, fun _ => ⟨mgd 479 (by decide +kernel) rfl, mgd 17 (by decide +kernel) rfl⟩, fun h => absurd h (by decide), fun h => absurd h (by decide), by decide⟩
theorem ca_3_66 : cfact 3 66 9 0 := mgd 550 (by decide +kernel) rfl
theorem ca_3_71 : cfact 3 71 0 48 := ⟨(yX3_hasSmallAngleOfOneKind, cX3_hasSmallAngleOfOneKind, 4, (some FieldType.boolean), 0, 3, 0, 0), rfl, ⟨fun h => (by cases h), fun _ => mgd 553 (by decide +kernel) rfl⟩, fun _ => ⟨mgd 555 (by decide +kernel) rfl, mgd 29 (by decide +kernel) rfl⟩, fun h => absurd h (by decide), fun h => absurd h (by decide), by decide⟩
theorem ca_3_74 : cfact 3 74 0 51 := ⟨(yX3_reduce, cX3_reduce, 3, (some FieldType.int), 0, 3, 0, 0), rfl, ⟨fun h => (by cases h), fun _ => mgd 565 (by decide +kernel) rfl⟩, fun _ => ⟨mgd 567 (by decide +kernel) rfl, mgd 32 (by decide +kernel) rfl⟩, fun h => absurd h (by decide), fun h => absurd h (by decide), by decide⟩
theorem ca_3_77 : cfact 3 77 0 55 := ⟨(yX3_isReduced, cX3_isReduced, 1, (some FieldType.boolean), 0, 3, 0, 0), rfl, ⟨fun h => (by cases h), fun _ => mgd 582 (by decide +kernel) rfl⟩, fun _ => ⟨mgd 584 (by decide +kernel) rfl, mgd 35 (by decide +kernel) rfl⟩, fun h => absurd h (by decide), fun h => absurd h (by decide), by decide⟩
theorem ca_3_80 : cfact 3 80 0 49 := ⟨(yX3_before, cX3_before, 2, (some FieldType.int), 1, 3, 0, 0), rfl, ⟨fun h => (by cases h), fun _ => mgd 557 (by decide +kernel) rfl⟩, fun _ => ⟨mgd 559 (by decide +kernel) rfl, mgd 30 (by decide +kernel) rfl⟩, fun h => absurd h (by decide), fun h => absurd h (by decide), by decide⟩
theorem ca_3_83 : cfact 3 83 0 50 := ⟨(yX3_after, cX3_after, 2, (some FieldType.int), 1, 3, 0, 0), rfl, ⟨fun h => (by cases h), fun _ => mgd 561 (by decide +kernel) rfl⟩, fun _ => ⟨mgd 563 (by decide +kernel) rfl, mgd 31 (by decide +kernel) rfl⟩, fun h => absurd h (by decide), fun h => absurd h (by decide), by decide⟩
theorem ca_3_86 : cfact 3 86 2 77 := ⟨(yX3_changesTo, cX3_changesTo, 5, (some FieldType.int), 2, 3, 0, 0), rfl, ⟨fun h => (by cases h), fun _ => mgd 681 (by decide +kernel) rfl⟩, fun h => absurd h (by decide), fun _ => mgd 682 (by decide +kernel) rfl, fun h => absurd h (by decide), by decide⟩
theorem ca_3_90 : cfact 3 90 0 79 := ⟨(yX3_foldsWith, cX3_foldsWith, 4, (some FieldType.boolean), 2, 3, 0, 0), rfl, ⟨fun h => (by cases h), fun _ => mgd 687 (by decide +kernel) rfl⟩, fun _ => ⟨mgd 689 (by decide +kernel) rfl, mgd 46 (by decide +kernel) rfl⟩, fun h => absurd h (by decide), fun h => absurd h (by decide), by decide⟩
theorem ca_3_94 : cfact 3 94 2 78 := ⟨(yX3_kindIn, cX3_kindIn, 2, (some FieldType.int), 2, 3, 0, 0), rfl, ⟨fun h => (by cases h), fun _ => mgd 684 (by decide +kernel) rfl⟩, fun h => absurd h (by decide), fun _ => mgd 685 (by decide +kernel) rfl, fun h => absurd h (by decide), by decide⟩
theorem ca_3_98 : cfact 3 98 0 52 := ⟨(yX3_firstStep, cX3_firstStep, 5, (some FieldType.int), 0, 3, 0, 0), rfl, ⟨fun h => (by cases h), fun _ => mgd 569 (by decide +kernel) rfl⟩, fun _ => ⟨mgd 571 (by decide +kernel) rfl, mgd 33 (by decide +kernel) rfl⟩, fun h => absurd h (by decide), fun h => absurd h (by decide), by decide⟩
theorem ca_3_101 : cfact 3 101 0 53 := ⟨(yX3_make, cX3_make, 5, none, 1, 3, 0, 0), rfl, ⟨fun h => (by cases h), fun _ => mgd 573 (by decide +kernel) rfl⟩, fun _ => ⟨mgd 575 (by decide +kernel) rfl, mgd 34 (by decide +kernel) rfl⟩, fun h => absurd h (by decide), fun h => absurd h (by decide), by decide⟩
theorem ca_3_105 : cfact 3 105 3 54 := ⟨(yX6_takeOut, cX6_takeOut, 3, none, 2, 6, 0, 0), rfl, ⟨fun _ => ⟨RX6, mns 577 (by decide +kernel) rfl⟩, fun h => by cases h⟩, fun h => absurd h (by decide), fun _ => mgd 578 (by decide +kernel) rfl, fun h => absurd h (by decide), by decide⟩
theorem ca_3_109 : cfact 3 109 7 0 := mgd 580 (by decide +kernel) rfl
theorem ca_3_112 : cfact 3 112 8 0 := mgd 581 (by decide +kernel) rfl
theorem cal3_ok : ∀ q ∈ cal3, cfact 3 q.1 q.2.1 q.2.2 := List.forall_mem_cons.mpr ⟨ca_3_3, List.forall_mem_cons.mpr ⟨ca_3_30, List.forall_mem_cons.mpr ⟨ca_3_34, List.forall_mem_cons.mpr ⟨ca_3_39, List.forall_mem_cons.mpr ⟨ca_3_43, List.forall_mem_cons.mpr ⟨ca_3_47, List.forall_mem_cons.mpr ⟨ca_3_51, List.forall_mem_cons.mpr ⟨ca_3_55, List.forall_mem_cons.mpr ⟨ca_3_59, List.forall_mem_cons.mpr ⟨ca_3_62, List.forall_mem_cons.mpr ⟨ca_3_66, List.forall_mem_cons.mpr ⟨ca_3_71, List.forall_mem_cons.mpr ⟨ca_3_74, List.forall_mem_cons.mpr ⟨ca_3_77, List.forall_mem_cons.mpr ⟨ca_3_80, List.forall_mem_cons.mpr ⟨ca_3_83, List.forall_mem_cons.mpr ⟨ca_3_86, List.forall_mem_cons.mpr ⟨ca_3_90, List.forall_mem_cons.mpr ⟨ca_3_94, List.forall_mem_cons.mpr ⟨ca_3_98, List.forall_mem_cons.mpr ⟨ca_3_101, List.forall_mem_cons.mpr ⟨ca_3_105, List.forall_mem_cons.mpr ⟨ca_3_109, List.forall_mem_cons.mpr ⟨ca_3_112, fun _ h => absurd h List.not_mem_nil⟩⟩⟩⟩⟩⟩⟩⟩⟩⟩⟩⟩⟩⟩⟩⟩⟩⟩⟩⟩⟩⟩⟩⟩
def cal4 : List (Nat × Nat × Nat) := [(3, 6, 0), (19, 3, 22), (26, 0, 96), (29, 0, 97), (33, 0, 100), (37, 0, 98), (44, 0, 99), (47, 0, 101), (50, 0, 103), (53, 0, 105), (56, 0, 102), (59, 3, 12), (75, 0, 104)]
theorem ca_4_3 : cfact 4 3 6 0 := mgd 256 (by decide +kernel) rfl
theorem ca_4_19 : cfact 4 19 3 22 := ⟨(yX6_put, cX6_put, 3, none, 3, 6, 0, 0), rfl, ⟨fun _ => ⟨RX6, mns 752 (by decide +kernel) rfl⟩, fun h => by cases h⟩, fun h => absurd h (by decide), fun _ => mgd 435 (by decide +kernel) rfl, fun h => absurd h (by decide), by decide⟩
theorem ca_4_26 : cfact 4 26 0 96 := ⟨(yX4_rewind, cX4_rewind, 1, none, 0, 4, 0, 0), rfl, ⟨fun h => (by cases h), fun _ => mgd 761 (by decide +kernel) rfl⟩, fun _ => ⟨mgd 763 (by decide +kernel) rfl, mgd 55 (by decide +kernel) rfl⟩, fun h => absurd h (by decide), fun h => absurd h (by decide), by decide⟩
theorem ca_4_29 : cfact 4 29 0 97 := ⟨(yX4_takeCommand, cX4_takeCommand, 1, (some FieldType.boolean), 0, 4, 0, 0), rfl, ⟨fun h => (by cases h), fun _ => mgd 765 (by decide +kernel) rfl⟩, fun _ => ⟨mgd 767 (by decide +kernel) rfl, mgd 56 (by decide +kernel) rfl⟩, fun h => absurd h (by decide), fun h => absurd h (by decide), by decide⟩
theorem ca_4_33 : cfact 4 33 0 100 := ⟨(yX4_takeSign, cX4_takeSign, 2, (some FieldType.boolean), 1, 4, 0, 0), rfl, ⟨fun h => (by cases h), fun _ => mgd 778 (by decide +kernel) rfl⟩, fun _ => ⟨mgd 780 (by decide +kernel) rfl, mgd 59 (by decide +kernel) rfl⟩, fun h => absurd h (by decide), fun h => absurd h (by decide), by decide⟩
theorem ca_4_37 : cfact 4 37 0 98 := ⟨(yX4_codeHere, cX4_codeHere, 1, (some FieldType.int), 0, 4, 0, 0), rfl, ⟨fun h => (by cases h), fun _ => mgd 769 (by decide +kernel) rfl⟩, fun _ => ⟨mgd 771 (by decide +kernel) rfl, mgd 57 (by decide +kernel) rfl⟩, fun h => absurd h (by decide), fun h => absurd h (by decide), by decide⟩
theorem ca_4_44 : cfact 4 44 0 99 := ⟨(yX4_takeSizes, cX4_takeSizes, 2, (some FieldType.boolean), 0, 4, 0, 0), rfl, ⟨fun h => (by cases h), fun _ => mgd 774 (by decide +kernel) rfl⟩, fun _ => ⟨mgd 776 (by decide +kernel) rfl, mgd 58 (by decide +kernel) rfl⟩, fun h => absurd h (by decide), fun h => absurd h (by decide), by decide⟩
theorem ca_4_47 : cfact 4 47 0 101 := ⟨(yX4_takeCreases, cX4_takeCreases, 2, (some FieldType.boolean), 0, 4, 0, 0), rfl, ⟨fun h => (by cases h), fun _ => mgd 782 (by decide +kernel) rfl⟩, fun _ => ⟨mgd 784 (by decide +kernel) rfl, mgd 60 (by decide +kernel) rfl⟩, fun h => absurd h (by decide), fun h => absurd h (by decide), by decide⟩
theorem ca_4_50 : cfact 4 50 0 103 := ⟨(yX4_takePiece, cX4_takePiece, 1, (some FieldType.boolean), 0, 4, 0, 0), rfl, ⟨fun h => (by cases h), fun _ => mgd 790 (by decide +kernel) rfl⟩, fun _ => ⟨mgd 792 (by decide +kernel) rfl, mgd 62 (by decide +kernel) rfl⟩, fun h => absurd h (by decide), fun h => absurd h (by decide), by decide⟩
theorem ca_4_53 : cfact 4 53 0 105 := ⟨(yX4_takeCrease, cX4_takeCrease, 1, (some FieldType.boolean), 0, 4, 0, 0), rfl, ⟨fun h => (by cases h), fun _ => mgd 798 (by decide +kernel) rfl⟩, fun _ => ⟨mgd 800 (by decide +kernel) rfl, mgd 64 (by decide +kernel) rfl⟩, fun h => absurd h (by decide), fun h => absurd h (by decide), by decide⟩
theorem ca_4_56 : cfact 4 56 0 102 := ⟨(yX4_takeKind, cX4_takeKind, 2, (some FieldType.boolean), 0, 4, 0, 0), rfl, ⟨fun h => (by cases h), fun _ => mgd 786 (by decide +kernel) rfl⟩, fun _ => ⟨mgd 788 (by decide +kernel) rfl, mgd 61 (by decide +kernel) rfl⟩, fun h => absurd h (by decide), fun h => absurd h (by decide), by decide⟩
theorem ca_4_59 : cfact 4 59 3 12 := ⟨(yX6_at, cX6_at, 2, (some FieldType.int), 2, 6, 0, 0), rfl, ⟨fun _ => ⟨RX6, mns 773 (by decide +kernel) rfl⟩, fun h => by cases h⟩, fun h => absurd h (by decide), fun _ => mgd 390 (by decide +kernel) rfl, fun h => absurd h (by decide), by decide⟩
theorem ca_4_75 : cfact 4 75 0 104 := ⟨(yX4_takeDigit, cX4_takeDigit, 1, (some FieldType.boolean), 0, 4, 0, 0), rfl, ⟨fun h => (by cases h), fun _ => mgd 794 (by decide +kernel) rfl⟩, fun _ => ⟨mgd 796 (by decide +kernel) rfl, mgd 63 (by decide +kernel) rfl⟩, fun h => absurd h (by decide), fun h => absurd h (by decide), by decide⟩
theorem cal4_ok : ∀ q ∈ cal4, cfact 4 q.1 q.2.1 q.2.2 := List.forall_mem_cons.mpr ⟨ca_4_3, List.forall_mem_cons.mpr ⟨ca_4_19, List.forall_mem_cons.mpr ⟨ca_4_26, List.forall_mem_cons.mpr ⟨ca_4_29, List.forall_mem_cons.mpr ⟨ca_4_33, List.forall_mem_cons.mpr ⟨ca_4_37, List.forall_mem_cons.mpr ⟨ca_4_44, List.forall_mem_cons.mpr ⟨ca_4_47, List.forall_mem_cons.mpr ⟨ca_4_50, List.forall_mem_cons.mpr ⟨ca_4_53, List.forall_mem_cons.mpr ⟨ca_4_56, List.forall_mem_cons.mpr ⟨ca_4_59, List.forall_mem_cons.mpr ⟨ca_4_75, fun _ h => absurd h List.not_mem_nil⟩⟩⟩⟩⟩⟩⟩⟩⟩⟩⟩⟩⟩
def cal5 : List (Nat × Nat × Nat) := [(3, 6, 0), (21, 5, 2), (28, 0, 9), (32, 1, 18), (40, 1, 10), (47, 1, 32)]
theorem ca_5_3 : cfact 5 3 6 0 := mgd 172 (by decide +kernel) rfl
theorem ca_5_21 : cfact 5 21 5 2 := ⟨(yX2_init, cX2_init, 1, none, 0, 2, 2, 16), rfl, ⟨fun _ => ⟨RX6, mns 176 (by decide +kernel) rfl⟩, fun h => by cases h⟩, fun h => absurd h (by decide), fun h => absurd h (by decide), fun _ => ⟨mgd 177 (by decide +kernel) rfl, rfl⟩, by decide⟩
theorem ca_5_28 : cfact 5 28 0 9 := ⟨(yX5_pieceAt, cX5_pieceAt, 2, (some (FieldType.object "FoldedTheatre$Piece")), 1, 5, 0, 0), rfl, ⟨fun h => (by cases h), fun _ => mgd 377 (by decide +kernel) rfl⟩, fun _ => ⟨mgd 379 (by decide +kernel) rfl, mgd 1 (by decide +kernel) rfl⟩, fun h => absurd h (by decide), fun h => absurd h (by decide), by decide⟩
theorem ca_5_32 : cfact 5 32 1 18 := ⟨(yX2_copyFrom, cX2_copyFrom, 2, none, 1, 2, 0, 0), rfl, ⟨fun _ => ⟨RX6, mns 418 (by decide +kernel) rfl⟩, fun h => by cases h⟩, fun _ => ⟨mgd 420 (by decide +kernel) rfl, mgd 9 (by decide +kernel) rfl⟩, fun h => absurd h (by decide), fun h => absurd h (by decide), by decide⟩
theorem ca_5_40 : cfact 5 40 1 10 := ⟨(yX2_width, cX2_width, 4, (some FieldType.int), 0, 2, 0, 0), rfl, ⟨fun _ => ⟨RX6, mns 381 (by decide +kernel) rfl⟩, fun h => by cases h⟩, fun _ => ⟨mgd 383 (by decide +kernel) rfl, mgd 2 (by decide +kernel) rfl⟩, fun h => absurd h (by decide), fun h => absurd h (by decide), by decide⟩
theorem ca_5_47 : cfact 5 47 1 32 := ⟨(yX2_countOf, cX2_countOf, 4, (some FieldType.int), 1, 2, 0, 0), rfl, ⟨fun _ => ⟨RX6, mns 848 (by decide +kernel) rfl⟩, fun h => by cases h⟩, fun _ => ⟨mgd 479 (by decide +kernel) rfl, mgd 17 (by decide +kernel) rfl⟩, fun h => absurd h (by decide), fun h => absurd h (by decide), by decide⟩
theorem cal5_ok : ∀ q ∈ cal5, cfact 5 q.1 q.2.1 q.2.2 := List.forall_mem_cons.mpr ⟨ca_5_3, List.forall_mem_cons.mpr ⟨ca_5_21, List.forall_mem_cons.mpr ⟨ca_5_28, List.forall_mem_cons.mpr ⟨ca_5_32, List.forall_mem_cons.mpr ⟨ca_5_40, List.forall_mem_cons.mpr ⟨ca_5_47, fun _ h => absurd h List.not_mem_nil⟩⟩⟩⟩⟩⟩
def cal6 : List (Nat × Nat × Nat) := [(1, 6, 0), (9, 5, 1), (24, 5, 3), (31, 5, 4), (38, 5, 5), (45, 5, 6), (52, 5, 2), (64, 1, 8), (68, 0, 14), (72, 1, 15), (79, 1, 21), (83, 1, 24), (90, 1, 27), (94, 1, 9), (98, 1, 29), (101, 2, 26), (112, 2, 12), (116, 2, 22), (120, 1, 31), (123, 1, 25), (126, 1, 32), (133, 1, 18), (136, 1, 34), (140, 1, 35), (144, 1, 37), (147, 1, 38), (151, 8, 0), (156, 1, 40), (159, 1, 42), (163, 1, 43), (166, 1, 44), (170, 1, 10), (175, 1, 23), (181, 2, 63), (184, 1, 64), (188, 1, 45), (191, 1, 52), (194, 1, 51), (197, 1, 76), (200, 1, 81), (203, 1, 13), (210, 1, 86), (213, 1, 91), (219, 1, 93), (222, 1, 95), (225, 1, 106), (228, 1, 17), (233, 1, 96), (236, 1, 97), (239, 0, 107), (242, 1, 100), (252, 1, 111), (255, 1, 112), (258, 1, 113), (261, 1, 114), (265, 2, 116), (269, 1, 118), (275, 1, 121), (284, 0, 20), (288, 0, 108), (294, 0, 28), (297, 0, 30), (300, 0, 41), (303, 0, 56), (306, 0, 57)]
theorem ca_6_1 : cfact 6 1 6 0 := mgd 164 (by decide +kernel) rfl
theorem ca_6_9 : cfact 6 9 5 1 := ⟨(yX5_init, cX5_init, 2, none, 0, 5, 25, 176), rfl, ⟨fun _ => ⟨RX6, mns 169 (by decide +kernel) rfl⟩, fun h => by cases h⟩, fun h => absurd h (by decide), fun h => absurd h (by decide), fun _ => ⟨mgd 170 (by decide +kernel) rfl, rfl⟩, by decide⟩
theorem ca_6_24 : cfact 6 24 5 3 := ⟨(yX0_init, cX0_init, 2, none, 0, 0, 209, 1448), rfl, ⟨fun _ => ⟨RX6, mns 229 (by decide +kernel) rfl⟩, fun h => by cases h⟩, fun h => absurd h (by decide), fun h => absurd h (by decide), fun _ => ⟨mgd 230 (by decide +kernel) rfl, rfl⟩, by decide⟩
theorem ca_6_31 : cfact 6 31 5 4 := ⟨(yX4_init, cX4_init, 1, none, 0, 4, 1, 80), rfl, ⟨fun _ => ⟨RX6, mns 253 (by decide +kernel) rfl⟩, fun h => by cases h⟩, fun h => absurd h (by decide), fun h => absurd h (by decide), fun _ => ⟨mgd 254 (by decide +kernel) rfl, rfl⟩, by decide⟩
theorem ca_6_38 : cfact 6 38 5 5 := ⟨(yX3_init, cX3_init, 1, none, 0, 3, 2, 16), rfl, ⟨fun _ => ⟨RX6, mns 290 (by decide +kernel) rfl⟩, fun h => by cases h⟩, fun h => absurd h (by decide), fun h => absurd h (by decide), fun _ => ⟨mgd 291 (by decide +kernel) rfl, rfl⟩, by decide⟩
theorem ca_6_45 : cfact 6 45 5 6 := ⟨(yX1_init, cX1_init, 1, none, 0, 1, 3, 24), rfl, ⟨fun _ => ⟨RX6, mns 309 (by decide +kernel) rfl⟩, fun h => by cases h⟩, fun h => absurd h (by decide), fun h => absurd h (by decide), fun _ => ⟨mgd 310 (by decide +kernel) rfl, rfl⟩, by decide⟩
theorem ca_6_52 : cfact 6 52 5 2 := ⟨(yX2_init, cX2_init, 1, none, 0, 2, 2, 16), rfl, ⟨fun _ => ⟨RX6, mns 328 (by decide +kernel) rfl⟩, fun h => by cases h⟩, fun h => absurd h (by decide), fun h => absurd h (by decide), fun _ => ⟨mgd 177 (by decide +kernel) rfl, rfl⟩, by decide⟩
theorem ca_6_64 : cfact 6 64 1 8 := ⟨(yX5_occupied, cX5_occupied, 4, (some FieldType.int), 0, 5, 0, 0), rfl, ⟨fun _ => ⟨RX6, mns 373 (by decide +kernel) rfl⟩, fun h => by cases h⟩, fun _ => ⟨mgd 375 (by decide +kernel) rfl, mgd 0 (by decide +kernel) rfl⟩, fun h => absurd h (by decide), fun h => absurd h (by decide), by decide⟩
theorem ca_6_68 : cfact 6 68 0 14 := ⟨(yX6_refuse, cX6_refuse, 3, (some FieldType.int), 2, 6, 0, 0), rfl, ⟨fun h => (by cases h), fun _ => mgd 402 (by decide +kernel) rfl⟩, fun _ => ⟨mgd 404 (by decide +kernel) rfl, mgd 5 (by decide +kernel) rfl⟩, fun h => absurd h (by decide), fun h => absurd h (by decide), by decide⟩
theorem ca_6_72 : cfact 6 72 1 15 := ⟨(yX0_push, cX0_push, 3, none, 1, 0, 0, 0), rfl, ⟨fun _ => ⟨RX6, mns 406 (by decide +kernel) rfl⟩, fun h => by cases h⟩, fun _ => ⟨mgd 408 (by decide +kernel) rfl, mgd 6 (by decide +kernel) rfl⟩, fun h => absurd h (by decide), fun h => absurd h (by decide), by decide⟩
theorem ca_6_79 : cfact 6 79 1 21 := ⟨(yX2_takeSizes, cX2_takeSizes, 5, (some FieldType.boolean), 2, 2, 0, 0), rfl, ⟨fun _ => ⟨RX6, mns 430 (by decide +kernel) rfl⟩, fun h => by cases h⟩, fun _ => ⟨mgd 432 (by decide +kernel) rfl, mgd 10 (by decide +kernel) rfl⟩, fun h => absurd h (by decide), fun h => absurd h (by decide), by decide⟩
theorem ca_6_83 : cfact 6 83 1 24 := ⟨(yX2_takeCreases, cX2_takeCreases, 5, (some FieldType.boolean), 1, 2, 0, 0), rfl, ⟨fun _ => ⟨RX6, mns 441 (by decide +kernel) rfl⟩, fun h => by cases h⟩, fun _ => ⟨mgd 443 (by decide +kernel) rfl, mgd 12 (by decide +kernel) rfl⟩, fun h => absurd h (by decide), fun h => absurd h (by decide), by decide⟩
theorem ca_6_90 : cfact 6 90 1 27 := ⟨(yX5_addCopyOf, cX5_addCopyOf, 3, none, 1, 5, 0, 0), rfl, ⟨fun _ => ⟨RX6, mns 452 (by decide +kernel) rfl⟩, fun h => by cases h⟩, fun _ => ⟨mgd 454 (by decide +kernel) rfl, mgd 14 (by decide +kernel) rfl⟩, fun h => absurd h (by decide), fun h => absurd h (by decide), by decide⟩
theorem ca_6_94 : cfact 6 94 1 9 := ⟨(yX5_pieceAt, cX5_pieceAt, 2, (some (FieldType.object "FoldedTheatre$Piece")), 1, 5, 0, 0), rfl, ⟨fun _ => ⟨RX6, mns 460 (by decide +kernel) rfl⟩, fun h => by cases h⟩, fun _ => ⟨mgd 379 (by decide +kernel) rfl, mgd 1 (by decide +kernel) rfl⟩, fun h => absurd h (by decide), fun h => absurd h (by decide), by decide⟩
theorem ca_6_98 : cfact 6 98 1 29 := ⟨(yX2_hasCrease, cX2_hasCrease, 2, (some FieldType.boolean), 1, 2, 0, 0), rfl, ⟨fun _ => ⟨RX6, mns 461 (by decide +kernel) rfl⟩, fun h => by cases h⟩, fun _ => ⟨mgd 463 (by decide +kernel) rfl, mgd 15 (by decide +kernel) rfl⟩, fun h => absurd h (by decide), fun h => absurd h (by decide), by decide⟩
theorem ca_6_101 : cfact 6 101 2 26 := ⟨(yX6_isCreaseKind, cX6_isCreaseKind, 1, (some FieldType.boolean), 1, 6, 0, 0), rfl, ⟨fun h => (by cases h), fun _ => mgd 465 (by decide +kernel) rfl⟩, fun h => absurd h (by decide), fun _ => mgd 450 (by decide +kernel) rfl, fun h => absurd h (by decide), by decide⟩
theorem ca_6_112 : cfact 6 112 2 12 := ⟨(yX6_at, cX6_at, 2, (some FieldType.int), 2, 6, 0, 0), rfl, ⟨fun h => (by cases h), fun _ => mgd 466 (by decide +kernel) rfl⟩, fun h => absurd h (by decide), fun _ => mgd 390 (by decide +kernel) rfl, fun h => absurd h (by decide), by decide⟩
theorem ca_6_116 : cfact 6 116 2 22 := ⟨(yX6_put, cX6_put, 3, none, 3, 6, 0, 0), rfl, ⟨fun h => (by cases h), fun _ => mgd 467 (by decide +kernel) rfl⟩, fun h => absurd h (by decide), fun _ => mgd 435 (by decide +kernel) rfl, fun h => absurd h (by decide), by decide⟩
theorem ca_6_120 : cfact 6 120 1 31 := ⟨(yX2_turnOver, cX2_turnOver, 3, none, 0, 2, 0, 0), rfl, ⟨fun _ => ⟨RX6, mns 472 (by decide +kernel) rfl⟩, fun h => by cases h⟩, fun _ => ⟨mgd 474 (by decide +kernel) rfl, mgd 16 (by decide +kernel) rfl⟩, fun h => absurd h (by decide), fun h => absurd h (by decide), by decide⟩
theorem ca_6_123 : cfact 6 123 1 25 := ⟨(yX2_creaseCount, cX2_creaseCount, 1, (some FieldType.int), 0, 2, 0, 0), rfl, ⟨fun _ => ⟨RX6, mns 476 (by decide +kernel) rfl⟩, fun h => by cases h⟩, fun _ => ⟨mgd 447 (by decide +kernel) rfl, mgd 13 (by decide +kernel) rfl⟩, fun h => absurd h (by decide), fun h => absurd h (by decide), by decide⟩
theorem ca_6_126 : cfact 6 126 1 32 := ⟨(yX2_countOf, cX2_countOf, 4, (some FieldType.int), 1, 2, 0, 0), rfl, ⟨fun _ => ⟨RX6, mns 477 (by decide +kernel) rfl⟩, fun h => by cases h⟩, fun _ => ⟨mgd 479 (by decide +kernel) rfl, mgd 17 (by decide +kernel) rfl⟩, fun h => absurd h (by decide), fun h => absurd h (by decide), by decide⟩
theorem ca_6_133 : cfact 6 133 1 18 := ⟨(yX2_copyFrom, cX2_copyFrom, 2, none, 1, 2, 0, 0), rfl, ⟨fun _ => ⟨RX6, mns 485 (by decide +kernel) rfl⟩, fun h => by cases h⟩, fun _ => ⟨mgd 420 (by decide +kernel) rfl, mgd 9 (by decide +kernel) rfl⟩, fun h => absurd h (by decide), fun h => absurd h (by decide), by decide⟩
theorem ca_6_136 : cfact 6 136 1 34 := ⟨(yX2_becomeRotated, cX2_becomeRotated, 5, none, 2, 2, 0, 0), rfl, ⟨fun _ => ⟨RX6, mns 486 (by decide +kernel) rfl⟩, fun h => by cases h⟩, fun _ => ⟨mgd 488 (by decide +kernel) rfl, mgd 18 (by decide +kernel) rfl⟩, fun h => absurd h (by decide), fun h => absurd h (by decide), by decide⟩
theorem ca_6_140 : cfact 6 140 1 35 := ⟨(yX2_sizesAsNumber, cX2_sizesAsNumber, 3, (some FieldType.int), 0, 2, 0, 0), rfl, ⟨fun _ => ⟨RX6, mns 490 (by decide +kernel) rfl⟩, fun h => by cases h⟩, fun _ => ⟨mgd 492 (by decide +kernel) rfl, mgd 19 (by decide +kernel) rfl⟩, fun h => absurd h (by decide), fun h => absurd h (by decide), by decide⟩
theorem ca_6_144 : cfact 6 144 1 37 := ⟨(yX2_lengthenBy, cX2_lengthenBy, 4, none, 2, 2, 0, 0), rfl, ⟨fun _ => ⟨RX6, mns 498 (by decide +kernel) rfl⟩, fun h => by cases h⟩, fun _ => ⟨mgd 500 (by decide +kernel) rfl, mgd 20 (by decide +kernel) rfl⟩, fun h => absurd h (by decide), fun h => absurd h (by decide), by decide⟩
theorem ca_6_147 : cfact 6 147 1 38 := ⟨(yX5_removeAt, cX5_removeAt, 5, none, 1, 5, 0, 0), rfl, ⟨fun _ => ⟨RX6, mns 502 (by decide +kernel) rfl⟩, fun h => by cases h⟩, fun _ => ⟨mgd 504 (by decide +kernel) rfl, mgd 21 (by decide +kernel) rfl⟩, fun h => absurd h (by decide), fun h => absurd h (by decide), by decide⟩
theorem ca_6_151 : cfact 6 151 8 0 := mgd 510 (by decide +kernel) rfl
theorem ca_6_156 : cfact 6 156 1 40 := ⟨(yX2_becomeEndOf, cX2_becomeEndOf, 4, none, 2, 2, 0, 0), rfl, ⟨fun _ => ⟨RX6, mns 511 (by decide +kernel) rfl⟩, fun h => by cases h⟩, fun _ => ⟨mgd 513 (by decide +kernel) rfl, mgd 22 (by decide +kernel) rfl⟩, fun h => absurd h (by decide), fun h => absurd h (by decide), by decide⟩
theorem ca_6_159 : cfact 6 159 1 42 := ⟨(yX2_isUndecided, cX2_isUndecided, 1, (some FieldType.boolean), 0, 2, 0, 0), rfl, ⟨fun _ => ⟨RX6, mns 519 (by decide +kernel) rfl⟩, fun h => by cases h⟩, fun _ => ⟨mgd 521 (by decide +kernel) rfl, mgd 23 (by decide +kernel) rfl⟩, fun h => absurd h (by decide), fun h => absurd h (by decide), by decide⟩
theorem ca_6_163 : cfact 6 163 1 43 := ⟨(yX2_lowestUndecided, cX2_lowestUndecided, 3, (some FieldType.int), 0, 2, 0, 0), rfl, ⟨fun _ => ⟨RX6, mns 524 (by decide +kernel) rfl⟩, fun h => by cases h⟩, fun _ => ⟨mgd 526 (by decide +kernel) rfl, mgd 24 (by decide +kernel) rfl⟩, fun h => absurd h (by decide), fun h => absurd h (by decide), by decide⟩
theorem ca_6_166 : cfact 6 166 1 44 := ⟨(yX3_whatStandsInTheWay, cX3_whatStandsInTheWay, 2, (some FieldType.int), 1, 3, 0, 0), rfl, ⟨fun _ => ⟨RX6, mns 528 (by decide +kernel) rfl⟩, fun h => by cases h⟩, fun _ => ⟨mgd 530 (by decide +kernel) rfl, mgd 25 (by decide +kernel) rfl⟩, fun h => absurd h (by decide), fun h => absurd h (by decide), by decide⟩
theorem ca_6_170 : cfact 6 170 1 10 := ⟨(yX2_width, cX2_width, 4, (some FieldType.int), 0, 2, 0, 0), rfl, ⟨fun _ => ⟨RX6, mns 586 (by decide +kernel) rfl⟩, fun h => by cases h⟩, fun _ => ⟨mgd 383 (by decide +kernel) rfl, mgd 2 (by decide +kernel) rfl⟩, fun h => absurd h (by decide), fun h => absurd h (by decide), by decide⟩
theorem ca_6_175 : cfact 6 175 1 23 := ⟨(yX2_sum, cX2_sum, 3, (some FieldType.int), 0, 2, 0, 0), rfl, ⟨fun _ => ⟨RX6, mns 599 (by decide +kernel) rfl⟩, fun h => by cases h⟩, fun _ => ⟨mgd 439 (by decide +kernel) rfl, mgd 11 (by decide +kernel) rfl⟩, fun h => absurd h (by decide), fun h => absurd h (by decide), by decide⟩
theorem ca_6_181 : cfact 6 181 2 63 := ⟨(yX6_errorOfDecidedStrip, cX6_errorOfDecidedStrip, 1, (some FieldType.int), 1, 6, 0, 0), rfl, ⟨fun h => (by cases h), fun _ => mgd 616 (by decide +kernel) rfl⟩, fun h => absurd h (by decide), fun _ => mgd 617 (by decide +kernel) rfl, fun h => absurd h (by decide), by decide⟩
theorem ca_6_184 : cfact 6 184 1 64 := ⟨(yX1_search, cX1_search, 7, (some FieldType.int), 2, 1, 0, 0), rfl, ⟨fun _ => ⟨RX6, mns 619 (by decide +kernel) rfl⟩, fun h => by cases h⟩, fun _ => ⟨mgd 621 (by decide +kernel) rfl, mgd 36 (by decide +kernel) rfl⟩, fun h => absurd h (by decide), fun h => absurd h (by decide), by decide⟩
theorem ca_6_188 : cfact 6 188 1 45 := ⟨(yX3_load, cX3_load, 3, none, 1, 3, 0, 0), rfl, ⟨fun _ => ⟨RX6, mns 666 (by decide +kernel) rfl⟩, fun h => by cases h⟩, fun _ => ⟨mgd 535 (by decide +kernel) rfl, mgd 26 (by decide +kernel) rfl⟩, fun h => absurd h (by decide), fun h => absurd h (by decide), by decide⟩
theorem ca_6_191 : cfact 6 191 1 52 := ⟨(yX3_firstStep, cX3_firstStep, 5, (some FieldType.int), 0, 3, 0, 0), rfl, ⟨fun _ => ⟨RX6, mns 667 (by decide +kernel) rfl⟩, fun h => by cases h⟩, fun _ => ⟨mgd 571 (by decide +kernel) rfl, mgd 33 (by decide +kernel) rfl⟩, fun h => absurd h (by decide), fun h => absurd h (by decide), by decide⟩
theorem ca_6_194 : cfact 6 194 1 51 := ⟨(yX3_reduce, cX3_reduce, 3, (some FieldType.int), 0, 3, 0, 0), rfl, ⟨fun _ => ⟨RX6, mns 672 (by decide +kernel) rfl⟩, fun h => by cases h⟩, fun _ => ⟨mgd 567 (by decide +kernel) rfl, mgd 32 (by decide +kernel) rfl⟩, fun h => absurd h (by decide), fun h => absurd h (by decide), by decide⟩
theorem ca_6_197 : cfact 6 197 1 76 := ⟨(yX3_countWays, cX3_countWays, 4, (some FieldType.int), 1, 3, 0, 0), rfl, ⟨fun _ => ⟨RX6, mns 677 (by decide +kernel) rfl⟩, fun h => by cases h⟩, fun _ => ⟨mgd 679 (by decide +kernel) rfl, mgd 45 (by decide +kernel) rfl⟩, fun h => absurd h (by decide), fun h => absurd h (by decide), by decide⟩
theorem ca_6_200 : cfact 6 200 1 81 := ⟨(yX3_fewestChanges, cX3_fewestChanges, 5, (some FieldType.int), 1, 3, 0, 0), rfl, ⟨fun _ => ⟨RX6, mns 695 (by decide +kernel) rfl⟩, fun h => by cases h⟩, fun _ => ⟨mgd 697 (by decide +kernel) rfl, mgd 47 (by decide +kernel) rfl⟩, fun h => absurd h (by decide), fun h => absurd h (by decide), by decide⟩
theorem ca_6_203 : cfact 6 203 1 13 := ⟨(yX2_placeOf, cX2_placeOf, 4, (some FieldType.int), 1, 2, 0, 0), rfl, ⟨fun _ => ⟨RX6, mns 703 (by decide +kernel) rfl⟩, fun h => by cases h⟩, fun _ => ⟨mgd 397 (by decide +kernel) rfl, mgd 4 (by decide +kernel) rfl⟩, fun h => absurd h (by decide), fun h => absurd h (by decide), by decide⟩
theorem ca_6_210 : cfact 6 210 1 86 := ⟨(yX2_thickness, cX2_thickness, 3, (some FieldType.int), 0, 2, 0, 0), rfl, ⟨fun _ => ⟨RX6, mns 717 (by decide +kernel) rfl⟩, fun h => by cases h⟩, fun _ => ⟨mgd 719 (by decide +kernel) rfl, mgd 48 (by decide +kernel) rfl⟩, fun h => absurd h (by decide), fun h => absurd h (by decide), by decide⟩
theorem ca_6_213 : cfact 6 213 1 91 := ⟨(yX2_reflection, cX2_reflection, 4, (some FieldType.int), 0, 2, 0, 0), rfl, ⟨fun _ => ⟨RX6, mns 737 (by decide +kernel) rfl⟩, fun h => by cases h⟩, fun _ => ⟨mgd 739 (by decide +kernel) rfl, mgd 52 (by decide +kernel) rfl⟩, fun h => absurd h (by decide), fun h => absurd h (by decide), by decide⟩
theorem ca_6_219 : cfact 6 219 1 93 := ⟨(yX4_write, cX4_write, 2, none, 1, 4, 0, 0), rfl, ⟨fun _ => ⟨RX6, mns 748 (by decide +kernel) rfl⟩, fun h => by cases h⟩, fun _ => ⟨mgd 750 (by decide +kernel) rfl, mgd 53 (by decide +kernel) rfl⟩, fun h => absurd h (by decide), fun h => absurd h (by decide), by decide⟩
theorem ca_6_222 : cfact 6 222 1 95 := ⟨(yX4_faultPosition, cX4_faultPosition, 2, (some FieldType.int), 0, 4, 0, 0), rfl, ⟨fun _ => ⟨RX6, mns 757 (by decide +kernel) rfl⟩, fun h => by cases h⟩, fun _ => ⟨mgd 759 (by decide +kernel) rfl, mgd 54 (by decide +kernel) rfl⟩, fun h => absurd h (by decide), fun h => absurd h (by decide), by decide⟩
theorem ca_6_225 : cfact 6 225 1 106 := ⟨(yX4_clear, cX4_clear, 1, none, 0, 4, 0, 0), rfl, ⟨fun _ => ⟨RX6, mns 802 (by decide +kernel) rfl⟩, fun h => by cases h⟩, fun _ => ⟨mgd 804 (by decide +kernel) rfl, mgd 65 (by decide +kernel) rfl⟩, fun h => absurd h (by decide), fun h => absurd h (by decide), by decide⟩
theorem ca_6_228 : cfact 6 228 1 17 := ⟨(yX5_copyFrom, cX5_copyFrom, 5, none, 1, 5, 0, 0), rfl, ⟨fun _ => ⟨RX6, mns 806 (by decide +kernel) rfl⟩, fun h => by cases h⟩, fun _ => ⟨mgd 416 (by decide +kernel) rfl, mgd 8 (by decide +kernel) rfl⟩, fun h => absurd h (by decide), fun h => absurd h (by decide), by decide⟩
theorem ca_6_233 : cfact 6 233 1 96 := ⟨(yX4_rewind, cX4_rewind, 1, none, 0, 4, 0, 0), rfl, ⟨fun _ => ⟨RX6, mns 807 (by decide +kernel) rfl⟩, fun h => by cases h⟩, fun _ => ⟨mgd 763 (by decide +kernel) rfl, mgd 55 (by decide +kernel) rfl⟩, fun h => absurd h (by decide), fun h => absurd h (by decide), by decide⟩
theorem ca_6_236 : cfact 6 236 1 97 := ⟨(yX4_takeCommand, cX4_takeCommand, 1, (some FieldType.boolean), 0, 4, 0, 0), rfl, ⟨fun _ => ⟨RX6, mns 808 (by decide +kernel) rfl⟩, fun h => by cases h⟩, fun _ => ⟨mgd 767 (by decide +kernel) rfl, mgd 56 (by decide +kernel) rfl⟩, fun h => absurd h (by decide), fun h => absurd h (by decide), by decide⟩
theorem ca_6_239 : cfact 6 239 0 107 := ⟨(yX6_perform, cX6_perform, 1, (some FieldType.int), 0, 6, 0, 0), rfl, ⟨fun h => (by cases h), fun _ => mgd 809 (by decide +kernel) rfl⟩, fun _ => ⟨mgd 811 (by decide +kernel) rfl, mgd 66 (by decide +kernel) rfl⟩, fun h => absurd h (by decide), fun h => absurd h (by decide), by decide⟩
theorem ca_6_242 : cfact 6 242 1 100 := ⟨(yX4_takeSign, cX4_takeSign, 2, (some FieldType.boolean), 1, 4, 0, 0), rfl, ⟨fun _ => ⟨RX6, mns 823 (by decide +kernel) rfl⟩, fun h => by cases h⟩, fun _ => ⟨mgd 780 (by decide +kernel) rfl, mgd 59 (by decide +kernel) rfl⟩, fun h => absurd h (by decide), fun h => absurd h (by decide), by decide⟩
theorem ca_6_252 : cfact 6 252 1 111 := ⟨(yX5_countOfKind, cX5_countOfKind, 5, (some FieldType.int), 1, 5, 0, 0), rfl, ⟨fun _ => ⟨RX6, mns 832 (by decide +kernel) rfl⟩, fun h => by cases h⟩, fun _ => ⟨mgd 834 (by decide +kernel) rfl, mgd 68 (by decide +kernel) rfl⟩, fun h => absurd h (by decide), fun h => absurd h (by decide), by decide⟩
theorem ca_6_255 : cfact 6 255 1 112 := ⟨(yX5_foldedCount, cX5_foldedCount, 4, (some FieldType.int), 0, 5, 0, 0), rfl, ⟨fun _ => ⟨RX6, mns 836 (by decide +kernel) rfl⟩, fun h => by cases h⟩, fun _ => ⟨mgd 838 (by decide +kernel) rfl, mgd 69 (by decide +kernel) rfl⟩, fun h => absurd h (by decide), fun h => absurd h (by decide), by decide⟩
theorem ca_6_258 : cfact 6 258 1 113 := ⟨(yX5_panelCount, cX5_panelCount, 4, (some FieldType.int), 0, 5, 0, 0), rfl, ⟨fun _ => ⟨RX6, mns 840 (by decide +kernel) rfl⟩, fun h => by cases h⟩, fun _ => ⟨mgd 842 (by decide +kernel) rfl, mgd 70 (by decide +kernel) rfl⟩, fun h => absurd h (by decide), fun h => absurd h (by decide), by decide⟩
theorem ca_6_261 : cfact 6 261 1 114 := ⟨(yX5_creasesOf, cX5_creasesOf, 5, (some FieldType.int), 1, 5, 0, 0), rfl, ⟨fun _ => ⟨RX6, mns 844 (by decide +kernel) rfl⟩, fun h => by cases h⟩, fun _ => ⟨mgd 846 (by decide +kernel) rfl, mgd 71 (by decide +kernel) rfl⟩, fun h => absurd h (by decide), fun h => absurd h (by decide), by decide⟩
theorem ca_6_265 : cfact 6 265 2 116 := ⟨(yX6_bitsOf, cX6_bitsOf, 4, (some FieldType.int), 1, 6, 0, 0), rfl, ⟨fun h => (by cases h), fun _ => mgd 853 (by decide +kernel) rfl⟩, fun h => absurd h (by decide), fun _ => mgd 854 (by decide +kernel) rfl, fun h => absurd h (by decide), by decide⟩
theorem ca_6_269 : cfact 6 269 1 118 := ⟨(yX0_pop, cX0_pop, 3, none, 1, 0, 0, 0), rfl, ⟨fun _ => ⟨RX6, mns 861 (by decide +kernel) rfl⟩, fun h => by cases h⟩, fun _ => ⟨mgd 863 (by decide +kernel) rfl, mgd 72 (by decide +kernel) rfl⟩, fun h => absurd h (by decide), fun h => absurd h (by decide), by decide⟩
theorem ca_6_275 : cfact 6 275 1 121 := ⟨(yX0_clear, cX0_clear, 1, none, 0, 0, 0, 0), rfl, ⟨fun _ => ⟨RX6, mns 873 (by decide +kernel) rfl⟩, fun h => by cases h⟩, fun _ => ⟨mgd 875 (by decide +kernel) rfl, mgd 73 (by decide +kernel) rfl⟩, fun h => absurd h (by decide), fun h => absurd h (by decide), by decide⟩
theorem ca_6_284 : cfact 6 284 0 20 := ⟨(yX6_add, cX6_add, 4, (some FieldType.int), 3, 6, 0, 0), rfl, ⟨fun h => (by cases h), fun _ => mgd 813 (by decide +kernel) rfl⟩, fun _ => ⟨mgd 427 (by decide +kernel) rfl, mgd 428 (by decide +kernel) rfl⟩, fun h => absurd h (by decide), fun h => absurd h (by decide), by decide⟩
theorem ca_6_288 : cfact 6 288 0 108 := ⟨(yX6_withCreasesAsTold, cX6_withCreasesAsTold, 3, (some FieldType.int), 1, 6, 0, 0), rfl, ⟨fun h => (by cases h), fun _ => mgd 814 (by decide +kernel) rfl⟩, fun _ => ⟨mgd 816 (by decide +kernel) rfl, mgd 67 (by decide +kernel) rfl⟩, fun h => absurd h (by decide), fun h => absurd h (by decide), by decide⟩
theorem ca_6_294 : cfact 6 294 0 28 := ⟨(yX6_mark, cX6_mark, 6, (some FieldType.int), 3, 6, 0, 0), rfl, ⟨fun h => (by cases h), fun _ => mgd 818 (by decide +kernel) rfl⟩, fun _ => ⟨mgd 457 (by decide +kernel) rfl, mgd 458 (by decide +kernel) rfl⟩, fun h => absurd h (by decide), fun h => absurd h (by decide), by decide⟩
theorem ca_6_297 : cfact 6 297 0 30 := ⟨(yX6_turn, cX6_turn, 3, (some FieldType.int), 1, 6, 0, 0), rfl, ⟨fun h => (by cases h), fun _ => mgd 819 (by decide +kernel) rfl⟩, fun _ => ⟨mgd 469 (by decide +kernel) rfl, mgd 470 (by decide +kernel) rfl⟩, fun h => absurd h (by decide), fun h => absurd h (by decide), by decide⟩
theorem ca_6_300 : cfact 6 300 0 41 := ⟨(yX6_fold, cX6_fold, 6, (some FieldType.int), 1, 6, 0, 0), rfl, ⟨fun h => (by cases h), fun _ => mgd 820 (by decide +kernel) rfl⟩, fun _ => ⟨mgd 516 (by decide +kernel) rfl, mgd 517 (by decide +kernel) rfl⟩, fun h => absurd h (by decide), fun h => absurd h (by decide), by decide⟩
theorem ca_6_303 : cfact 6 303 0 56 := ⟨(yX6_unfold, cX6_unfold, 3, (some FieldType.int), 1, 6, 0, 0), rfl, ⟨fun h => (by cases h), fun _ => mgd 821 (by decide +kernel) rfl⟩, fun _ => ⟨mgd 588 (by decide +kernel) rfl, mgd 589 (by decide +kernel) rfl⟩, fun h => absurd h (by decide), fun h => absurd h (by decide), by decide⟩
theorem ca_6_306 : cfact 6 306 0 57 := ⟨(yX6_drop, cX6_drop, 2, (some FieldType.int), 1, 6, 0, 0), rfl, ⟨fun h => (by cases h), fun _ => mgd 822 (by decide +kernel) rfl⟩, fun _ => ⟨mgd 592 (by decide +kernel) rfl, mgd 593 (by decide +kernel) rfl⟩, fun h => absurd h (by decide), fun h => absurd h (by decide), by decide⟩
theorem cal6_ok : ∀ q ∈ cal6, cfact 6 q.1 q.2.1 q.2.2 := List.forall_mem_cons.mpr ⟨ca_6_1, List.forall_mem_cons.mpr ⟨ca_6_9, List.forall_mem_cons.mpr ⟨ca_6_24, List.forall_mem_cons.mpr ⟨ca_6_31, List.forall_mem_cons.mpr ⟨ca_6_38, List.forall_mem_cons.mpr ⟨ca_6_45, List.forall_mem_cons.mpr ⟨ca_6_52, List.forall_mem_cons.mpr ⟨ca_6_64, List.forall_mem_cons.mpr ⟨ca_6_68, List.forall_mem_cons.mpr ⟨ca_6_72, List.forall_mem_cons.mpr ⟨ca_6_79, List.forall_mem_cons.mpr ⟨ca_6_83, List.forall_mem_cons.mpr ⟨ca_6_90, List.forall_mem_cons.mpr ⟨ca_6_94, List.forall_mem_cons.mpr ⟨ca_6_98, List.forall_mem_cons.mpr ⟨ca_6_101, List.forall_mem_cons.mpr ⟨ca_6_112, List.forall_mem_cons.mpr ⟨ca_6_116, List.forall_mem_cons.mpr ⟨ca_6_120, List.forall_mem_cons.mpr ⟨ca_6_123, List.forall_mem_cons.mpr ⟨ca_6_126, List.forall_mem_cons.mpr ⟨ca_6_133, List.forall_mem_cons.mpr ⟨ca_6_136, List.forall_mem_cons.mpr ⟨ca_6_140, List.forall_mem_cons.mpr ⟨ca_6_144, List.forall_mem_cons.mpr ⟨ca_6_147, List.forall_mem_cons.mpr ⟨ca_6_151, List.forall_mem_cons.mpr ⟨ca_6_156, List.forall_mem_cons.mpr ⟨ca_6_159, List.forall_mem_cons.mpr ⟨ca_6_163, List.forall_mem_cons.mpr ⟨ca_6_166, List.forall_mem_cons.mpr ⟨ca_6_170, List.forall_mem_cons.mpr ⟨ca_6_175, List.forall_mem_cons.mpr ⟨ca_6_181, List.forall_mem_cons.mpr ⟨ca_6_184, List.forall_mem_cons.mpr ⟨ca_6_188, List.forall_mem_cons.mpr ⟨ca_6_191, List.forall_mem_cons.mpr ⟨ca_6_194, List.forall_mem_cons.mpr ⟨ca_6_197, List.forall_mem_cons.mpr ⟨ca_6_200, List.forall_mem_cons.mpr ⟨ca_6_203, List.forall_mem_cons.mpr ⟨ca_6_210, List.forall_mem_cons.mpr ⟨ca_6_213, List.forall_mem_cons.mpr ⟨ca_6_219, List.forall_mem_cons.mpr ⟨ca_6_222, List.forall_mem_cons.mpr ⟨ca_6_225, List.forall_mem_cons.mpr ⟨ca_6_228, List.forall_mem_cons.mpr ⟨ca_6_233, List.forall_mem_cons.mpr ⟨ca_6_236, List.forall_mem_cons.mpr ⟨ca_6_239, List.forall_mem_cons.mpr ⟨ca_6_242, List.forall_mem_cons.mpr ⟨ca_6_252, List.forall_mem_cons.mpr ⟨ca_6_255, List.forall_mem_cons.mpr ⟨ca_6_258, List.forall_mem_cons.mpr ⟨ca_6_261, List.forall_mem_cons.mpr ⟨ca_6_265, List.forall_mem_cons.mpr ⟨ca_6_269, List.forall_mem_cons.mpr ⟨ca_6_275, List.forall_mem_cons.mpr ⟨ca_6_284, List.forall_mem_cons.mpr ⟨ca_6_288, List.forall_mem_cons.mpr ⟨ca_6_294, List.forall_mem_cons.mpr ⟨ca_6_297, List.forall_mem_cons.mpr ⟨ca_6_300, List.forall_mem_cons.mpr ⟨ca_6_303, List.forall_mem_cons.mpr ⟨ca_6_306, fun _ h => absurd h List.not_mem_nil⟩⟩⟩⟩⟩⟩⟩⟩⟩⟩⟩⟩⟩⟩⟩⟩⟩⟩⟩⟩⟩⟩⟩⟩⟩⟩⟩⟩⟩⟩⟩⟩⟩⟩⟩⟩⟩⟩⟩⟩⟩⟩⟩⟩⟩⟩⟩⟩⟩⟩⟩⟩⟩⟩⟩⟩⟩⟩⟩⟩⟩⟩⟩⟩⟩
def cal7 : List (Nat × Nat × Nat) := [(3, 6, 0), (54, 2, 125), (61, 2, 127), (65, 0, 140), (74, 2, 135), (78, 0, 137), (81, 0, 138), (85, 0, 144), (88, 0, 136), (92, 0, 146), (95, 2, 129), (98, 0, 131), (101, 0, 134), (104, 0, 128), (107, 0, 130), (111, 0, 132), (114, 0, 133), (117, 0, 124), (120, 0, 126), (124, 0, 139), (127, 0, 143), (130, 0, 145), (133, 0, 142), (136, 0, 149), (139, 0, 148), (142, 0, 152), (145, 0, 151), (148, 0, 155), (152, 0, 154), (155, 2, 158), (158, 0, 157), (168, 0, 168), (172, 0, 170), (175, 0, 171), (178, 2, 173), (181, 0, 172), (184, 0, 174), (187, 0, 167), (190, 0, 169), (193, 0, 166), (196, 0, 164), (199, 0, 165), (203, 0, 161), (206, 0, 162), (209, 0, 163), (212, 0, 160), (215, 0, 180), (219, 0, 178), (222, 0, 179), (225, 0, 186), (228, 0, 185), (231, 0, 184), (234, 0, 183), (237, 0, 189), (240, 0, 188), (243, 0, 191), (246, 0, 193), (249, 0, 195), (258, 0, 204), (261, 0, 205), (264, 0, 203), (267, 0, 202), (273, 0, 206), (276, 0, 201), (279, 0, 199), (282, 0, 200), (285, 0, 209), (288, 0, 212), (297, 0, 218), (309, 2, 222), (312, 0, 220), (315, 0, 223), (324, 0, 219), (327, 0, 221), (330, 0, 224), (333, 0, 217), (336, 0, 227), (339, 0, 226), (342, 0, 216), (345, 0, 225), (348, 0, 194), (351, 0, 230), (354, 0, 231), (357, 2, 237)]
theorem ca_7_3 : cfact 7 3 6 0 := mgd 882 (by decide +kernel) rfl
theorem ca_7_54 : cfact 7 54 2 125 := ⟨(yX7_copies, cX7_copies, 5, none, 4, 7, 0, 0), rfl, ⟨fun h => (by cases h), fun _ => mgd 983 (by decide +kernel) rfl⟩, fun h => absurd h (by decide), fun _ => mgd 984 (by decide +kernel) rfl, fun h => absurd h (by decide), by decide⟩
theorem ca_7_61 : cfact 7 61 2 127 := ⟨(yX7_isIn, cX7_isIn, 3, (some FieldType.boolean), 3, 7, 0, 0), rfl, ⟨fun h => (by cases h), fun _ => mgd 990 (by decide +kernel) rfl⟩, fun h => absurd h (by decide), fun _ => mgd 991 (by decide +kernel) rfl, fun h => absurd h (by decide), by decide⟩
theorem ca_7_65 : cfact 7 65 0 140 := ⟨(yX7_changed, cX7_changed, 2, none, 0, 7, 0, 0), rfl, ⟨fun h => (by cases h), fun _ => mgd 1039 (by decide +kernel) rfl⟩, fun _ => ⟨mgd 1041 (by decide +kernel) rfl, mgd 86 (by decide +kernel) rfl⟩, fun h => absurd h (by decide), fun h => absurd h (by decide), by decide⟩
theorem ca_7_74 : cfact 7 74 2 135 := ⟨(yX7_at, cX7_at, 2, (some FieldType.int), 2, 7, 0, 0), rfl, ⟨fun h => (by cases h), fun _ => mgd 1020 (by decide +kernel) rfl⟩, fun h => absurd h (by decide), fun _ => mgd 1021 (by decide +kernel) rfl, fun h => absurd h (by decide), by decide⟩
theorem ca_7_78 : cfact 7 78 0 137 := ⟨(yX7_of, cX7_of, 3, (some FieldType.int), 2, 7, 0, 0), rfl, ⟨fun h => (by cases h), fun _ => mgd 1027 (by decide +kernel) rfl⟩, fun _ => ⟨mgd 1029 (by decide +kernel) rfl, mgd 83 (by decide +kernel) rfl⟩, fun h => absurd h (by decide), fun h => absurd h (by decide), by decide⟩
theorem ca_7_81 : cfact 7 81 0 138 := ⟨(yX7_isCorner, cX7_isCorner, 2, (some FieldType.boolean), 1, 7, 0, 0), rfl, ⟨fun h => (by cases h), fun _ => mgd 1031 (by decide +kernel) rfl⟩, fun _ => ⟨mgd 1033 (by decide +kernel) rfl, mgd 84 (by decide +kernel) rfl⟩, fun h => absurd h (by decide), fun h => absurd h (by decide), by decide⟩
theorem ca_7_85 : cfact 7 85 0 144 := ⟨(yX7_isPiece, cX7_isPiece, 2, (some FieldType.boolean), 1, 7, 0, 0), rfl, ⟨fun h => (by cases h), fun _ => mgd 1055 (by decide +kernel) rfl⟩, fun _ => ⟨mgd 1057 (by decide +kernel) rfl, mgd 89 (by decide +kernel) rfl⟩, fun h => absurd h (by decide), fun h => absurd h (by decide), by decide⟩
theorem ca_7_88 : cfact 7 88 0 136 := ⟨(yX7_creases, cX7_creases, 2, (some FieldType.int), 1, 7, 0, 0), rfl, ⟨fun h => (by cases h), fun _ => mgd 1023 (by decide +kernel) rfl⟩, fun _ => ⟨mgd 1025 (by decide +kernel) rfl, mgd 82 (by decide +kernel) rfl⟩, fun h => absurd h (by decide), fun h => absurd h (by decide), by decide⟩
theorem ca_7_92 : cfact 7 92 0 146 := ⟨(yX7_creaseOf, cX7_creaseOf, 3, (some FieldType.int), 2, 7, 0, 0), rfl, ⟨fun h => (by cases h), fun _ => mgd 1063 (by decide +kernel) rfl⟩, fun _ => ⟨mgd 1065 (by decide +kernel) rfl, mgd 91 (by decide +kernel) rfl⟩, fun h => absurd h (by decide), fun h => absurd h (by decide), by decide⟩
theorem ca_7_95 : cfact 7 95 2 129 := ⟨(yX7_digits, cX7_digits, 3, (some FieldType.int), 1, 7, 0, 0), rfl, ⟨fun h => (by cases h), fun _ => mgd 997 (by decide +kernel) rfl⟩, fun h => absurd h (by decide), fun _ => mgd 998 (by decide +kernel) rfl, fun h => absurd h (by decide), by decide⟩
theorem ca_7_98 : cfact 7 98 0 131 := ⟨(yX7_sumOfNew, cX7_sumOfNew, 4, (some FieldType.int), 1, 7, 0, 0), rfl, ⟨fun h => (by cases h), fun _ => mgd 1004 (by decide +kernel) rfl⟩, fun _ => ⟨mgd 1006 (by decide +kernel) rfl, mgd 78 (by decide +kernel) rfl⟩, fun h => absurd h (by decide), fun h => absurd h (by decide), by decide⟩
theorem ca_7_101 : cfact 7 101 0 134 := ⟨(yX7_refuses, cX7_refuses, 3, (some FieldType.int), 2, 7, 0, 0), rfl, ⟨fun h => (by cases h), fun _ => mgd 1016 (by decide +kernel) rfl⟩, fun _ => ⟨mgd 1018 (by decide +kernel) rfl, mgd 81 (by decide +kernel) rfl⟩, fun h => absurd h (by decide), fun h => absurd h (by decide), by decide⟩
theorem ca_7_104 : cfact 7 104 0 128 := ⟨(yX7_laysSizes, cX7_laysSizes, 6, (some FieldType.int), 1, 7, 0, 0), rfl, ⟨fun h => (by cases h), fun _ => mgd 993 (by decide +kernel) rfl⟩, fun _ => ⟨mgd 995 (by decide +kernel) rfl, mgd 76 (by decide +kernel) rfl⟩, fun h => absurd h (by decide), fun h => absurd h (by decide), by decide⟩
theorem ca_7_107 : cfact 7 107 0 130 := ⟨(yX7_areSizes, cX7_areSizes, 3, (some FieldType.boolean), 2, 7, 0, 0), rfl, ⟨fun h => (by cases h), fun _ => mgd 1000 (by decide +kernel) rfl⟩, fun _ => ⟨mgd 1002 (by decide +kernel) rfl, mgd 77 (by decide +kernel) rfl⟩, fun h => absurd h (by decide), fun h => absurd h (by decide), by decide⟩
theorem ca_7_111 : cfact 7 111 0 132 := ⟨(yX7_laysCreases, cX7_laysCreases, 6, (some FieldType.boolean), 2, 7, 0, 0), rfl, ⟨fun h => (by cases h), fun _ => mgd 1008 (by decide +kernel) rfl⟩, fun _ => ⟨mgd 1010 (by decide +kernel) rfl, mgd 79 (by decide +kernel) rfl⟩, fun h => absurd h (by decide), fun h => absurd h (by decide), by decide⟩
theorem ca_7_114 : cfact 7 114 0 133 := ⟨(yX7_adds, cX7_adds, 5, (some FieldType.int), 2, 7, 0, 0), rfl, ⟨fun h => (by cases h), fun _ => mgd 1012 (by decide +kernel) rfl⟩, fun _ => ⟨mgd 1014 (by decide +kernel) rfl, mgd 80 (by decide +kernel) rfl⟩, fun h => absurd h (by decide), fun h => absurd h (by decide), by decide⟩
theorem ca_7_117 : cfact 7 117 0 124 := ⟨(yX7_keeps, cX7_keeps, 1, none, 0, 7, 0, 0), rfl, ⟨fun h => (by cases h), fun _ => mgd 979 (by decide +kernel) rfl⟩, fun _ => ⟨mgd 981 (by decide +kernel) rfl, mgd 74 (by decide +kernel) rfl⟩, fun h => absurd h (by decide), fun h => absurd h (by decide), by decide⟩
theorem ca_7_120 : cfact 7 120 0 126 := ⟨(yX7_addsTold, cX7_addsTold, 5, (some FieldType.int), 3, 7, 0, 0), rfl, ⟨fun h => (by cases h), fun _ => mgd 986 (by decide +kernel) rfl⟩, fun _ => ⟨mgd 988 (by decide +kernel) rfl, mgd 75 (by decide +kernel) rfl⟩, fun h => absurd h (by decide), fun h => absurd h (by decide), by decide⟩
theorem ca_7_124 : cfact 7 124 0 139 := ⟨(yX7_ends, cX7_ends, 2, (some FieldType.int), 1, 7, 0, 0), rfl, ⟨fun h => (by cases h), fun _ => mgd 1035 (by decide +kernel) rfl⟩, fun _ => ⟨mgd 1037 (by decide +kernel) rfl, mgd 85 (by decide +kernel) rfl⟩, fun h => absurd h (by decide), fun h => absurd h (by decide), by decide⟩
theorem ca_7_127 : cfact 7 127 0 143 := ⟨(yX7_isCrease, cX7_isCrease, 3, (some FieldType.boolean), 2, 7, 0, 0), rfl, ⟨fun h => (by cases h), fun _ => mgd 1051 (by decide +kernel) rfl⟩, fun _ => ⟨mgd 1053 (by decide +kernel) rfl, mgd 88 (by decide +kernel) rfl⟩, fun h => absurd h (by decide), fun h => absurd h (by decide), by decide⟩
theorem ca_7_130 : cfact 7 130 0 145 := ⟨(yX7_isFolded, cX7_isFolded, 2, (some FieldType.boolean), 1, 7, 0, 0), rfl, ⟨fun h => (by cases h), fun _ => mgd 1059 (by decide +kernel) rfl⟩, fun _ => ⟨mgd 1061 (by decide +kernel) rfl, mgd 90 (by decide +kernel) rfl⟩, fun h => absurd h (by decide), fun h => absurd h (by decide), by decide⟩
theorem ca_7_133 : cfact 7 133 0 142 := ⟨(yX7_marks, cX7_marks, 5, (some FieldType.int), 3, 7, 0, 0), rfl, ⟨fun h => (by cases h), fun _ => mgd 1047 (by decide +kernel) rfl⟩, fun _ => ⟨mgd 1049 (by decide +kernel) rfl, mgd 87 (by decide +kernel) rfl⟩, fun h => absurd h (by decide), fun h => absurd h (by decide), by decide⟩
theorem ca_7_136 : cfact 7 136 0 149 := ⟨(yX7_countOf, cX7_countOf, 5, (some FieldType.int), 2, 7, 0, 0), rfl, ⟨fun h => (by cases h), fun _ => mgd 1075 (by decide +kernel) rfl⟩, fun _ => ⟨mgd 1077 (by decide +kernel) rfl, mgd 93 (by decide +kernel) rfl⟩, fun h => absurd h (by decide), fun h => absurd h (by decide), by decide⟩
theorem ca_7_139 : cfact 7 139 0 148 := ⟨(yX7_turns, cX7_turns, 4, (some FieldType.int), 1, 7, 0, 0), rfl, ⟨fun h => (by cases h), fun _ => mgd 1071 (by decide +kernel) rfl⟩, fun _ => ⟨mgd 1073 (by decide +kernel) rfl, mgd 92 (by decide +kernel) rfl⟩, fun h => absurd h (by decide), fun h => absurd h (by decide), by decide⟩
theorem ca_7_142 : cfact 7 142 0 152 := ⟨(yX7_sizeOf, cX7_sizeOf, 3, (some FieldType.int), 2, 7, 0, 0), rfl, ⟨fun h => (by cases h), fun _ => mgd 1087 (by decide +kernel) rfl⟩, fun _ => ⟨mgd 1089 (by decide +kernel) rfl, mgd 95 (by decide +kernel) rfl⟩, fun h => absurd h (by decide), fun h => absurd h (by decide), by decide⟩
theorem ca_7_145 : cfact 7 145 0 151 := ⟨(yX7_rotates, cX7_rotates, 6, (some FieldType.int), 2, 7, 0, 0), rfl, ⟨fun h => (by cases h), fun _ => mgd 1083 (by decide +kernel) rfl⟩, fun _ => ⟨mgd 1085 (by decide +kernel) rfl, mgd 94 (by decide +kernel) rfl⟩, fun h => absurd h (by decide), fun h => absurd h (by decide), by decide⟩
theorem ca_7_148 : cfact 7 148 0 155 := ⟨(yX7_goes, cX7_goes, 3, none, 1, 7, 0, 0), rfl, ⟨fun h => (by cases h), fun _ => mgd 1099 (by decide +kernel) rfl⟩, fun _ => ⟨mgd 1101 (by decide +kernel) rfl, mgd 97 (by decide +kernel) rfl⟩, fun h => absurd h (by decide), fun h => absurd h (by decide), by decide⟩
theorem ca_7_152 : cfact 7 152 0 154 := ⟨(yX7_joins, cX7_joins, 7, (some FieldType.int), 3, 7, 0, 0), rfl, ⟨fun h => (by cases h), fun _ => mgd 1095 (by decide +kernel) rfl⟩, fun _ => ⟨mgd 1097 (by decide +kernel) rfl, mgd 96 (by decide +kernel) rfl⟩, fun h => absurd h (by decide), fun h => absurd h (by decide), by decide⟩
theorem ca_7_155 : cfact 7 155 2 158 := ⟨(yX7_lesser, cX7_lesser, 2, (some FieldType.int), 2, 7, 0, 0), rfl, ⟨fun h => (by cases h), fun _ => mgd 1111 (by decide +kernel) rfl⟩, fun h => absurd h (by decide), fun _ => mgd 1112 (by decide +kernel) rfl, fun h => absurd h (by decide), by decide⟩
theorem ca_7_158 : cfact 7 158 0 157 := ⟨(yX7_cuts, cX7_cuts, 7, (some FieldType.int), 2, 7, 0, 0), rfl, ⟨fun h => (by cases h), fun _ => mgd 1107 (by decide +kernel) rfl⟩, fun _ => ⟨mgd 1109 (by decide +kernel) rfl, mgd 98 (by decide +kernel) rfl⟩, fun h => absurd h (by decide), fun h => absurd h (by decide), by decide⟩
theorem ca_7_168 : cfact 7 168 0 168 := ⟨(yX7_crimped, cX7_crimped, 6, (some FieldType.int), 0, 7, 0, 0), rfl, ⟨fun h => (by cases h), fun _ => mgd 1150 (by decide +kernel) rfl⟩, fun _ => ⟨mgd 1152 (by decide +kernel) rfl, mgd 107 (by decide +kernel) rfl⟩, fun h => absurd h (by decide), fun h => absurd h (by decide), by decide⟩
theorem ca_7_172 : cfact 7 172 0 170 := ⟨(yX7_dropsSize, cX7_dropsSize, 3, none, 1, 7, 0, 0), rfl, ⟨fun h => (by cases h), fun _ => mgd 1158 (by decide +kernel) rfl⟩, fun _ => ⟨mgd 1160 (by decide +kernel) rfl, mgd 109 (by decide +kernel) rfl⟩, fun h => absurd h (by decide), fun h => absurd h (by decide), by decide⟩
theorem ca_7_175 : cfact 7 175 0 171 := ⟨(yX7_dropsCrease, cX7_dropsCrease, 3, none, 1, 7, 0, 0), rfl, ⟨fun h => (by cases h), fun _ => mgd 1162 (by decide +kernel) rfl⟩, fun _ => ⟨mgd 1164 (by decide +kernel) rfl, mgd 110 (by decide +kernel) rfl⟩, fun h => absurd h (by decide), fun h => absurd h (by decide), by decide⟩
theorem ca_7_178 : cfact 7 178 2 173 := ⟨(yX7_greater, cX7_greater, 2, (some FieldType.int), 2, 7, 0, 0), rfl, ⟨fun h => (by cases h), fun _ => mgd 1170 (by decide +kernel) rfl⟩, fun h => absurd h (by decide), fun _ => mgd 1171 (by decide +kernel) rfl, fun h => absurd h (by decide), by decide⟩
theorem ca_7_181 : cfact 7 181 0 172 := ⟨(yX7_crimpsCorner, cX7_crimpsCorner, 6, none, 1, 7, 0, 0), rfl, ⟨fun h => (by cases h), fun _ => mgd 1166 (by decide +kernel) rfl⟩, fun _ => ⟨mgd 1168 (by decide +kernel) rfl, mgd 111 (by decide +kernel) rfl⟩, fun h => absurd h (by decide), fun h => absurd h (by decide), by decide⟩
theorem ca_7_184 : cfact 7 184 0 174 := ⟨(yX7_crimpsStrip, cX7_crimpsStrip, 2, none, 1, 7, 0, 0), rfl, ⟨fun h => (by cases h), fun _ => mgd 1173 (by decide +kernel) rfl⟩, fun _ => ⟨mgd 1175 (by decide +kernel) rfl, mgd 112 (by decide +kernel) rfl⟩, fun h => absurd h (by decide), fun h => absurd h (by decide), by decide⟩
theorem ca_7_187 : cfact 7 187 0 167 := ⟨(yX7_stepNow, cX7_stepNow, 2, (some FieldType.int), 0, 7, 0, 0), rfl, ⟨fun h => (by cases h), fun _ => mgd 1146 (by decide +kernel) rfl⟩, fun _ => ⟨mgd 1148 (by decide +kernel) rfl, mgd 106 (by decide +kernel) rfl⟩, fun h => absurd h (by decide), fun h => absurd h (by decide), by decide⟩
theorem ca_7_190 : cfact 7 190 0 169 := ⟨(yX7_makes, cX7_makes, 2, none, 1, 7, 0, 0), rfl, ⟨fun h => (by cases h), fun _ => mgd 1154 (by decide +kernel) rfl⟩, fun _ => ⟨mgd 1156 (by decide +kernel) rfl, mgd 108 (by decide +kernel) rfl⟩, fun h => absurd h (by decide), fun h => absurd h (by decide), by decide⟩
theorem ca_7_193 : cfact 7 193 0 166 := ⟨(yX7_reduces, cX7_reduces, 3, (some FieldType.int), 0, 7, 0, 0), rfl, ⟨fun h => (by cases h), fun _ => mgd 1142 (by decide +kernel) rfl⟩, fun _ => ⟨mgd 1144 (by decide +kernel) rfl, mgd 105 (by decide +kernel) rfl⟩, fun h => absurd h (by decide), fun h => absurd h (by decide), by decide⟩
theorem ca_7_196 : cfact 7 196 0 164 := ⟨(yX7_lays, cX7_lays, 3, none, 1, 7, 0, 0), rfl, ⟨fun h => (by cases h), fun _ => mgd 1134 (by decide +kernel) rfl⟩, fun _ => ⟨mgd 1136 (by decide +kernel) rfl, mgd 103 (by decide +kernel) rfl⟩, fun h => absurd h (by decide), fun h => absurd h (by decide), by decide⟩
theorem ca_7_199 : cfact 7 199 0 165 := ⟨(yX7_folds, cX7_folds, 2, (some FieldType.boolean), 0, 7, 0, 0), rfl, ⟨fun h => (by cases h), fun _ => mgd 1138 (by decide +kernel) rfl⟩, fun _ => ⟨mgd 1140 (by decide +kernel) rfl, mgd 104 (by decide +kernel) rfl⟩, fun h => absurd h (by decide), fun h => absurd h (by decide), by decide⟩
theorem ca_7_203 : cfact 7 203 0 161 := ⟨(yX7_evenAngles, cX7_evenAngles, 4, (some FieldType.int), 1, 7, 0, 0), rfl, ⟨fun h => (by cases h), fun _ => mgd 1122 (by decide +kernel) rfl⟩, fun _ => ⟨mgd 1124 (by decide +kernel) rfl, mgd 100 (by decide +kernel) rfl⟩, fun h => absurd h (by decide), fun h => absurd h (by decide), by decide⟩
theorem ca_7_206 : cfact 7 206 0 162 := ⟨(yX7_hasSharp, cX7_hasSharp, 6, (some FieldType.boolean), 1, 7, 0, 0), rfl, ⟨fun h => (by cases h), fun _ => mgd 1126 (by decide +kernel) rfl⟩, fun _ => ⟨mgd 1128 (by decide +kernel) rfl, mgd 101 (by decide +kernel) rfl⟩, fun h => absurd h (by decide), fun h => absurd h (by decide), by decide⟩
theorem ca_7_209 : cfact 7 209 0 163 := ⟨(yX7_foldsNow, cX7_foldsNow, 2, (some FieldType.boolean), 1, 7, 0, 0), rfl, ⟨fun h => (by cases h), fun _ => mgd 1130 (by decide +kernel) rfl⟩, fun _ => ⟨mgd 1132 (by decide +kernel) rfl, mgd 102 (by decide +kernel) rfl⟩, fun h => absurd h (by decide), fun h => absurd h (by decide), by decide⟩
theorem ca_7_212 : cfact 7 212 0 160 := ⟨(yX7_whyNot, cX7_whyNot, 3, (some FieldType.int), 1, 7, 0, 0), rfl, ⟨fun h => (by cases h), fun _ => mgd 1118 (by decide +kernel) rfl⟩, fun _ => ⟨mgd 1120 (by decide +kernel) rfl, mgd 99 (by decide +kernel) rfl⟩, fun h => absurd h (by decide), fun h => absurd h (by decide), by decide⟩
theorem ca_7_215 : cfact 7 215 0 180 := ⟨(yX7_laysBy, cX7_laysBy, 4, none, 2, 7, 0, 0), rfl, ⟨fun h => (by cases h), fun _ => mgd 1197 (by decide +kernel) rfl⟩, fun _ => ⟨mgd 1199 (by decide +kernel) rfl, mgd 115 (by decide +kernel) rfl⟩, fun h => absurd h (by decide), fun h => absurd h (by decide), by decide⟩
theorem ca_7_219 : cfact 7 219 0 178 := ⟨(yX7_otherwise, cX7_otherwise, 6, (some FieldType.int), 2, 7, 0, 0), rfl, ⟨fun h => (by cases h), fun _ => mgd 1189 (by decide +kernel) rfl⟩, fun _ => ⟨mgd 1191 (by decide +kernel) rfl, mgd 113 (by decide +kernel) rfl⟩, fun h => absurd h (by decide), fun h => absurd h (by decide), by decide⟩
theorem ca_7_222 : cfact 7 222 0 179 := ⟨(yX7_foldsBy, cX7_foldsBy, 3, (some FieldType.boolean), 2, 7, 0, 0), rfl, ⟨fun h => (by cases h), fun _ => mgd 1193 (by decide +kernel) rfl⟩, fun _ => ⟨mgd 1195 (by decide +kernel) rfl, mgd 114 (by decide +kernel) rfl⟩, fun h => absurd h (by decide), fun h => absurd h (by decide), by decide⟩
theorem ca_7_225 : cfact 7 225 0 186 := ⟨(yX7_placeOf, cX7_placeOf, 5, (some FieldType.int), 2, 7, 0, 0), rfl, ⟨fun h => (by cases h), fun _ => mgd 1221 (by decide +kernel) rfl⟩, fun _ => ⟨mgd 1223 (by decide +kernel) rfl, mgd 119 (by decide +kernel) rfl⟩, fun h => absurd h (by decide), fun h => absurd h (by decide), by decide⟩
theorem ca_7_228 : cfact 7 228 0 185 := ⟨(yX7_widthOf, cX7_widthOf, 5, (some FieldType.int), 1, 7, 0, 0), rfl, ⟨fun h => (by cases h), fun _ => mgd 1217 (by decide +kernel) rfl⟩, fun _ => ⟨mgd 1219 (by decide +kernel) rfl, mgd 118 (by decide +kernel) rfl⟩, fun h => absurd h (by decide), fun h => absurd h (by decide), by decide⟩
theorem ca_7_231 : cfact 7 231 0 184 := ⟨(yX7_used, cX7_used, 3, (some FieldType.int), 0, 7, 0, 0), rfl, ⟨fun h => (by cases h), fun _ => mgd 1213 (by decide +kernel) rfl⟩, fun _ => ⟨mgd 1215 (by decide +kernel) rfl, mgd 117 (by decide +kernel) rfl⟩, fun h => absurd h (by decide), fun h => absurd h (by decide), by decide⟩
theorem ca_7_234 : cfact 7 234 0 183 := ⟨(yX7_stages, cX7_stages, 3, (some FieldType.int), 1, 7, 0, 0), rfl, ⟨fun h => (by cases h), fun _ => mgd 1209 (by decide +kernel) rfl⟩, fun _ => ⟨mgd 1211 (by decide +kernel) rfl, mgd 116 (by decide +kernel) rfl⟩, fun h => absurd h (by decide), fun h => absurd h (by decide), by decide⟩
theorem ca_7_237 : cfact 7 237 0 189 := ⟨(yX7_lowestOpen, cX7_lowestOpen, 3, (some FieldType.int), 1, 7, 0, 0), rfl, ⟨fun h => (by cases h), fun _ => mgd 1233 (by decide +kernel) rfl⟩, fun _ => ⟨mgd 1235 (by decide +kernel) rfl, mgd 121 (by decide +kernel) rfl⟩, fun h => absurd h (by decide), fun h => absurd h (by decide), by decide⟩
theorem ca_7_240 : cfact 7 240 0 188 := ⟨(yX7_foldsOnStage, cX7_foldsOnStage, 4, (some FieldType.int), 1, 7, 0, 0), rfl, ⟨fun h => (by cases h), fun _ => mgd 1229 (by decide +kernel) rfl⟩, fun _ => ⟨mgd 1231 (by decide +kernel) rfl, mgd 120 (by decide +kernel) rfl⟩, fun h => absurd h (by decide), fun h => absurd h (by decide), by decide⟩
theorem ca_7_243 : cfact 7 243 0 191 := ⟨(yX7_unfolds, cX7_unfolds, 2, (some FieldType.int), 1, 7, 0, 0), rfl, ⟨fun h => (by cases h), fun _ => mgd 1241 (by decide +kernel) rfl⟩, fun _ => ⟨mgd 1243 (by decide +kernel) rfl, mgd 122 (by decide +kernel) rfl⟩, fun h => absurd h (by decide), fun h => absurd h (by decide), by decide⟩
theorem ca_7_246 : cfact 7 246 0 193 := ⟨(yX7_drops, cX7_drops, 2, (some FieldType.int), 1, 7, 0, 0), rfl, ⟨fun h => (by cases h), fun _ => mgd 1249 (by decide +kernel) rfl⟩, fun _ => ⟨mgd 1251 (by decide +kernel) rfl, mgd 123 (by decide +kernel) rfl⟩, fun h => absurd h (by decide), fun h => absurd h (by decide), by decide⟩
theorem ca_7_249 : cfact 7 249 0 195 := ⟨(yX7_sumOf, cX7_sumOf, 4, (some FieldType.int), 1, 7, 0, 0), rfl, ⟨fun h => (by cases h), fun _ => mgd 1257 (by decide +kernel) rfl⟩, fun _ => ⟨mgd 1259 (by decide +kernel) rfl, mgd 124 (by decide +kernel) rfl⟩, fun h => absurd h (by decide), fun h => absurd h (by decide), by decide⟩
theorem ca_7_258 : cfact 7 258 0 204 := ⟨(yX7_reachesOver, cX7_reachesOver, 3, (some FieldType.boolean), 2, 7, 0, 0), rfl, ⟨fun h => (by cases h), fun _ => mgd 1293 (by decide +kernel) rfl⟩, fun _ => ⟨mgd 1295 (by decide +kernel) rfl, mgd 130 (by decide +kernel) rfl⟩, fun h => absurd h (by decide), fun h => absurd h (by decide), by decide⟩
theorem ca_7_261 : cfact 7 261 0 205 := ⟨(yX7_isBetween, cX7_isBetween, 5, (some FieldType.boolean), 2, 7, 0, 0), rfl, ⟨fun h => (by cases h), fun _ => mgd 1297 (by decide +kernel) rfl⟩, fun _ => ⟨mgd 1299 (by decide +kernel) rfl, mgd 131 (by decide +kernel) rfl⟩, fun h => absurd h (by decide), fun h => absurd h (by decide), by decide⟩
theorem ca_7_264 : cfact 7 264 0 203 := ⟨(yX7_collides, cX7_collides, 4, (some FieldType.boolean), 1, 7, 0, 0), rfl, ⟨fun h => (by cases h), fun _ => mgd 1289 (by decide +kernel) rfl⟩, fun _ => ⟨mgd 1291 (by decide +kernel) rfl, mgd 129 (by decide +kernel) rfl⟩, fun h => absurd h (by decide), fun h => absurd h (by decide), by decide⟩
theorem ca_7_267 : cfact 7 267 0 202 := ⟨(yX7_isPossible, cX7_isPossible, 2, (some FieldType.boolean), 0, 7, 0, 0), rfl, ⟨fun h => (by cases h), fun _ => mgd 1285 (by decide +kernel) rfl⟩, fun _ => ⟨mgd 1287 (by decide +kernel) rfl, mgd 128 (by decide +kernel) rfl⟩, fun h => absurd h (by decide), fun h => absurd h (by decide), by decide⟩
theorem ca_7_273 : cfact 7 273 0 206 := ⟨(yX7_isAbove, cX7_isAbove, 2, (some FieldType.boolean), 1, 7, 0, 0), rfl, ⟨fun h => (by cases h), fun _ => mgd 1301 (by decide +kernel) rfl⟩, fun _ => ⟨mgd 1303 (by decide +kernel) rfl, mgd 132 (by decide +kernel) rfl⟩, fun h => absurd h (by decide), fun h => absurd h (by decide), by decide⟩
theorem ca_7_276 : cfact 7 276 0 201 := ⟨(yX7_gives, cX7_gives, 3, none, 1, 7, 0, 0), rfl, ⟨fun h => (by cases h), fun _ => mgd 1281 (by decide +kernel) rfl⟩, fun _ => ⟨mgd 1283 (by decide +kernel) rfl, mgd 127 (by decide +kernel) rfl⟩, fun h => absurd h (by decide), fun h => absurd h (by decide), by decide⟩
theorem ca_7_279 : cfact 7 279 0 199 := ⟨(yX7_wrongStrip, cX7_wrongStrip, 2, (some FieldType.int), 1, 7, 0, 0), rfl, ⟨fun h => (by cases h), fun _ => mgd 1273 (by decide +kernel) rfl⟩, fun _ => ⟨mgd 1275 (by decide +kernel) rfl, mgd 125 (by decide +kernel) rfl⟩, fun h => absurd h (by decide), fun h => absurd h (by decide), by decide⟩
theorem ca_7_282 : cfact 7 282 0 200 := ⟨(yX7_ordersOf, cX7_ordersOf, 3, (some FieldType.int), 1, 7, 0, 0), rfl, ⟨fun h => (by cases h), fun _ => mgd 1277 (by decide +kernel) rfl⟩, fun _ => ⟨mgd 1279 (by decide +kernel) rfl, mgd 126 (by decide +kernel) rfl⟩, fun h => absurd h (by decide), fun h => absurd h (by decide), by decide⟩
theorem ca_7_285 : cfact 7 285 0 209 := ⟨(yX7_isStripWithout, cX7_isStripWithout, 4, (some FieldType.boolean), 3, 7, 0, 0), rfl, ⟨fun h => (by cases h), fun _ => mgd 1313 (by decide +kernel) rfl⟩, fun _ => ⟨mgd 1315 (by decide +kernel) rfl, mgd 133 (by decide +kernel) rfl⟩, fun h => absurd h (by decide), fun h => absurd h (by decide), by decide⟩
theorem ca_7_288 : cfact 7 288 0 212 := ⟨(yX7_overAt, cX7_overAt, 7, (some FieldType.int), 2, 7, 0, 0), rfl, ⟨fun h => (by cases h), fun _ => mgd 1325 (by decide +kernel) rfl⟩, fun _ => ⟨mgd 1327 (by decide +kernel) rfl, mgd 134 (by decide +kernel) rfl⟩, fun h => absurd h (by decide), fun h => absurd h (by decide), by decide⟩
theorem ca_7_297 : cfact 7 297 0 218 := ⟨(yX7_sign, cX7_sign, 1, (some FieldType.int), 0, 7, 0, 0), rfl, ⟨fun h => (by cases h), fun _ => mgd 1349 (by decide +kernel) rfl⟩, fun _ => ⟨mgd 1351 (by decide +kernel) rfl, mgd 137 (by decide +kernel) rfl⟩, fun h => absurd h (by decide), fun h => absurd h (by decide), by decide⟩
theorem ca_7_309 : cfact 7 309 2 222 := ⟨(yX7_kindOf, cX7_kindOf, 1, (some FieldType.int), 1, 7, 0, 0), rfl, ⟨fun h => (by cases h), fun _ => mgd 1365 (by decide +kernel) rfl⟩, fun h => absurd h (by decide), fun _ => mgd 1366 (by decide +kernel) rfl, fun h => absurd h (by decide), by decide⟩
theorem ca_7_312 : cfact 7 312 0 220 := ⟨(yX7_takes, cX7_takes, 3, (some FieldType.boolean), 1, 7, 0, 0), rfl, ⟨fun h => (by cases h), fun _ => mgd 1357 (by decide +kernel) rfl⟩, fun _ => ⟨mgd 1359 (by decide +kernel) rfl, mgd 139 (by decide +kernel) rfl⟩, fun h => absurd h (by decide), fun h => absurd h (by decide), by decide⟩
theorem ca_7_315 : cfact 7 315 0 223 := ⟨(yX7_digit, cX7_digit, 1, (some FieldType.int), 0, 7, 0, 0), rfl, ⟨fun h => (by cases h), fun _ => mgd 1368 (by decide +kernel) rfl⟩, fun _ => ⟨mgd 1370 (by decide +kernel) rfl, mgd 141 (by decide +kernel) rfl⟩, fun h => absurd h (by decide), fun h => absurd h (by decide), by decide⟩
theorem ca_7_324 : cfact 7 324 0 219 := ⟨(yX7_readsSizes, cX7_readsSizes, 2, (some FieldType.boolean), 0, 7, 0, 0), rfl, ⟨fun h => (by cases h), fun _ => mgd 1353 (by decide +kernel) rfl⟩, fun _ => ⟨mgd 1355 (by decide +kernel) rfl, mgd 138 (by decide +kernel) rfl⟩, fun h => absurd h (by decide), fun h => absurd h (by decide), by decide⟩
theorem ca_7_327 : cfact 7 327 0 221 := ⟨(yX7_readsSigns, cX7_readsSigns, 1, (some FieldType.boolean), 0, 7, 0, 0), rfl, ⟨fun h => (by cases h), fun _ => mgd 1361 (by decide +kernel) rfl⟩, fun _ => ⟨mgd 1363 (by decide +kernel) rfl, mgd 140 (by decide +kernel) rfl⟩, fun h => absurd h (by decide), fun h => absurd h (by decide), by decide⟩
theorem ca_7_330 : cfact 7 330 0 224 := ⟨(yX7_readsMark, cX7_readsMark, 1, (some FieldType.boolean), 0, 7, 0, 0), rfl, ⟨fun h => (by cases h), fun _ => mgd 1372 (by decide +kernel) rfl⟩, fun _ => ⟨mgd 1374 (by decide +kernel) rfl, mgd 142 (by decide +kernel) rfl⟩, fun h => absurd h (by decide), fun h => absurd h (by decide), by decide⟩
theorem ca_7_333 : cfact 7 333 0 217 := ⟨(yX7_readsCommand, cX7_readsCommand, 1, (some FieldType.boolean), 0, 7, 0, 0), rfl, ⟨fun h => (by cases h), fun _ => mgd 1345 (by decide +kernel) rfl⟩, fun _ => ⟨mgd 1347 (by decide +kernel) rfl, mgd 136 (by decide +kernel) rfl⟩, fun h => absurd h (by decide), fun h => absurd h (by decide), by decide⟩
theorem ca_7_336 : cfact 7 336 0 227 := ⟨(yX7_addsSigned, cX7_addsSigned, 3, (some FieldType.int), 0, 7, 0, 0), rfl, ⟨fun h => (by cases h), fun _ => mgd 1384 (by decide +kernel) rfl⟩, fun _ => ⟨mgd 1386 (by decide +kernel) rfl, mgd 145 (by decide +kernel) rfl⟩, fun h => absurd h (by decide), fun h => absurd h (by decide), by decide⟩
theorem ca_7_339 : cfact 7 339 0 226 := ⟨(yX7_does, cX7_does, 1, (some FieldType.int), 0, 7, 0, 0), rfl, ⟨fun h => (by cases h), fun _ => mgd 1380 (by decide +kernel) rfl⟩, fun _ => ⟨mgd 1382 (by decide +kernel) rfl, mgd 144 (by decide +kernel) rfl⟩, fun h => absurd h (by decide), fun h => absurd h (by decide), by decide⟩
theorem ca_7_342 : cfact 7 342 0 216 := ⟨(yX7_isText, cX7_isText, 2, (some FieldType.boolean), 0, 7, 0, 0), rfl, ⟨fun h => (by cases h), fun _ => mgd 1341 (by decide +kernel) rfl⟩, fun _ => ⟨mgd 1343 (by decide +kernel) rfl, mgd 135 (by decide +kernel) rfl⟩, fun h => absurd h (by decide), fun h => absurd h (by decide), by decide⟩
theorem ca_7_345 : cfact 7 345 0 225 := ⟨(yX7_doesAll, cX7_doesAll, 4, (some FieldType.int), 0, 7, 0, 0), rfl, ⟨fun h => (by cases h), fun _ => mgd 1376 (by decide +kernel) rfl⟩, fun _ => ⟨mgd 1378 (by decide +kernel) rfl, mgd 143 (by decide +kernel) rfl⟩, fun h => absurd h (by decide), fun h => absurd h (by decide), by decide⟩
theorem ca_7_348 : cfact 7 348 0 194 := ⟨(yX7_piece, cX7_piece, 3, (some FieldType.int), 2, 7, 0, 0), rfl, ⟨fun h => (by cases h), fun _ => mgd 1400 (by decide +kernel) rfl⟩, fun _ => ⟨mgd 1254 (by decide +kernel) rfl, mgd 1255 (by decide +kernel) rfl⟩, fun h => absurd h (by decide), fun h => absurd h (by decide), by decide⟩
theorem ca_7_351 : cfact 7 351 0 230 := ⟨(yX7_allOf, cX7_allOf, 4, (some FieldType.int), 1, 7, 0, 0), rfl, ⟨fun h => (by cases h), fun _ => mgd 1396 (by decide +kernel) rfl⟩, fun _ => ⟨mgd 1398 (by decide +kernel) rfl, mgd 146 (by decide +kernel) rfl⟩, fun h => absurd h (by decide), fun h => absurd h (by decide), by decide⟩
theorem ca_7_354 : cfact 7 354 0 231 := ⟨(yX7_panelsOfAll, cX7_panelsOfAll, 3, (some FieldType.int), 0, 7, 0, 0), rfl, ⟨fun h => (by cases h), fun _ => mgd 1401 (by decide +kernel) rfl⟩, fun _ => ⟨mgd 1403 (by decide +kernel) rfl, mgd 147 (by decide +kernel) rfl⟩, fun h => absurd h (by decide), fun h => absurd h (by decide), by decide⟩
theorem ca_7_357 : cfact 7 357 2 237 := ⟨(yJxf58ca_floatToIntBits_5c35a, cJxf58ca_floatToIntBits_5c35a, 1, (some FieldType.int), 1, 10, 0, 0), rfl, ⟨fun h => (by cases h), fun _ => mgd 1409 (by decide +kernel) rfl⟩, fun h => absurd h (by decide), fun _ => mgd 1410 (by decide +kernel) rfl, fun h => absurd h (by decide), by decide⟩
theorem cal7_ok : ∀ q ∈ cal7, cfact 7 q.1 q.2.1 q.2.2 := List.forall_mem_cons.mpr ⟨ca_7_3, List.forall_mem_cons.mpr ⟨ca_7_54, List.forall_mem_cons.mpr ⟨ca_7_61, List.forall_mem_cons.mpr ⟨ca_7_65, List.forall_mem_cons.mpr ⟨ca_7_74, List.forall_mem_cons.mpr ⟨ca_7_78, List.forall_mem_cons.mpr ⟨ca_7_81, List.forall_mem_cons.mpr ⟨ca_7_85, List.forall_mem_cons.mpr ⟨ca_7_88, List.forall_mem_cons.mpr ⟨ca_7_92, List.forall_mem_cons.mpr ⟨ca_7_95, List.forall_mem_cons.mpr ⟨ca_7_98, List.forall_mem_cons.mpr ⟨ca_7_101, List.forall_mem_cons.mpr ⟨ca_7_104, List.forall_mem_cons.mpr ⟨ca_7_107, List.forall_mem_cons.mpr ⟨ca_7_111, List.forall_mem_cons.mpr ⟨ca_7_114, List.forall_mem_cons.mpr ⟨ca_7_117, List.forall_mem_cons.mpr ⟨ca_7_120, List.forall_mem_cons.mpr ⟨ca_7_124, List.forall_mem_cons.mpr ⟨ca_7_127, List.forall_mem_cons.mpr ⟨ca_7_130, List.forall_mem_cons.mpr ⟨ca_7_133, List.forall_mem_cons.mpr ⟨ca_7_136, List.forall_mem_cons.mpr ⟨ca_7_139, List.forall_mem_cons.mpr ⟨ca_7_142, List.forall_mem_cons.mpr ⟨ca_7_145, List.forall_mem_cons.mpr ⟨ca_7_148, List.forall_mem_cons.mpr ⟨ca_7_152, List.forall_mem_cons.mpr ⟨ca_7_155, List.forall_mem_cons.mpr ⟨ca_7_158, List.forall_mem_cons.mpr ⟨ca_7_168, List.forall_mem_cons.mpr ⟨ca_7_172, List.forall_mem_cons.mpr ⟨ca_7_175, List.forall_mem_cons.mpr ⟨ca_7_178, List.forall_mem_cons.mpr ⟨ca_7_181, List.forall_mem_cons.mpr ⟨ca_7_184, List.forall_mem_cons.mpr ⟨ca_7_187, List.forall_mem_cons.mpr ⟨ca_7_190, List.forall_mem_cons.mpr ⟨ca_7_193, List.forall_mem_cons.mpr ⟨ca_7_196, List.forall_mem_cons.mpr ⟨ca_7_199, List.forall_mem_cons.mpr ⟨ca_7_203, List.forall_mem_cons.mpr ⟨ca_7_206, List.forall_mem_cons.mpr ⟨ca_7_209, List.forall_mem_cons.mpr ⟨ca_7_212, List.forall_mem_cons.mpr ⟨ca_7_215, List.forall_mem_cons.mpr ⟨ca_7_219, List.forall_mem_cons.mpr ⟨ca_7_222, List.forall_mem_cons.mpr ⟨ca_7_225, List.forall_mem_cons.mpr ⟨ca_7_228, List.forall_mem_cons.mpr ⟨ca_7_231, List.forall_mem_cons.mpr ⟨ca_7_234, List.forall_mem_cons.mpr ⟨ca_7_237, List.forall_mem_cons.mpr ⟨ca_7_240, List.forall_mem_cons.mpr ⟨ca_7_243, List.forall_mem_cons.mpr ⟨ca_7_246, List.forall_mem_cons.mpr ⟨ca_7_249, List.forall_mem_cons.mpr ⟨ca_7_258, List.forall_mem_cons.mpr ⟨ca_7_261, List.forall_mem_cons.mpr ⟨ca_7_264, List.forall_mem_cons.mpr ⟨ca_7_267, List.forall_mem_cons.mpr ⟨ca_7_273, List.forall_mem_cons.mpr ⟨ca_7_276, List.forall_mem_cons.mpr ⟨ca_7_279, List.forall_mem_cons.mpr ⟨ca_7_282, List.forall_mem_cons.mpr ⟨ca_7_285, List.forall_mem_cons.mpr ⟨ca_7_288, List.forall_mem_cons.mpr ⟨ca_7_297, List.forall_mem_cons.mpr ⟨ca_7_309, List.forall_mem_cons.mpr ⟨ca_7_312, List.forall_mem_cons.mpr ⟨ca_7_315, List.forall_mem_cons.mpr ⟨ca_7_324, List.forall_mem_cons.mpr ⟨ca_7_327, List.forall_mem_cons.mpr ⟨ca_7_330, List.forall_mem_cons.mpr ⟨ca_7_333, List.forall_mem_cons.mpr ⟨ca_7_336, List.forall_mem_cons.mpr ⟨ca_7_339, List.forall_mem_cons.mpr ⟨ca_7_342, List.forall_mem_cons.mpr ⟨ca_7_345, List.forall_mem_cons.mpr ⟨ca_7_348, List.forall_mem_cons.mpr ⟨ca_7_351, List.forall_mem_cons.mpr ⟨ca_7_354, List.forall_mem_cons.mpr ⟨ca_7_357, fun _ h => absurd h List.not_mem_nil⟩⟩⟩⟩⟩⟩⟩⟩⟩⟩⟩⟩⟩⟩⟩⟩⟩⟩⟩⟩⟩⟩⟩⟩⟩⟩⟩⟩⟩⟩⟩⟩⟩⟩⟩⟩⟩⟩⟩⟩⟩⟩⟩⟩⟩⟩⟩⟩⟩⟩⟩⟩⟩⟩⟩⟩⟩⟩⟩⟩⟩⟩⟩⟩⟩⟩⟩⟩⟩⟩⟩⟩⟩⟩⟩⟩⟩⟩⟩⟩⟩⟩⟩⟩
def cal8 : List (Nat × Nat × Nat) := [(9, 4, 0), (12, 4, 122), (13, 0, 7), (17, 0, 182), (18, 0, 20), (22, 0, 123), (23, 0, 28), (26, 0, 141), (27, 0, 30), (30, 0, 147), (31, 0, 33), (35, 0, 150), (36, 0, 36), (39, 0, 153), (40, 0, 39), (43, 0, 156), (44, 0, 41), (47, 0, 187), (48, 0, 56), (51, 0, 190), (52, 0, 57), (55, 0, 192), (56, 0, 58), (59, 0, 194), (60, 0, 59), (63, 0, 196), (64, 0, 60), (67, 0, 197), (68, 0, 61), (71, 0, 159), (72, 0, 62), (75, 0, 198), (76, 0, 73), (79, 0, 175), (80, 0, 74), (83, 0, 176), (84, 0, 75), (87, 0, 177), (88, 0, 80), (91, 0, 181), (92, 0, 82), (95, 0, 210), (96, 0, 83), (99, 0, 208), (100, 0, 84), (103, 0, 207), (104, 0, 85), (107, 0, 211), (108, 0, 90), (111, 0, 213), (112, 0, 92), (115, 0, 214), (116, 0, 94), (120, 0, 215), (121, 0, 109), (124, 0, 228), (125, 0, 110), (128, 0, 229), (129, 0, 115), (132, 0, 232), (133, 0, 117), (136, 0, 233), (137, 0, 119), (140, 0, 234), (141, 0, 120), (144, 0, 235)]
theorem ca_8_9 : cfact 8 9 4 0 := ⟨(yX6_init, cX6_init, 1, none, 0, 6, 300, 2149), rfl, ⟨fun h => (by cases h), fun _ => mgd 161 (by decide +kernel) rfl⟩, fun h => absurd h (by decide), fun h => absurd h (by decide), fun _ => ⟨mgd 162 (by decide +kernel) rfl, rfl⟩, by decide⟩
theorem ca_8_12 : cfact 8 12 4 122 := ⟨(yX7_init, cX7_init, 1, none, 0, 7, 13, 1846), rfl, ⟨fun h => (by cases h), fun _ => mgd 879 (by decide +kernel) rfl⟩, fun h => absurd h (by decide), fun h => absurd h (by decide), fun _ => ⟨mgd 880 (by decide +kernel) rfl, rfl⟩, by decide⟩
theorem ca_8_13 : cfact 8 13 0 7 := ⟨(yX6_stage, cX6_stage, 4, (some FieldType.int), 1, 6, 0, 0), rfl, ⟨fun h => (by cases h), fun _ => mgd 369 (by decide +kernel) rfl⟩, fun _ => ⟨mgd 370 (by decide +kernel) rfl, mgd 371 (by decide +kernel) rfl⟩, fun h => absurd h (by decide), fun h => absurd h (by decide), by decide⟩
theorem ca_8_17 : cfact 8 17 0 182 := ⟨(yX7_stage, cX7_stage, 2, (some FieldType.int), 1, 7, 0, 0), rfl, ⟨fun h => (by cases h), fun _ => mgd 1205 (by decide +kernel) rfl⟩, fun _ => ⟨mgd 1206 (by decide +kernel) rfl, mgd 1207 (by decide +kernel) rfl⟩, fun h => absurd h (by decide), fun h => absurd h (by decide), by decide⟩
theorem ca_8_18 : cfact 8 18 0 20 := ⟨(yX6_add, cX6_add, 4, (some FieldType.int), 3, 6, 0, 0), rfl, ⟨fun h => (by cases h), fun _ => mgd 426 (by decide +kernel) rfl⟩, fun _ => ⟨mgd 427 (by decide +kernel) rfl, mgd 428 (by decide +kernel) rfl⟩, fun h => absurd h (by decide), fun h => absurd h (by decide), by decide⟩
theorem ca_8_22 : cfact 8 22 0 123 := ⟨(yX7_add, cX7_add, 4, (some FieldType.int), 3, 7, 0, 0), rfl, ⟨fun h => (by cases h), fun _ => mgd 975 (by decide +kernel) rfl⟩, fun _ => ⟨mgd 976 (by decide +kernel) rfl, mgd 977 (by decide +kernel) rfl⟩, fun h => absurd h (by decide), fun h => absurd h (by decide), by decide⟩
theorem ca_8_23 : cfact 8 23 0 28 := ⟨(yX6_mark, cX6_mark, 6, (some FieldType.int), 3, 6, 0, 0), rfl, ⟨fun h => (by cases h), fun _ => mgd 456 (by decide +kernel) rfl⟩, fun _ => ⟨mgd 457 (by decide +kernel) rfl, mgd 458 (by decide +kernel) rfl⟩, fun h => absurd h (by decide), fun h => absurd h (by decide), by decide⟩
theorem ca_8_26 : cfact 8 26 0 141 := ⟨(yX7_mark, cX7_mark, 4, (some FieldType.int), 3, 7, 0, 0), rfl, ⟨fun h => (by cases h), fun _ => mgd 1043 (by decide +kernel) rfl⟩, fun _ => ⟨mgd 1044 (by decide +kernel) rfl, mgd 1045 (by decide +kernel) rfl⟩, fun h => absurd h (by decide), fun h => absurd h (by decide), by decide⟩
theorem ca_8_27 : cfact 8 27 0 30 := ⟨(yX6_turn, cX6_turn, 3, (some FieldType.int), 1, 6, 0, 0), rfl, ⟨fun h => (by cases h), fun _ => mgd 468 (by decide +kernel) rfl⟩, fun _ => ⟨mgd 469 (by decide +kernel) rfl, mgd 470 (by decide +kernel) rfl⟩, fun h => absurd h (by decide), fun h => absurd h (by decide), by decide⟩
theorem ca_8_30 : cfact 8 30 0 147 := ⟨(yX7_turn, cX7_turn, 2, (some FieldType.int), 1, 7, 0, 0), rfl, ⟨fun h => (by cases h), fun _ => mgd 1067 (by decide +kernel) rfl⟩, fun _ => ⟨mgd 1068 (by decide +kernel) rfl, mgd 1069 (by decide +kernel) rfl⟩, fun h => absurd h (by decide), fun h => absurd h (by decide), by decide⟩
theorem ca_8_31 : cfact 8 31 0 33 := ⟨(yX6_rotate, cX6_rotate, 4, (some FieldType.int), 2, 6, 0, 0), rfl, ⟨fun h => (by cases h), fun _ => mgd 481 (by decide +kernel) rfl⟩, fun _ => ⟨mgd 482 (by decide +kernel) rfl, mgd 483 (by decide +kernel) rfl⟩, fun h => absurd h (by decide), fun h => absurd h (by decide), by decide⟩
theorem ca_8_35 : cfact 8 35 0 150 := ⟨(yX7_rotate, cX7_rotate, 3, (some FieldType.int), 2, 7, 0, 0), rfl, ⟨fun h => (by cases h), fun _ => mgd 1079 (by decide +kernel) rfl⟩, fun _ => ⟨mgd 1080 (by decide +kernel) rfl, mgd 1081 (by decide +kernel) rfl⟩, fun h => absurd h (by decide), fun h => absurd h (by decide), by decide⟩
theorem ca_8_36 : cfact 8 36 0 36 := ⟨(yX6_join, cX6_join, 7, (some FieldType.int), 3, 6, 0, 0), rfl, ⟨fun h => (by cases h), fun _ => mgd 494 (by decide +kernel) rfl⟩, fun _ => ⟨mgd 495 (by decide +kernel) rfl, mgd 496 (by decide +kernel) rfl⟩, fun h => absurd h (by decide), fun h => absurd h (by decide), by decide⟩
theorem ca_8_39 : cfact 8 39 0 153 := ⟨(yX7_join, cX7_join, 4, (some FieldType.int), 3, 7, 0, 0), rfl, ⟨fun h => (by cases h), fun _ => mgd 1091 (by decide +kernel) rfl⟩, fun _ => ⟨mgd 1092 (by decide +kernel) rfl, mgd 1093 (by decide +kernel) rfl⟩, fun h => absurd h (by decide), fun h => absurd h (by decide), by decide⟩
theorem ca_8_40 : cfact 8 40 0 39 := ⟨(yX6_cut, cX6_cut, 6, (some FieldType.int), 2, 6, 0, 0), rfl, ⟨fun h => (by cases h), fun _ => mgd 506 (by decide +kernel) rfl⟩, fun _ => ⟨mgd 507 (by decide +kernel) rfl, mgd 508 (by decide +kernel) rfl⟩, fun h => absurd h (by decide), fun h => absurd h (by decide), by decide⟩
theorem ca_8_43 : cfact 8 43 0 156 := ⟨(yX7_cut, cX7_cut, 3, (some FieldType.int), 2, 7, 0, 0), rfl, ⟨fun h => (by cases h), fun _ => mgd 1103 (by decide +kernel) rfl⟩, fun _ => ⟨mgd 1104 (by decide +kernel) rfl, mgd 1105 (by decide +kernel) rfl⟩, fun h => absurd h (by decide), fun h => absurd h (by decide), by decide⟩
theorem ca_8_44 : cfact 8 44 0 41 := ⟨(yX6_fold, cX6_fold, 6, (some FieldType.int), 1, 6, 0, 0), rfl, ⟨fun h => (by cases h), fun _ => mgd 515 (by decide +kernel) rfl⟩, fun _ => ⟨mgd 516 (by decide +kernel) rfl, mgd 517 (by decide +kernel) rfl⟩, fun h => absurd h (by decide), fun h => absurd h (by decide), by decide⟩
theorem ca_8_47 : cfact 8 47 0 187 := ⟨(yX7_fold, cX7_fold, 2, (some FieldType.int), 1, 7, 0, 0), rfl, ⟨fun h => (by cases h), fun _ => mgd 1225 (by decide +kernel) rfl⟩, fun _ => ⟨mgd 1226 (by decide +kernel) rfl, mgd 1227 (by decide +kernel) rfl⟩, fun h => absurd h (by decide), fun h => absurd h (by decide), by decide⟩
theorem ca_8_48 : cfact 8 48 0 56 := ⟨(yX6_unfold, cX6_unfold, 3, (some FieldType.int), 1, 6, 0, 0), rfl, ⟨fun h => (by cases h), fun _ => mgd 587 (by decide +kernel) rfl⟩, fun _ => ⟨mgd 588 (by decide +kernel) rfl, mgd 589 (by decide +kernel) rfl⟩, fun h => absurd h (by decide), fun h => absurd h (by decide), by decide⟩
theorem ca_8_51 : cfact 8 51 0 190 := ⟨(yX7_unfold, cX7_unfold, 2, (some FieldType.int), 1, 7, 0, 0), rfl, ⟨fun h => (by cases h), fun _ => mgd 1237 (by decide +kernel) rfl⟩, fun _ => ⟨mgd 1238 (by decide +kernel) rfl, mgd 1239 (by decide +kernel) rfl⟩, fun h => absurd h (by decide), fun h => absurd h (by decide), by decide⟩
theorem ca_8_52 : cfact 8 52 0 57 := ⟨(yX6_drop, cX6_drop, 2, (some FieldType.int), 1, 6, 0, 0), rfl, ⟨fun h => (by cases h), fun _ => mgd 591 (by decide +kernel) rfl⟩, fun _ => ⟨mgd 592 (by decide +kernel) rfl, mgd 593 (by decide +kernel) rfl⟩, fun h => absurd h (by decide), fun h => absurd h (by decide), by decide⟩
theorem ca_8_55 : cfact 8 55 0 192 := ⟨(yX7_drop, cX7_drop, 2, (some FieldType.int), 1, 7, 0, 0), rfl, ⟨fun h => (by cases h), fun _ => mgd 1245 (by decide +kernel) rfl⟩, fun _ => ⟨mgd 1246 (by decide +kernel) rfl, mgd 1247 (by decide +kernel) rfl⟩, fun h => absurd h (by decide), fun h => absurd h (by decide), by decide⟩
theorem ca_8_56 : cfact 8 56 0 58 := ⟨(yX6_piece, cX6_piece, 4, (some FieldType.int), 2, 6, 0, 0), rfl, ⟨fun h => (by cases h), fun _ => mgd 595 (by decide +kernel) rfl⟩, fun _ => ⟨mgd 596 (by decide +kernel) rfl, mgd 597 (by decide +kernel) rfl⟩, fun h => absurd h (by decide), fun h => absurd h (by decide), by decide⟩
theorem ca_8_59 : cfact 8 59 0 194 := ⟨(yX7_piece, cX7_piece, 3, (some FieldType.int), 2, 7, 0, 0), rfl, ⟨fun h => (by cases h), fun _ => mgd 1253 (by decide +kernel) rfl⟩, fun _ => ⟨mgd 1254 (by decide +kernel) rfl, mgd 1255 (by decide +kernel) rfl⟩, fun h => absurd h (by decide), fun h => absurd h (by decide), by decide⟩
theorem ca_8_60 : cfact 8 60 0 59 := ⟨(yX6_size, cX6_size, 4, (some FieldType.int), 2, 6, 0, 0), rfl, ⟨fun h => (by cases h), fun _ => mgd 600 (by decide +kernel) rfl⟩, fun _ => ⟨mgd 601 (by decide +kernel) rfl, mgd 602 (by decide +kernel) rfl⟩, fun h => absurd h (by decide), fun h => absurd h (by decide), by decide⟩
theorem ca_8_63 : cfact 8 63 0 196 := ⟨(yX7_size, cX7_size, 3, (some FieldType.int), 2, 7, 0, 0), rfl, ⟨fun h => (by cases h), fun _ => mgd 1261 (by decide +kernel) rfl⟩, fun _ => ⟨mgd 1262 (by decide +kernel) rfl, mgd 1263 (by decide +kernel) rfl⟩, fun h => absurd h (by decide), fun h => absurd h (by decide), by decide⟩
theorem ca_8_64 : cfact 8 64 0 60 := ⟨(yX6_crease, cX6_crease, 4, (some FieldType.int), 2, 6, 0, 0), rfl, ⟨fun h => (by cases h), fun _ => mgd 604 (by decide +kernel) rfl⟩, fun _ => ⟨mgd 605 (by decide +kernel) rfl, mgd 606 (by decide +kernel) rfl⟩, fun h => absurd h (by decide), fun h => absurd h (by decide), by decide⟩
theorem ca_8_67 : cfact 8 67 0 197 := ⟨(yX7_crease, cX7_crease, 3, (some FieldType.int), 2, 7, 0, 0), rfl, ⟨fun h => (by cases h), fun _ => mgd 1265 (by decide +kernel) rfl⟩, fun _ => ⟨mgd 1266 (by decide +kernel) rfl, mgd 1267 (by decide +kernel) rfl⟩, fun h => absurd h (by decide), fun h => absurd h (by decide), by decide⟩
theorem ca_8_68 : cfact 8 68 0 61 := ⟨(yX6_why, cX6_why, 3, (some FieldType.int), 1, 6, 0, 0), rfl, ⟨fun h => (by cases h), fun _ => mgd 608 (by decide +kernel) rfl⟩, fun _ => ⟨mgd 609 (by decide +kernel) rfl, mgd 610 (by decide +kernel) rfl⟩, fun h => absurd h (by decide), fun h => absurd h (by decide), by decide⟩
theorem ca_8_71 : cfact 8 71 0 159 := ⟨(yX7_why, cX7_why, 2, (some FieldType.int), 1, 7, 0, 0), rfl, ⟨fun h => (by cases h), fun _ => mgd 1114 (by decide +kernel) rfl⟩, fun _ => ⟨mgd 1115 (by decide +kernel) rfl, mgd 1116 (by decide +kernel) rfl⟩, fun h => absurd h (by decide), fun h => absurd h (by decide), by decide⟩
theorem ca_8_72 : cfact 8 72 0 62 := ⟨(yX6_foldsAgain, cX6_foldsAgain, 4, (some FieldType.int), 1, 6, 0, 0), rfl, ⟨fun h => (by cases h), fun _ => mgd 612 (by decide +kernel) rfl⟩, fun _ => ⟨mgd 613 (by decide +kernel) rfl, mgd 614 (by decide +kernel) rfl⟩, fun h => absurd h (by decide), fun h => absurd h (by decide), by decide⟩
theorem ca_8_75 : cfact 8 75 0 198 := ⟨(yX7_foldsAgain, cX7_foldsAgain, 3, (some FieldType.int), 1, 7, 0, 0), rfl, ⟨fun h => (by cases h), fun _ => mgd 1269 (by decide +kernel) rfl⟩, fun _ => ⟨mgd 1270 (by decide +kernel) rfl, mgd 1271 (by decide +kernel) rfl⟩, fun h => absurd h (by decide), fun h => absurd h (by decide), by decide⟩
theorem ca_8_76 : cfact 8 76 0 73 := ⟨(yX6_step, cX6_step, 4, (some FieldType.int), 1, 6, 0, 0), rfl, ⟨fun h => (by cases h), fun _ => mgd 662 (by decide +kernel) rfl⟩, fun _ => ⟨mgd 663 (by decide +kernel) rfl, mgd 664 (by decide +kernel) rfl⟩, fun h => absurd h (by decide), fun h => absurd h (by decide), by decide⟩
theorem ca_8_79 : cfact 8 79 0 175 := ⟨(yX7_step, cX7_step, 3, (some FieldType.int), 1, 7, 0, 0), rfl, ⟨fun h => (by cases h), fun _ => mgd 1177 (by decide +kernel) rfl⟩, fun _ => ⟨mgd 1178 (by decide +kernel) rfl, mgd 1179 (by decide +kernel) rfl⟩, fun h => absurd h (by decide), fun h => absurd h (by decide), by decide⟩
theorem ca_8_80 : cfact 8 80 0 74 := ⟨(yX6_steps, cX6_steps, 3, (some FieldType.int), 1, 6, 0, 0), rfl, ⟨fun h => (by cases h), fun _ => mgd 668 (by decide +kernel) rfl⟩, fun _ => ⟨mgd 669 (by decide +kernel) rfl, mgd 670 (by decide +kernel) rfl⟩, fun h => absurd h (by decide), fun h => absurd h (by decide), by decide⟩
theorem ca_8_83 : cfact 8 83 0 176 := ⟨(yX7_steps, cX7_steps, 2, (some FieldType.int), 1, 7, 0, 0), rfl, ⟨fun h => (by cases h), fun _ => mgd 1181 (by decide +kernel) rfl⟩, fun _ => ⟨mgd 1182 (by decide +kernel) rfl, mgd 1183 (by decide +kernel) rfl⟩, fun h => absurd h (by decide), fun h => absurd h (by decide), by decide⟩
theorem ca_8_84 : cfact 8 84 0 75 := ⟨(yX6_ways, cX6_ways, 3, (some FieldType.int), 1, 6, 0, 0), rfl, ⟨fun h => (by cases h), fun _ => mgd 673 (by decide +kernel) rfl⟩, fun _ => ⟨mgd 674 (by decide +kernel) rfl, mgd 675 (by decide +kernel) rfl⟩, fun h => absurd h (by decide), fun h => absurd h (by decide), by decide⟩
theorem ca_8_87 : cfact 8 87 0 177 := ⟨(yX7_ways, cX7_ways, 4, (some FieldType.int), 1, 7, 0, 0), rfl, ⟨fun h => (by cases h), fun _ => mgd 1185 (by decide +kernel) rfl⟩, fun _ => ⟨mgd 1186 (by decide +kernel) rfl, mgd 1187 (by decide +kernel) rfl⟩, fun h => absurd h (by decide), fun h => absurd h (by decide), by decide⟩
theorem ca_8_88 : cfact 8 88 0 80 := ⟨(yX6_fewest, cX6_fewest, 3, (some FieldType.int), 1, 6, 0, 0), rfl, ⟨fun h => (by cases h), fun _ => mgd 691 (by decide +kernel) rfl⟩, fun _ => ⟨mgd 692 (by decide +kernel) rfl, mgd 693 (by decide +kernel) rfl⟩, fun h => absurd h (by decide), fun h => absurd h (by decide), by decide⟩
theorem ca_8_91 : cfact 8 91 0 181 := ⟨(yX7_fewest, cX7_fewest, 5, (some FieldType.int), 1, 7, 0, 0), rfl, ⟨fun h => (by cases h), fun _ => mgd 1201 (by decide +kernel) rfl⟩, fun _ => ⟨mgd 1202 (by decide +kernel) rfl, mgd 1203 (by decide +kernel) rfl⟩, fun h => absurd h (by decide), fun h => absurd h (by decide), by decide⟩
theorem ca_8_92 : cfact 8 92 0 82 := ⟨(yX6_place, cX6_place, 4, (some FieldType.int), 2, 6, 0, 0), rfl, ⟨fun h => (by cases h), fun _ => mgd 699 (by decide +kernel) rfl⟩, fun _ => ⟨mgd 700 (by decide +kernel) rfl, mgd 701 (by decide +kernel) rfl⟩, fun h => absurd h (by decide), fun h => absurd h (by decide), by decide⟩
theorem ca_8_95 : cfact 8 95 0 210 := ⟨(yX7_place, cX7_place, 3, (some FieldType.int), 2, 7, 0, 0), rfl, ⟨fun h => (by cases h), fun _ => mgd 1317 (by decide +kernel) rfl⟩, fun _ => ⟨mgd 1318 (by decide +kernel) rfl, mgd 1319 (by decide +kernel) rfl⟩, fun h => absurd h (by decide), fun h => absurd h (by decide), by decide⟩
theorem ca_8_96 : cfact 8 96 0 83 := ⟨(yX6_layer, cX6_layer, 5, (some FieldType.int), 2, 6, 0, 0), rfl, ⟨fun h => (by cases h), fun _ => mgd 704 (by decide +kernel) rfl⟩, fun _ => ⟨mgd 705 (by decide +kernel) rfl, mgd 706 (by decide +kernel) rfl⟩, fun h => absurd h (by decide), fun h => absurd h (by decide), by decide⟩
theorem ca_8_99 : cfact 8 99 0 208 := ⟨(yX7_layer, cX7_layer, 4, (some FieldType.int), 2, 7, 0, 0), rfl, ⟨fun h => (by cases h), fun _ => mgd 1309 (by decide +kernel) rfl⟩, fun _ => ⟨mgd 1310 (by decide +kernel) rfl, mgd 1311 (by decide +kernel) rfl⟩, fun h => absurd h (by decide), fun h => absurd h (by decide), by decide⟩
theorem ca_8_100 : cfact 8 100 0 84 := ⟨(yX6_orders, cX6_orders, 4, (some FieldType.int), 1, 6, 0, 0), rfl, ⟨fun h => (by cases h), fun _ => mgd 708 (by decide +kernel) rfl⟩, fun _ => ⟨mgd 709 (by decide +kernel) rfl, mgd 710 (by decide +kernel) rfl⟩, fun h => absurd h (by decide), fun h => absurd h (by decide), by decide⟩
theorem ca_8_103 : cfact 8 103 0 207 := ⟨(yX7_orders, cX7_orders, 3, (some FieldType.int), 1, 7, 0, 0), rfl, ⟨fun h => (by cases h), fun _ => mgd 1305 (by decide +kernel) rfl⟩, fun _ => ⟨mgd 1306 (by decide +kernel) rfl, mgd 1307 (by decide +kernel) rfl⟩, fun h => absurd h (by decide), fun h => absurd h (by decide), by decide⟩
theorem ca_8_104 : cfact 8 104 0 85 := ⟨(yX6_thickest, cX6_thickest, 3, (some FieldType.int), 1, 6, 0, 0), rfl, ⟨fun h => (by cases h), fun _ => mgd 713 (by decide +kernel) rfl⟩, fun _ => ⟨mgd 714 (by decide +kernel) rfl, mgd 715 (by decide +kernel) rfl⟩, fun h => absurd h (by decide), fun h => absurd h (by decide), by decide⟩
theorem ca_8_107 : cfact 8 107 0 211 := ⟨(yX7_thickest, cX7_thickest, 7, (some FieldType.int), 1, 7, 0, 0), rfl, ⟨fun h => (by cases h), fun _ => mgd 1321 (by decide +kernel) rfl⟩, fun _ => ⟨mgd 1322 (by decide +kernel) rfl, mgd 1323 (by decide +kernel) rfl⟩, fun h => absurd h (by decide), fun h => absurd h (by decide), by decide⟩
theorem ca_8_108 : cfact 8 108 0 90 := ⟨(yX6_reflected, cX6_reflected, 3, (some FieldType.int), 1, 6, 0, 0), rfl, ⟨fun h => (by cases h), fun _ => mgd 733 (by decide +kernel) rfl⟩, fun _ => ⟨mgd 734 (by decide +kernel) rfl, mgd 735 (by decide +kernel) rfl⟩, fun h => absurd h (by decide), fun h => absurd h (by decide), by decide⟩
theorem ca_8_111 : cfact 8 111 0 213 := ⟨(yX7_reflected, cX7_reflected, 5, (some FieldType.int), 1, 7, 0, 0), rfl, ⟨fun h => (by cases h), fun _ => mgd 1329 (by decide +kernel) rfl⟩, fun _ => ⟨mgd 1330 (by decide +kernel) rfl, mgd 1331 (by decide +kernel) rfl⟩, fun h => absurd h (by decide), fun h => absurd h (by decide), by decide⟩
theorem ca_8_112 : cfact 8 112 0 92 := ⟨(yX6_append, cX6_append, 2, (some FieldType.int), 1, 6, 0, 0), rfl, ⟨fun h => (by cases h), fun _ => mgd 744 (by decide +kernel) rfl⟩, fun _ => ⟨mgd 745 (by decide +kernel) rfl, mgd 746 (by decide +kernel) rfl⟩, fun h => absurd h (by decide), fun h => absurd h (by decide), by decide⟩
theorem ca_8_115 : cfact 8 115 0 214 := ⟨(yX7_append, cX7_append, 2, (some FieldType.int), 1, 7, 0, 0), rfl, ⟨fun h => (by cases h), fun _ => mgd 1333 (by decide +kernel) rfl⟩, fun _ => ⟨mgd 1334 (by decide +kernel) rfl, mgd 1335 (by decide +kernel) rfl⟩, fun h => absurd h (by decide), fun h => absurd h (by decide), by decide⟩
theorem ca_8_116 : cfact 8 116 0 94 := ⟨(yX6_read, cX6_read, 4, (some FieldType.int), 0, 6, 0, 0), rfl, ⟨fun h => (by cases h), fun _ => mgd 753 (by decide +kernel) rfl⟩, fun _ => ⟨mgd 754 (by decide +kernel) rfl, mgd 755 (by decide +kernel) rfl⟩, fun h => absurd h (by decide), fun h => absurd h (by decide), by decide⟩
theorem ca_8_120 : cfact 8 120 0 215 := ⟨(yX7_read, cX7_read, 2, (some FieldType.int), 0, 7, 0, 0), rfl, ⟨fun h => (by cases h), fun _ => mgd 1337 (by decide +kernel) rfl⟩, fun _ => ⟨mgd 1338 (by decide +kernel) rfl, mgd 1339 (by decide +kernel) rfl⟩, fun h => absurd h (by decide), fun h => absurd h (by decide), by decide⟩
theorem ca_8_121 : cfact 8 121 0 109 := ⟨(yX6_refusal, cX6_refusal, 2, (some FieldType.int), 1, 6, 0, 0), rfl, ⟨fun h => (by cases h), fun _ => mgd 824 (by decide +kernel) rfl⟩, fun _ => ⟨mgd 825 (by decide +kernel) rfl, mgd 826 (by decide +kernel) rfl⟩, fun h => absurd h (by decide), fun h => absurd h (by decide), by decide⟩
theorem ca_8_124 : cfact 8 124 0 228 := ⟨(yX7_refusal, cX7_refusal, 2, (some FieldType.int), 1, 7, 0, 0), rfl, ⟨fun h => (by cases h), fun _ => mgd 1388 (by decide +kernel) rfl⟩, fun _ => ⟨mgd 1389 (by decide +kernel) rfl, mgd 1390 (by decide +kernel) rfl⟩, fun h => absurd h (by decide), fun h => absurd h (by decide), by decide⟩
theorem ca_8_125 : cfact 8 125 0 110 := ⟨(yX6_account, cX6_account, 2, (some FieldType.int), 1, 6, 0, 0), rfl, ⟨fun h => (by cases h), fun _ => mgd 828 (by decide +kernel) rfl⟩, fun _ => ⟨mgd 829 (by decide +kernel) rfl, mgd 830 (by decide +kernel) rfl⟩, fun h => absurd h (by decide), fun h => absurd h (by decide), by decide⟩
theorem ca_8_128 : cfact 8 128 0 229 := ⟨(yX7_account, cX7_account, 2, (some FieldType.int), 1, 7, 0, 0), rfl, ⟨fun h => (by cases h), fun _ => mgd 1392 (by decide +kernel) rfl⟩, fun _ => ⟨mgd 1393 (by decide +kernel) rfl, mgd 1394 (by decide +kernel) rfl⟩, fun h => absurd h (by decide), fun h => absurd h (by decide), by decide⟩
theorem ca_8_129 : cfact 8 129 0 115 := ⟨(yX6_share, cX6_share, 3, (some FieldType.int), 0, 6, 0, 0), rfl, ⟨fun h => (by cases h), fun _ => mgd 849 (by decide +kernel) rfl⟩, fun _ => ⟨mgd 850 (by decide +kernel) rfl, mgd 851 (by decide +kernel) rfl⟩, fun h => absurd h (by decide), fun h => absurd h (by decide), by decide⟩
theorem ca_8_132 : cfact 8 132 0 232 := ⟨(yX7_share, cX7_share, 1, (some FieldType.int), 0, 7, 0, 0), rfl, ⟨fun h => (by cases h), fun _ => mgd 1405 (by decide +kernel) rfl⟩, fun _ => ⟨mgd 1406 (by decide +kernel) rfl, mgd 1407 (by decide +kernel) rfl⟩, fun h => absurd h (by decide), fun h => absurd h (by decide), by decide⟩
theorem ca_8_133 : cfact 8 133 0 117 := ⟨(yX6_undo, cX6_undo, 1, (some FieldType.int), 0, 6, 0, 0), rfl, ⟨fun h => (by cases h), fun _ => mgd 857 (by decide +kernel) rfl⟩, fun _ => ⟨mgd 858 (by decide +kernel) rfl, mgd 859 (by decide +kernel) rfl⟩, fun h => absurd h (by decide), fun h => absurd h (by decide), by decide⟩
theorem ca_8_136 : cfact 8 136 0 233 := ⟨(yX7_undo, cX7_undo, 1, (some FieldType.int), 0, 7, 0, 0), rfl, ⟨fun h => (by cases h), fun _ => mgd 1419 (by decide +kernel) rfl⟩, fun _ => ⟨mgd 1420 (by decide +kernel) rfl, mgd 1421 (by decide +kernel) rfl⟩, fun h => absurd h (by decide), fun h => absurd h (by decide), by decide⟩
theorem ca_8_137 : cfact 8 137 0 119 := ⟨(yX6_save, cX6_save, 1, (some FieldType.int), 0, 6, 0, 0), rfl, ⟨fun h => (by cases h), fun _ => mgd 865 (by decide +kernel) rfl⟩, fun _ => ⟨mgd 866 (by decide +kernel) rfl, mgd 867 (by decide +kernel) rfl⟩, fun h => absurd h (by decide), fun h => absurd h (by decide), by decide⟩
theorem ca_8_140 : cfact 8 140 0 234 := ⟨(yX7_save, cX7_save, 1, (some FieldType.int), 0, 7, 0, 0), rfl, ⟨fun h => (by cases h), fun _ => mgd 1423 (by decide +kernel) rfl⟩, fun _ => ⟨mgd 1424 (by decide +kernel) rfl, mgd 1425 (by decide +kernel) rfl⟩, fun h => absurd h (by decide), fun h => absurd h (by decide), by decide⟩
theorem ca_8_141 : cfact 8 141 0 120 := ⟨(yX6_restore, cX6_restore, 1, (some FieldType.int), 0, 6, 0, 0), rfl, ⟨fun h => (by cases h), fun _ => mgd 869 (by decide +kernel) rfl⟩, fun _ => ⟨mgd 870 (by decide +kernel) rfl, mgd 871 (by decide +kernel) rfl⟩, fun h => absurd h (by decide), fun h => absurd h (by decide), by decide⟩
theorem ca_8_144 : cfact 8 144 0 235 := ⟨(yX7_restore, cX7_restore, 1, (some FieldType.int), 0, 7, 0, 0), rfl, ⟨fun h => (by cases h), fun _ => mgd 1427 (by decide +kernel) rfl⟩, fun _ => ⟨mgd 1428 (by decide +kernel) rfl, mgd 1429 (by decide +kernel) rfl⟩, fun h => absurd h (by decide), fun h => absurd h (by decide), by decide⟩
theorem cal8_ok : ∀ q ∈ cal8, cfact 8 q.1 q.2.1 q.2.2 := List.forall_mem_cons.mpr ⟨ca_8_9, List.forall_mem_cons.mpr ⟨ca_8_12, List.forall_mem_cons.mpr ⟨ca_8_13, List.forall_mem_cons.mpr ⟨ca_8_17, List.forall_mem_cons.mpr ⟨ca_8_18, List.forall_mem_cons.mpr ⟨ca_8_22, List.forall_mem_cons.mpr ⟨ca_8_23, List.forall_mem_cons.mpr ⟨ca_8_26, List.forall_mem_cons.mpr ⟨ca_8_27, List.forall_mem_cons.mpr ⟨ca_8_30, List.forall_mem_cons.mpr ⟨ca_8_31, List.forall_mem_cons.mpr ⟨ca_8_35, List.forall_mem_cons.mpr ⟨ca_8_36, List.forall_mem_cons.mpr ⟨ca_8_39, List.forall_mem_cons.mpr ⟨ca_8_40, List.forall_mem_cons.mpr ⟨ca_8_43, List.forall_mem_cons.mpr ⟨ca_8_44, List.forall_mem_cons.mpr ⟨ca_8_47, List.forall_mem_cons.mpr ⟨ca_8_48, List.forall_mem_cons.mpr ⟨ca_8_51, List.forall_mem_cons.mpr ⟨ca_8_52, List.forall_mem_cons.mpr ⟨ca_8_55, List.forall_mem_cons.mpr ⟨ca_8_56, List.forall_mem_cons.mpr ⟨ca_8_59, List.forall_mem_cons.mpr ⟨ca_8_60, List.forall_mem_cons.mpr ⟨ca_8_63, List.forall_mem_cons.mpr ⟨ca_8_64, List.forall_mem_cons.mpr ⟨ca_8_67, List.forall_mem_cons.mpr ⟨ca_8_68, List.forall_mem_cons.mpr ⟨ca_8_71, List.forall_mem_cons.mpr ⟨ca_8_72, List.forall_mem_cons.mpr ⟨ca_8_75, List.forall_mem_cons.mpr ⟨ca_8_76, List.forall_mem_cons.mpr ⟨ca_8_79, List.forall_mem_cons.mpr ⟨ca_8_80, List.forall_mem_cons.mpr ⟨ca_8_83, List.forall_mem_cons.mpr ⟨ca_8_84, List.forall_mem_cons.mpr ⟨ca_8_87, List.forall_mem_cons.mpr ⟨ca_8_88, List.forall_mem_cons.mpr ⟨ca_8_91, List.forall_mem_cons.mpr ⟨ca_8_92, List.forall_mem_cons.mpr ⟨ca_8_95, List.forall_mem_cons.mpr ⟨ca_8_96, List.forall_mem_cons.mpr ⟨ca_8_99, List.forall_mem_cons.mpr ⟨ca_8_100, List.forall_mem_cons.mpr ⟨ca_8_103, List.forall_mem_cons.mpr ⟨ca_8_104, List.forall_mem_cons.mpr ⟨ca_8_107, List.forall_mem_cons.mpr ⟨ca_8_108, List.forall_mem_cons.mpr ⟨ca_8_111, List.forall_mem_cons.mpr ⟨ca_8_112, List.forall_mem_cons.mpr ⟨ca_8_115, List.forall_mem_cons.mpr ⟨ca_8_116, List.forall_mem_cons.mpr ⟨ca_8_120, List.forall_mem_cons.mpr ⟨ca_8_121, List.forall_mem_cons.mpr ⟨ca_8_124, List.forall_mem_cons.mpr ⟨ca_8_125, List.forall_mem_cons.mpr ⟨ca_8_128, List.forall_mem_cons.mpr ⟨ca_8_129, List.forall_mem_cons.mpr ⟨ca_8_132, List.forall_mem_cons.mpr ⟨ca_8_133, List.forall_mem_cons.mpr ⟨ca_8_136, List.forall_mem_cons.mpr ⟨ca_8_137, List.forall_mem_cons.mpr ⟨ca_8_140, List.forall_mem_cons.mpr ⟨ca_8_141, List.forall_mem_cons.mpr ⟨ca_8_144, fun _ h => absurd h List.not_mem_nil⟩⟩⟩⟩⟩⟩⟩⟩⟩⟩⟩⟩⟩⟩⟩⟩⟩⟩⟩⟩⟩⟩⟩⟩⟩⟩⟩⟩⟩⟩⟩⟩⟩⟩⟩⟩⟩⟩⟩⟩⟩⟩⟩⟩⟩⟩⟩⟩⟩⟩⟩⟩⟩⟩⟩⟩⟩⟩⟩⟩⟩⟩⟩⟩⟩⟩
def cal9 : List (Nat × Nat × Nat) := []
theorem cal9_ok : ∀ q ∈ cal9, cfact 9 q.1 q.2.1 q.2.2 := fun _ h => absurd h List.not_mem_nil
def cal10 : List (Nat × Nat × Nat) := [(59, 2, 238), (74, 10, 0)]
theorem ca_10_59 : cfact 10 59 2 238 := ⟨(yJxf58ca_isNaN_12338, cJxf58ca_isNaN_12338, 1, (some FieldType.boolean), 1, 10, 0, 0), rfl, ⟨fun h => (by cases h), fun _ => mgd 1412 (by decide +kernel) rfl⟩, fun h => absurd h (by decide), fun _ => mgd 1413 (by decide +kernel) rfl, fun h => absurd h (by decide), by decide⟩
theorem ca_10_74 : cfact 10 74 10 0 := mgd 1415 (by decide +kernel) rfl
theorem cal10_ok : ∀ q ∈ cal10, cfact 10 q.1 q.2.1 q.2.2 := List.forall_mem_cons.mpr ⟨ca_10_59, List.forall_mem_cons.mpr ⟨ca_10_74, fun _ h => absurd h List.not_mem_nil⟩⟩
def mcalL : Nat → List (Nat × Nat × Nat)
  | 0 => cal0
  | 1 => cal1
  | 2 => cal2
  | 3 => cal3
  | 4 => cal4
  | 5 => cal5
  | 6 => cal6
  | 7 => cal7
  | 8 => cal8
  | 9 => cal9
  | 10 => cal10
  | _ => []
theorem mcalL_ok (o : Nat) : ∀ q ∈ mcalL o, cfact o q.1 q.2.1 q.2.2 := match o with
  | 0 => cal0_ok
  | 1 => cal1_ok
  | 2 => cal2_ok
  | 3 => cal3_ok
  | 4 => cal4_ok
  | 5 => cal5_ok
  | 6 => cal6_ok
  | 7 => cal7_ok
  | 8 => cal8_ok
  | 9 => cal9_ok
  | 10 => cal10_ok
  | _ + 11 => fun _ h => absurd h List.not_mem_nil
def mcal (o i : Nat) : Option (Nat × Nat) := ((mcalL o).find? (fun q => q.1 == i)).map (fun q => q.2)
theorem mcal_ok {o i kd k : Nat} (h : mcal o i = some (kd, k)) : cfact o i kd k := by
  unfold mcal at h
  cases hf : (mcalL o).find? (fun q => q.1 == i) with
  | none => rw [hf] at h; cases h
  | some q =>
    rw [hf] at h
    have h1 := List.find?_some hf
    have h2 := mcalL_ok o q (List.mem_of_find?_eq_some hf)
    obtain ⟨i', kd', k'⟩ := q
    simp only [Option.map_some, Option.some.injEq, Prod.mk.injEq] at h
    simp only [beq_iff_eq] at h1
    obtain ⟨rfl, rfl⟩ := h
    subst h1
    exact h2
