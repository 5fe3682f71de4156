/-! the tables' properties -/
def zLen (ins : Instr) (len : Nat) : Nat := match ins with
  | .iload _ => 2
  | .istore _ => 2
  | .lload _ => 2
  | .bipush _ => 2
  | .newarray _ => 2
  | .sipush _ => 3
  | .iinc _ _ => 3
  | .if_icmp _ _ => 3
  | .ifCond _ _ => 3
  | .goto _ => 3
  | .getfield _ => 3
  | .putfield _ => 3
  | .getstatic _ => 3
  | .ldc2_w _ => 3
  | .new _ => 3
  | .anewarray _ => 3
  | .invokestatic _ => 3
  | .invokevirtual _ => 3
  | .invokespecial _ => 3
  | .tableswitch _ _ _ _ => len
  | _ => 1
def zAll {α : Type} (P : α → Prop) : List α → Prop
  | [] => True
  | a :: l => P a ∧ zAll P l
theorem zAll_app {α : Type} {P : α → Prop} : ∀ {l k : List α}, zAll P l → zAll P k → zAll P (l ++ k)
  | [], _, _, h => h
  | _ :: _, _, h, h2 => ⟨h.1, zAll_app h.2 h2⟩
theorem zAll_get {α : Type} {P : α → Prop} : ∀ {l : List α} {i : Nat} {a : α}, zAll P l → l[i]? = some a → P a
  | [], _, _, _, h2 => by simp at h2
  | _ :: _, 0, _, h, h2 => by simp at h2; subst h2; exact h.1
  | _ :: l, i + 1, _, h, h2 => zAll_get (l := l) (i := i) h.2 (by simpa using h2)
theorem zAll_mem {α : Type} {P : α → Prop} {l : List α} {a : α} (h : zAll P l) (ha : a ∈ l) : P a := by
  obtain ⟨i, hi⟩ := List.getElem?_of_mem ha
  exact zAll_get h hi
def zAll2 {α β : Type} (P : α → β → Prop) : List α → List β → Prop
  | [], [] => True
  | a :: l, b :: k => P a b ∧ zAll2 P l k
  | _, _ => False
theorem zAll2_app {α β : Type} {P : α → β → Prop} : ∀ {l : List α} {k : List β} {l' : List α} {k' : List β}, zAll2 P l k → zAll2 P l' k' → zAll2 P (l ++ l') (k ++ k')
  | [], [], _, _, _, h => h
  | _ :: _, _ :: _, _, _, h, h2 => ⟨h.1, zAll2_app h.2 h2⟩
theorem zAll2_get {α β : Type} {P : α → β → Prop} : ∀ {l : List α} {k : List β} {i : Nat} {a : α} {b : β}, zAll2 P l k → l[i]? = some a → k[i]? = some b → P a b
  | [], [], _, _, _, _, h2, _ => by simp at h2
  | _ :: _, _ :: _, 0, _, _, h, h2, h3 => by simp at h2 h3; subst h2; subst h3; exact h.1
  | _ :: l, _ :: k, i + 1, _, _, h, h2, h3 => zAll2_get (l := l) (k := k) (i := i) h.2 (by simpa using h2) (by simpa using h3)
/-- a method's words -/
def zMP (r : zMe) : Prop := r.2.2.2.2.1 ≠ 10 → Cond.code r.1 r.2.1 r.2.2.1 r.2.2.2.1 ∈ zTB ∧ Cond.initialized r.1.cls ∈ zTB ∧ (r.2.2.2.2.2.2 = 1 → Cond.static r.1 ∈ zTB) ∧ (r.2.2.2.2.2.2 ≠ 1 → Cond.instanceMethod r.1 ∈ zTB) ∧ (r.2.2.2.2.2.2 = 0 → Cond.selects r.1.cls r.1 r.1 ∈ zTB ∧ (vwCl[r.2.2.2.2.1]?).map (fun q => q.1) = some r.1.cls) ∧ zOwn[r.2.2.2.2.1]? = some r.1.cls ∧ (r.1.cls ≠ "java/lang/invoke/MethodHandle" ∧ r.1.cls ≠ "java/lang/invoke/VarHandle" ∧ (parseMethodDescriptor r.1.desc).map (fun d => d.parameters.length) = some r.2.2.2.2.2.1) ∧ plainFor r.1 = true ∧ (r.2.2.2.2.2.2 = 2 → r.1.name = "<init>" ∧ r.2.2.2.1 = none) ∧ r.2.2.1 ≤ 20
theorem zp_0 : RX0 ≠ "java/lang/invoke/MethodHandle" ∧ RX0 ≠ "java/lang/invoke/VarHandle" ∧ plainName RX0 = true := by decide +kernel
theorem zp_1 : RX1 ≠ "java/lang/invoke/MethodHandle" ∧ RX1 ≠ "java/lang/invoke/VarHandle" ∧ plainName RX1 = true := by decide +kernel
theorem zp_2 : RX2 ≠ "java/lang/invoke/MethodHandle" ∧ RX2 ≠ "java/lang/invoke/VarHandle" ∧ plainName RX2 = true := by decide +kernel
theorem zp_3 : RX3 ≠ "java/lang/invoke/MethodHandle" ∧ RX3 ≠ "java/lang/invoke/VarHandle" ∧ plainName RX3 = true := by decide +kernel
theorem zp_4 : RX4 ≠ "java/lang/invoke/MethodHandle" ∧ RX4 ≠ "java/lang/invoke/VarHandle" ∧ plainName RX4 = true := by decide +kernel
theorem zp_5 : RX5 ≠ "java/lang/invoke/MethodHandle" ∧ RX5 ≠ "java/lang/invoke/VarHandle" ∧ plainName RX5 = true := by decide +kernel
theorem zp_6 : RX6 ≠ "java/lang/invoke/MethodHandle" ∧ RX6 ≠ "java/lang/invoke/VarHandle" ∧ plainName RX6 = true := by decide +kernel
theorem zp_7 : RX7 ≠ "java/lang/invoke/MethodHandle" ∧ RX7 ≠ "java/lang/invoke/VarHandle" ∧ plainName RX7 = true := by decide +kernel
theorem zp_8 : RX8 ≠ "java/lang/invoke/MethodHandle" ∧ RX8 ≠ "java/lang/invoke/VarHandle" ∧ plainName RX8 = true := by decide +kernel
theorem zp_9 : RX9 ≠ "java/lang/invoke/MethodHandle" ∧ RX9 ≠ "java/lang/invoke/VarHandle" ∧ plainName RX9 = true := by decide +kernel
theorem zp_11 : RJ9 ≠ "java/lang/invoke/MethodHandle" ∧ RJ9 ≠ "java/lang/invoke/VarHandle" := by decide +kernel
theorem zds_0 : (parseMethodDescriptor "(LStoneFurrows$Stone;LStoneFurrows$Stone;)V").map (fun d => d.parameters.length) = some 2 := by decide +kernel
theorem zmp_0 : zMP zm_0 := fun _ => ⟨zr_259, zr_52, fun h => absurd h (by decide), fun _ => zr_258, fun h => absurd h (by decide), rfl, ⟨zp_0.1, zp_0.2.1, zds_0⟩, plainFor_of_name zp_0.2.2, fun _ => ⟨rfl, rfl⟩, by decide⟩
theorem zmp_1 : zMP zm_1 := fun _ => ⟨zr_402, zr_52, fun h => absurd h (by decide), fun _ => zr_400, fun _ => ⟨zr_401, rfl⟩, rfl, ⟨zp_0.1, zp_0.2.1, zds_0⟩, plainFor_of_name zp_0.2.2, fun h => absurd h (by decide), by decide⟩
theorem zds_1 : (parseMethodDescriptor "(II)Z").map (fun d => d.parameters.length) = some 2 := by decide +kernel
theorem zmp_2 : zMP zm_2 := fun _ => ⟨zr_518, zr_52, fun h => absurd h (by decide), fun _ => zr_516, fun _ => ⟨zr_517, rfl⟩, rfl, ⟨zp_0.1, zp_0.2.1, zds_1⟩, plainFor_of_name zp_0.2.2, fun h => absurd h (by decide), by decide⟩
theorem zds_2 : (parseMethodDescriptor "(III)Z").map (fun d => d.parameters.length) = some 3 := by decide +kernel
theorem zmp_3 : zMP zm_3 := fun _ => ⟨zr_522, zr_52, fun h => absurd h (by decide), fun _ => zr_520, fun _ => ⟨zr_521, rfl⟩, rfl, ⟨zp_0.1, zp_0.2.1, zds_2⟩, plainFor_of_name zp_0.2.2, fun h => absurd h (by decide), by decide⟩
theorem zmp_4 : zMP zm_4 := fun _ => ⟨zr_414, zr_52, fun h => absurd h (by decide), fun _ => zr_412, fun _ => ⟨zr_413, rfl⟩, rfl, ⟨zp_0.1, zp_0.2.1, zds_2⟩, plainFor_of_name zp_0.2.2, fun h => absurd h (by decide), by decide⟩
theorem zmp_5 : zMP zm_5 := fun _ => ⟨zr_447, zr_52, fun h => absurd h (by decide), fun _ => zr_445, fun _ => ⟨zr_446, rfl⟩, rfl, ⟨zp_0.1, zp_0.2.1, zds_2⟩, plainFor_of_name zp_0.2.2, fun h => absurd h (by decide), by decide⟩
theorem zds_3 : (parseMethodDescriptor "(I)I").map (fun d => d.parameters.length) = some 1 := by decide +kernel
theorem zmp_6 : zMP zm_6 := fun _ => ⟨zr_410, zr_52, fun h => absurd h (by decide), fun _ => zr_408, fun _ => ⟨zr_409, rfl⟩, rfl, ⟨zp_0.1, zp_0.2.1, zds_3⟩, plainFor_of_name zp_0.2.2, fun h => absurd h (by decide), by decide⟩
theorem zds_4 : (parseMethodDescriptor "()I").map (fun d => d.parameters.length) = some 0 := by decide +kernel
theorem zmp_7 : zMP zm_7 := fun _ => ⟨zr_424, zr_52, fun h => absurd h (by decide), fun _ => zr_422, fun _ => ⟨zr_423, rfl⟩, rfl, ⟨zp_0.1, zp_0.2.1, zds_4⟩, plainFor_of_name zp_0.2.2, fun h => absurd h (by decide), by decide⟩
theorem zmp_8 : zMP zm_8 := fun _ => ⟨zr_432, zr_52, fun h => absurd h (by decide), fun _ => zr_430, fun _ => ⟨zr_431, rfl⟩, rfl, ⟨zp_0.1, zp_0.2.1, zds_3⟩, plainFor_of_name zp_0.2.2, fun h => absurd h (by decide), by decide⟩
theorem zmp_9 : zMP zm_9 := fun _ => ⟨zr_442, zr_52, fun h => absurd h (by decide), fun _ => zr_440, fun _ => ⟨zr_441, rfl⟩, rfl, ⟨zp_0.1, zp_0.2.1, zds_3⟩, plainFor_of_name zp_0.2.2, fun h => absurd h (by decide), by decide⟩
theorem zmp_10 : zMP zm_10 := fun _ => ⟨zr_564, zr_52, fun h => absurd h (by decide), fun _ => zr_562, fun _ => ⟨zr_563, rfl⟩, rfl, ⟨zp_0.1, zp_0.2.1, zds_4⟩, plainFor_of_name zp_0.2.2, fun h => absurd h (by decide), by decide⟩
theorem zds_5 : (parseMethodDescriptor "()V").map (fun d => d.parameters.length) = some 0 := by decide +kernel
theorem zmp_11 : zMP zm_11 := fun _ => ⟨zr_89, zr_45, fun h => absurd h (by decide), fun _ => zr_88, fun h => absurd h (by decide), rfl, ⟨zp_1.1, zp_1.2.1, zds_5⟩, plainFor_of_name zp_1.2.2, fun _ => ⟨rfl, rfl⟩, by decide⟩
theorem zds_6 : (parseMethodDescriptor "(III)V").map (fun d => d.parameters.length) = some 3 := by decide +kernel
theorem zmp_12 : zMP zm_12 := fun _ => ⟨zr_506, zr_45, fun h => absurd h (by decide), fun _ => zr_504, fun _ => ⟨zr_505, rfl⟩, rfl, ⟨zp_1.1, zp_1.2.1, zds_6⟩, plainFor_of_name zp_1.2.2, fun h => absurd h (by decide), by decide⟩
theorem zds_7 : (parseMethodDescriptor "(LStoneFurrows$Couple;LStoneFurrows$Hanging;)V").map (fun d => d.parameters.length) = some 2 := by decide +kernel
theorem zmp_13 : zMP zm_13 := fun _ => ⟨zr_510, zr_45, fun h => absurd h (by decide), fun _ => zr_508, fun _ => ⟨zr_509, rfl⟩, rfl, ⟨zp_1.1, zp_1.2.1, zds_7⟩, plainFor_of_name zp_1.2.2, fun h => absurd h (by decide), by decide⟩
theorem zmp_14 : zMP zm_14 := fun _ => ⟨zr_514, zr_45, fun h => absurd h (by decide), fun _ => zr_513, fun _ => ⟨zr_4, rfl⟩, rfl, ⟨zp_1.1, zp_1.2.1, zds_7⟩, plainFor_of_name zp_1.2.2, fun h => absurd h (by decide), by decide⟩
theorem zds_8 : (parseMethodDescriptor "(I)V").map (fun d => d.parameters.length) = some 1 := by decide +kernel
theorem zmp_15 : zMP zm_15 := fun _ => ⟨zr_527, zr_45, fun h => absurd h (by decide), fun _ => zr_526, fun _ => ⟨zr_5, rfl⟩, rfl, ⟨zp_1.1, zp_1.2.1, zds_8⟩, plainFor_of_name zp_1.2.2, fun h => absurd h (by decide), by decide⟩
theorem zds_9 : (parseMethodDescriptor "(LStoneFurrows$Couple;)V").map (fun d => d.parameters.length) = some 1 := by decide +kernel
theorem zmp_16 : zMP zm_16 := fun _ => ⟨zr_533, zr_45, fun h => absurd h (by decide), fun _ => zr_532, fun _ => ⟨zr_6, rfl⟩, rfl, ⟨zp_1.1, zp_1.2.1, zds_9⟩, plainFor_of_name zp_1.2.2, fun h => absurd h (by decide), by decide⟩
theorem zmp_17 : zMP zm_17 := fun _ => ⟨zr_538, zr_45, fun h => absurd h (by decide), fun _ => zr_537, fun _ => ⟨zr_7, rfl⟩, rfl, ⟨zp_1.1, zp_1.2.1, zds_8⟩, plainFor_of_name zp_1.2.2, fun h => absurd h (by decide), by decide⟩
theorem zds_10 : (parseMethodDescriptor "()Z").map (fun d => d.parameters.length) = some 0 := by decide +kernel
theorem zmp_18 : zMP zm_18 := fun _ => ⟨zr_546, zr_45, fun h => absurd h (by decide), fun _ => zr_544, fun _ => ⟨zr_545, rfl⟩, rfl, ⟨zp_1.1, zp_1.2.1, zds_10⟩, plainFor_of_name zp_1.2.2, fun h => absurd h (by decide), by decide⟩
theorem zmp_19 : zMP zm_19 := fun _ => ⟨zr_542, zr_45, fun h => absurd h (by decide), fun _ => zr_540, fun _ => ⟨zr_541, rfl⟩, rfl, ⟨zp_1.1, zp_1.2.1, zds_3⟩, plainFor_of_name zp_1.2.2, fun h => absurd h (by decide), by decide⟩
theorem zmp_20 : zMP zm_20 := fun _ => ⟨zr_555, zr_45, fun h => absurd h (by decide), fun _ => zr_553, fun _ => ⟨zr_554, rfl⟩, rfl, ⟨zp_1.1, zp_1.2.1, zds_3⟩, plainFor_of_name zp_1.2.2, fun h => absurd h (by decide), by decide⟩
theorem zmp_21 : zMP zm_21 := fun _ => ⟨zr_68, zr_44, fun h => absurd h (by decide), fun _ => zr_67, fun h => absurd h (by decide), rfl, ⟨zp_2.1, zp_2.2.1, zds_5⟩, plainFor_of_name zp_2.2.2, fun _ => ⟨rfl, rfl⟩, by decide⟩
theorem zmp_22 : zMP zm_22 := fun _ => ⟨zr_463, zr_44, fun h => absurd h (by decide), fun _ => zr_461, fun _ => ⟨zr_462, rfl⟩, rfl, ⟨zp_2.1, zp_2.2.1, zds_6⟩, plainFor_of_name zp_2.2.2, fun h => absurd h (by decide), by decide⟩
theorem zmp_23 : zMP zm_23 := fun _ => ⟨zr_644, zr_44, fun h => absurd h (by decide), fun _ => zr_642, fun _ => ⟨zr_643, rfl⟩, rfl, ⟨zp_2.1, zp_2.2.1, zds_8⟩, plainFor_of_name zp_2.2.2, fun h => absurd h (by decide), by decide⟩
theorem zmp_24 : zMP zm_24 := fun _ => ⟨zr_667, zr_44, fun h => absurd h (by decide), fun _ => zr_665, fun _ => ⟨zr_666, rfl⟩, rfl, ⟨zp_2.1, zp_2.2.1, zds_4⟩, plainFor_of_name zp_2.2.2, fun h => absurd h (by decide), by decide⟩
theorem zds_11 : (parseMethodDescriptor "(III)I").map (fun d => d.parameters.length) = some 3 := by decide +kernel
theorem zmp_25 : zMP zm_25 := fun _ => ⟨zr_471, zr_44, fun h => absurd h (by decide), fun _ => zr_469, fun _ => ⟨zr_470, rfl⟩, rfl, ⟨zp_2.1, zp_2.2.1, zds_11⟩, plainFor_of_name zp_2.2.2, fun h => absurd h (by decide), by decide⟩
theorem zmp_26 : zMP zm_26 := fun _ => ⟨zr_474, zr_44, fun _ => zr_473, fun h => absurd rfl h, fun h => absurd h (by decide), rfl, ⟨zp_2.1, zp_2.2.1, zds_3⟩, plainFor_of_name zp_2.2.2, fun h => absurd h (by decide), by decide⟩
theorem zmp_27 : zMP zm_27 := fun _ => ⟨zr_493, zr_44, fun h => absurd h (by decide), fun _ => zr_491, fun _ => ⟨zr_492, rfl⟩, rfl, ⟨zp_2.1, zp_2.2.1, zds_4⟩, plainFor_of_name zp_2.2.2, fun h => absurd h (by decide), by decide⟩
theorem zmp_28 : zMP zm_28 := fun _ => ⟨zr_498, zr_44, fun h => absurd h (by decide), fun _ => zr_496, fun _ => ⟨zr_497, rfl⟩, rfl, ⟨zp_2.1, zp_2.2.1, zds_4⟩, plainFor_of_name zp_2.2.2, fun h => absurd h (by decide), by decide⟩
theorem zds_12 : (parseMethodDescriptor "(J)J").map (fun d => d.parameters.length) = some 1 := by decide +kernel
theorem zmp_29 : zMP zm_29 := fun _ => ⟨zr_865, zr_44, fun h => absurd h (by decide), fun _ => zr_863, fun _ => ⟨zr_864, rfl⟩, rfl, ⟨zp_2.1, zp_2.2.1, zds_12⟩, plainFor_of_name zp_2.2.2, fun h => absurd h (by decide), by decide⟩
theorem zmp_30 : zMP zm_30 := fun _ => ⟨zr_143, zr_47, fun h => absurd h (by decide), fun _ => zr_142, fun h => absurd h (by decide), rfl, ⟨zp_3.1, zp_3.2.1, zds_5⟩, plainFor_of_name zp_3.2.2, fun _ => ⟨rfl, rfl⟩, by decide⟩
theorem zmp_31 : zMP zm_31 := fun _ => ⟨zr_675, zr_47, fun h => absurd h (by decide), fun _ => zr_673, fun _ => ⟨zr_674, rfl⟩, rfl, ⟨zp_3.1, zp_3.2.1, zds_1⟩, plainFor_of_name zp_3.2.2, fun h => absurd h (by decide), by decide⟩
theorem zds_13 : (parseMethodDescriptor "(I)Z").map (fun d => d.parameters.length) = some 1 := by decide +kernel
theorem zmp_32 : zMP zm_32 := fun _ => ⟨zr_697, zr_47, fun h => absurd h (by decide), fun _ => zr_696, fun _ => ⟨zr_12, rfl⟩, rfl, ⟨zp_3.1, zp_3.2.1, zds_13⟩, plainFor_of_name zp_3.2.2, fun h => absurd h (by decide), by decide⟩
theorem zmp_33 : zMP zm_33 := fun _ => ⟨zr_692, zr_47, fun h => absurd h (by decide), fun _ => zr_691, fun _ => ⟨zr_11, rfl⟩, rfl, ⟨zp_3.1, zp_3.2.1, zds_1⟩, plainFor_of_name zp_3.2.2, fun h => absurd h (by decide), by decide⟩
theorem zmp_34 : zMP zm_34 := fun _ => ⟨zr_688, zr_47, fun h => absurd h (by decide), fun _ => zr_686, fun _ => ⟨zr_687, rfl⟩, rfl, ⟨zp_3.1, zp_3.2.1, zds_3⟩, plainFor_of_name zp_3.2.2, fun h => absurd h (by decide), by decide⟩
theorem zmp_35 : zMP zm_35 := fun _ => ⟨zr_702, zr_47, fun h => absurd h (by decide), fun _ => zr_700, fun _ => ⟨zr_701, rfl⟩, rfl, ⟨zp_3.1, zp_3.2.1, zds_3⟩, plainFor_of_name zp_3.2.2, fun h => absurd h (by decide), by decide⟩
theorem zmp_36 : zMP zm_36 := fun _ => ⟨zr_706, zr_47, fun h => absurd h (by decide), fun _ => zr_704, fun _ => ⟨zr_705, rfl⟩, rfl, ⟨zp_3.1, zp_3.2.1, zds_3⟩, plainFor_of_name zp_3.2.2, fun h => absurd h (by decide), by decide⟩
theorem zmp_37 : zMP zm_37 := fun _ => ⟨zr_875, zr_47, fun h => absurd h (by decide), fun _ => zr_873, fun _ => ⟨zr_874, rfl⟩, rfl, ⟨zp_3.1, zp_3.2.1, zds_12⟩, plainFor_of_name zp_3.2.2, fun h => absurd h (by decide), by decide⟩
theorem zmp_38 : zMP zm_38 := fun _ => ⟨zr_160, zr_48, fun h => absurd h (by decide), fun _ => zr_159, fun h => absurd h (by decide), rfl, ⟨zp_4.1, zp_4.2.1, zds_5⟩, plainFor_of_name zp_4.2.2, fun _ => ⟨rfl, rfl⟩, by decide⟩
theorem zds_14 : (parseMethodDescriptor "(IIII)V").map (fun d => d.parameters.length) = some 4 := by decide +kernel
theorem zmp_39 : zMP zm_39 := fun _ => ⟨zr_722, zr_48, fun h => absurd h (by decide), fun _ => zr_720, fun _ => ⟨zr_721, rfl⟩, rfl, ⟨zp_4.1, zp_4.2.1, zds_14⟩, plainFor_of_name zp_4.2.2, fun h => absurd h (by decide), by decide⟩
theorem zmp_40 : zMP zm_40 := fun _ => ⟨zr_731, zr_48, fun h => absurd h (by decide), fun _ => zr_729, fun _ => ⟨zr_730, rfl⟩, rfl, ⟨zp_4.1, zp_4.2.1, zds_13⟩, plainFor_of_name zp_4.2.2, fun h => absurd h (by decide), by decide⟩
theorem zmp_41 : zMP zm_41 := fun _ => ⟨zr_845, zr_48, fun h => absurd h (by decide), fun _ => zr_843, fun _ => ⟨zr_844, rfl⟩, rfl, ⟨zp_4.1, zp_4.2.1, zds_4⟩, plainFor_of_name zp_4.2.2, fun h => absurd h (by decide), by decide⟩
theorem zds_15 : (parseMethodDescriptor "(II)I").map (fun d => d.parameters.length) = some 2 := by decide +kernel
theorem zmp_42 : zMP zm_42 := fun _ => ⟨zr_740, zr_48, fun h => absurd h (by decide), fun _ => zr_738, fun _ => ⟨zr_739, rfl⟩, rfl, ⟨zp_4.1, zp_4.2.1, zds_15⟩, plainFor_of_name zp_4.2.2, fun h => absurd h (by decide), by decide⟩
theorem zmp_43 : zMP zm_43 := fun _ => ⟨zr_744, zr_48, fun h => absurd h (by decide), fun _ => zr_742, fun _ => ⟨zr_743, rfl⟩, rfl, ⟨zp_4.1, zp_4.2.1, zds_6⟩, plainFor_of_name zp_4.2.2, fun h => absurd h (by decide), by decide⟩
theorem zmp_44 : zMP zm_44 := fun _ => ⟨zr_778, zr_48, fun h => absurd h (by decide), fun _ => zr_776, fun _ => ⟨zr_777, rfl⟩, rfl, ⟨zp_4.1, zp_4.2.1, zds_3⟩, plainFor_of_name zp_4.2.2, fun h => absurd h (by decide), by decide⟩
theorem zmp_45 : zMP zm_45 := fun _ => ⟨zr_783, zr_48, fun h => absurd h (by decide), fun _ => zr_781, fun _ => ⟨zr_782, rfl⟩, rfl, ⟨zp_4.1, zp_4.2.1, zds_11⟩, plainFor_of_name zp_4.2.2, fun h => absurd h (by decide), by decide⟩
theorem zmp_46 : zMP zm_46 := fun _ => ⟨zr_794, zr_48, fun h => absurd h (by decide), fun _ => zr_792, fun _ => ⟨zr_793, rfl⟩, rfl, ⟨zp_4.1, zp_4.2.1, zds_15⟩, plainFor_of_name zp_4.2.2, fun h => absurd h (by decide), by decide⟩
theorem zmp_47 : zMP zm_47 := fun _ => ⟨zr_790, zr_48, fun h => absurd h (by decide), fun _ => zr_788, fun _ => ⟨zr_789, rfl⟩, rfl, ⟨zp_4.1, zp_4.2.1, zds_1⟩, plainFor_of_name zp_4.2.2, fun h => absurd h (by decide), by decide⟩
theorem zmp_48 : zMP zm_48 := fun _ => ⟨zr_880, zr_48, fun h => absurd h (by decide), fun _ => zr_878, fun _ => ⟨zr_879, rfl⟩, rfl, ⟨zp_4.1, zp_4.2.1, zds_12⟩, plainFor_of_name zp_4.2.2, fun h => absurd h (by decide), by decide⟩
theorem zmp_49 : zMP zm_49 := fun _ => ⟨zr_184, zr_49, fun h => absurd h (by decide), fun _ => zr_183, fun h => absurd h (by decide), rfl, ⟨zp_5.1, zp_5.2.1, zds_5⟩, plainFor_of_name zp_5.2.2, fun _ => ⟨rfl, rfl⟩, by decide⟩
theorem zds_16 : (parseMethodDescriptor "(LStoneFurrows$Mills;)V").map (fun d => d.parameters.length) = some 1 := by decide +kernel
theorem zmp_50 : zMP zm_50 := fun _ => ⟨zr_760, zr_49, fun h => absurd h (by decide), fun _ => zr_758, fun _ => ⟨zr_759, rfl⟩, rfl, ⟨zp_5.1, zp_5.2.1, zds_16⟩, plainFor_of_name zp_5.2.2, fun h => absurd h (by decide), by decide⟩
theorem zmp_51 : zMP zm_51 := fun _ => ⟨zr_829, zr_49, fun h => absurd h (by decide), fun _ => zr_827, fun _ => ⟨zr_828, rfl⟩, rfl, ⟨zp_5.1, zp_5.2.1, zds_3⟩, plainFor_of_name zp_5.2.2, fun h => absurd h (by decide), by decide⟩
theorem zmp_52 : zMP zm_52 := fun _ => ⟨zr_837, zr_49, fun h => absurd h (by decide), fun _ => zr_835, fun _ => ⟨zr_836, rfl⟩, rfl, ⟨zp_5.1, zp_5.2.1, zds_3⟩, plainFor_of_name zp_5.2.2, fun h => absurd h (by decide), by decide⟩
theorem zmp_53 : zMP zm_53 := fun _ => ⟨zr_770, zr_49, fun _ => zr_769, fun h => absurd rfl h, fun h => absurd h (by decide), rfl, ⟨zp_5.1, zp_5.2.1, zds_1⟩, plainFor_of_name zp_5.2.2, fun h => absurd h (by decide), by decide⟩
theorem zds_17 : (parseMethodDescriptor "(LStoneFurrows$Mills;I)V").map (fun d => d.parameters.length) = some 2 := by decide +kernel
theorem zmp_54 : zMP zm_54 := fun _ => ⟨zr_766, zr_49, fun h => absurd h (by decide), fun _ => zr_765, fun _ => ⟨zr_14, rfl⟩, rfl, ⟨zp_5.1, zp_5.2.1, zds_17⟩, plainFor_of_name zp_5.2.2, fun h => absurd h (by decide), by decide⟩
theorem zds_18 : (parseMethodDescriptor "(LStoneFurrows$Mills;II)I").map (fun d => d.parameters.length) = some 3 := by decide +kernel
theorem zmp_55 : zMP zm_55 := fun _ => ⟨zr_774, zr_49, fun h => absurd h (by decide), fun _ => zr_773, fun _ => ⟨zr_15, rfl⟩, rfl, ⟨zp_5.1, zp_5.2.1, zds_18⟩, plainFor_of_name zp_5.2.2, fun h => absurd h (by decide), by decide⟩
theorem zmp_56 : zMP zm_56 := fun _ => ⟨zr_799, zr_49, fun h => absurd h (by decide), fun _ => zr_798, fun _ => ⟨zr_16, rfl⟩, rfl, ⟨zp_5.1, zp_5.2.1, zds_15⟩, plainFor_of_name zp_5.2.2, fun h => absurd h (by decide), by decide⟩
theorem zmp_57 : zMP zm_57 := fun _ => ⟨zr_814, zr_49, fun h => absurd h (by decide), fun _ => zr_813, fun _ => ⟨zr_18, rfl⟩, rfl, ⟨zp_5.1, zp_5.2.1, zds_6⟩, plainFor_of_name zp_5.2.2, fun h => absurd h (by decide), by decide⟩
theorem zmp_58 : zMP zm_58 := fun _ => ⟨zr_803, zr_49, fun h => absurd h (by decide), fun _ => zr_802, fun _ => ⟨zr_17, rfl⟩, rfl, ⟨zp_5.1, zp_5.2.1, zds_11⟩, plainFor_of_name zp_5.2.2, fun h => absurd h (by decide), by decide⟩
theorem zmp_59 : zMP zm_59 := fun _ => ⟨zr_806, zr_49, fun _ => zr_805, fun h => absurd rfl h, fun h => absurd h (by decide), rfl, ⟨zp_5.1, zp_5.2.1, zds_15⟩, plainFor_of_name zp_5.2.2, fun h => absurd h (by decide), by decide⟩
theorem zmp_60 : zMP zm_60 := fun _ => ⟨zr_809, zr_49, fun _ => zr_808, fun h => absurd rfl h, fun h => absurd h (by decide), rfl, ⟨zp_5.1, zp_5.2.1, zds_15⟩, plainFor_of_name zp_5.2.2, fun h => absurd h (by decide), by decide⟩
theorem zmp_61 : zMP zm_61 := fun _ => ⟨zr_818, zr_49, fun h => absurd h (by decide), fun _ => zr_817, fun _ => ⟨zr_19, rfl⟩, rfl, ⟨zp_5.1, zp_5.2.1, zds_17⟩, plainFor_of_name zp_5.2.2, fun h => absurd h (by decide), by decide⟩
theorem zds_19 : (parseMethodDescriptor "(LStoneFurrows$Planner;LStoneFurrows$Mills;IIII)Z").map (fun d => d.parameters.length) = some 6 := by decide +kernel
theorem zmp_62 : zMP zm_62 := fun _ => ⟨zr_821, zr_49, fun _ => zr_820, fun h => absurd rfl h, fun h => absurd h (by decide), rfl, ⟨zp_5.1, zp_5.2.1, zds_19⟩, plainFor_of_name zp_5.2.2, fun h => absurd h (by decide), by decide⟩
theorem zmp_63 : zMP zm_63 := fun _ => ⟨zr_206, zr_50, fun h => absurd h (by decide), fun _ => zr_205, fun h => absurd h (by decide), rfl, ⟨zp_6.1, zp_6.2.1, zds_5⟩, plainFor_of_name zp_6.2.2, fun _ => ⟨rfl, rfl⟩, by decide⟩
theorem zds_20 : (parseMethodDescriptor "(IIII)I").map (fun d => d.parameters.length) = some 4 := by decide +kernel
theorem zmp_64 : zMP zm_64 := fun _ => ⟨zr_211, zr_50, fun h => absurd h (by decide), fun _ => zr_209, fun _ => ⟨zr_210, rfl⟩, rfl, ⟨zp_6.1, zp_6.2.1, zds_20⟩, plainFor_of_name zp_6.2.2, fun h => absurd h (by decide), by decide⟩
theorem zmp_65 : zMP zm_65 := fun _ => ⟨zr_234, zr_50, fun h => absurd h (by decide), fun _ => zr_233, fun _ => ⟨zr_1, rfl⟩, rfl, ⟨zp_6.1, zp_6.2.1, zds_4⟩, plainFor_of_name zp_6.2.2, fun h => absurd h (by decide), by decide⟩
theorem zds_21 : (parseMethodDescriptor "(II)V").map (fun d => d.parameters.length) = some 2 := by decide +kernel
theorem zmp_66 : zMP zm_66 := fun _ => ⟨zr_218, zr_50, fun h => absurd h (by decide), fun _ => zr_217, fun _ => ⟨zr_0, rfl⟩, rfl, ⟨zp_6.1, zp_6.2.1, zds_21⟩, plainFor_of_name zp_6.2.2, fun h => absurd h (by decide), by decide⟩
theorem zmp_67 : zMP zm_67 := fun _ => ⟨zr_333, zr_50, fun h => absurd h (by decide), fun _ => zr_331, fun _ => ⟨zr_332, rfl⟩, rfl, ⟨zp_6.1, zp_6.2.1, zds_1⟩, plainFor_of_name zp_6.2.2, fun h => absurd h (by decide), by decide⟩
theorem zmp_68 : zMP zm_68 := fun _ => ⟨zr_428, zr_50, fun h => absurd h (by decide), fun _ => zr_426, fun _ => ⟨zr_427, rfl⟩, rfl, ⟨zp_6.1, zp_6.2.1, zds_1⟩, plainFor_of_name zp_6.2.2, fun h => absurd h (by decide), by decide⟩
theorem zmp_69 : zMP zm_69 := fun _ => ⟨zr_338, zr_50, fun h => absurd h (by decide), fun _ => zr_336, fun _ => ⟨zr_337, rfl⟩, rfl, ⟨zp_6.1, zp_6.2.1, zds_15⟩, plainFor_of_name zp_6.2.2, fun h => absurd h (by decide), by decide⟩
theorem zmp_70 : zMP zm_70 := fun _ => ⟨zr_342, zr_50, fun h => absurd h (by decide), fun _ => zr_340, fun _ => ⟨zr_341, rfl⟩, rfl, ⟨zp_6.1, zp_6.2.1, zds_1⟩, plainFor_of_name zp_6.2.2, fun h => absurd h (by decide), by decide⟩
theorem zds_22 : (parseMethodDescriptor "(IIZ)V").map (fun d => d.parameters.length) = some 3 := by decide +kernel
theorem zmp_71 : zMP zm_71 := fun _ => ⟨zr_361, zr_50, fun h => absurd h (by decide), fun _ => zr_359, fun _ => ⟨zr_360, rfl⟩, rfl, ⟨zp_6.1, zp_6.2.1, zds_22⟩, plainFor_of_name zp_6.2.2, fun h => absurd h (by decide), by decide⟩
theorem zmp_72 : zMP zm_72 := fun _ => ⟨zr_350, zr_50, fun h => absurd h (by decide), fun _ => zr_348, fun _ => ⟨zr_349, rfl⟩, rfl, ⟨zp_6.1, zp_6.2.1, zds_11⟩, plainFor_of_name zp_6.2.2, fun h => absurd h (by decide), by decide⟩
theorem zds_23 : (parseMethodDescriptor "(Z)I").map (fun d => d.parameters.length) = some 1 := by decide +kernel
theorem zmp_73 : zMP zm_73 := fun _ => ⟨zr_369, zr_50, fun h => absurd h (by decide), fun _ => zr_367, fun _ => ⟨zr_368, rfl⟩, rfl, ⟨zp_6.1, zp_6.2.1, zds_23⟩, plainFor_of_name zp_6.2.2, fun h => absurd h (by decide), by decide⟩
theorem zmp_74 : zMP zm_74 := fun _ => ⟨zr_374, zr_50, fun h => absurd h (by decide), fun _ => zr_373, fun _ => ⟨zr_2, rfl⟩, rfl, ⟨zp_6.1, zp_6.2.1, zds_13⟩, plainFor_of_name zp_6.2.2, fun h => absurd h (by decide), by decide⟩
theorem zmp_75 : zMP zm_75 := fun _ => ⟨zr_378, zr_50, fun h => absurd h (by decide), fun _ => zr_377, fun _ => ⟨zr_3, rfl⟩, rfl, ⟨zp_6.1, zp_6.2.1, zds_13⟩, plainFor_of_name zp_6.2.2, fun h => absurd h (by decide), by decide⟩
theorem zds_24 : (parseMethodDescriptor "(LStoneFurrows$Stone;II)Z").map (fun d => d.parameters.length) = some 3 := by decide +kernel
theorem zmp_76 : zMP zm_76 := fun _ => ⟨zr_386, zr_50, fun h => absurd h (by decide), fun _ => zr_384, fun _ => ⟨zr_385, rfl⟩, rfl, ⟨zp_6.1, zp_6.2.1, zds_24⟩, plainFor_of_name zp_6.2.2, fun h => absurd h (by decide), by decide⟩
theorem zmp_77 : zMP zm_77 := fun _ => ⟨zr_394, zr_50, fun h => absurd h (by decide), fun _ => zr_392, fun _ => ⟨zr_393, rfl⟩, rfl, ⟨zp_6.1, zp_6.2.1, zds_4⟩, plainFor_of_name zp_6.2.2, fun h => absurd h (by decide), by decide⟩
theorem zmp_78 : zMP zm_78 := fun _ => ⟨zr_576, zr_50, fun h => absurd h (by decide), fun _ => zr_574, fun _ => ⟨zr_575, rfl⟩, rfl, ⟨zp_6.1, zp_6.2.1, zds_13⟩, plainFor_of_name zp_6.2.2, fun h => absurd h (by decide), by decide⟩
theorem zds_25 : (parseMethodDescriptor "(LStoneFurrows$Stone;)I").map (fun d => d.parameters.length) = some 1 := by decide +kernel
theorem zmp_79 : zMP zm_79 := fun _ => ⟨zr_568, zr_50, fun h => absurd h (by decide), fun _ => zr_566, fun _ => ⟨zr_567, rfl⟩, rfl, ⟨zp_6.1, zp_6.2.1, zds_25⟩, plainFor_of_name zp_6.2.2, fun h => absurd h (by decide), by decide⟩
theorem zmp_80 : zMP zm_80 := fun _ => ⟨zr_572, zr_50, fun h => absurd h (by decide), fun _ => zr_571, fun _ => ⟨zr_8, rfl⟩, rfl, ⟨zp_6.1, zp_6.2.1, zds_25⟩, plainFor_of_name zp_6.2.2, fun h => absurd h (by decide), by decide⟩
theorem zmp_81 : zMP zm_81 := fun _ => ⟨zr_583, zr_50, fun h => absurd h (by decide), fun _ => zr_582, fun _ => ⟨zr_9, rfl⟩, rfl, ⟨zp_6.1, zp_6.2.1, zds_15⟩, plainFor_of_name zp_6.2.2, fun h => absurd h (by decide), by decide⟩
theorem zmp_82 : zMP zm_82 := fun _ => ⟨zr_593, zr_50, fun h => absurd h (by decide), fun _ => zr_591, fun _ => ⟨zr_592, rfl⟩, rfl, ⟨zp_6.1, zp_6.2.1, zds_15⟩, plainFor_of_name zp_6.2.2, fun h => absurd h (by decide), by decide⟩
theorem zmp_83 : zMP zm_83 := fun _ => ⟨zr_601, zr_50, fun h => absurd h (by decide), fun _ => zr_599, fun _ => ⟨zr_600, rfl⟩, rfl, ⟨zp_6.1, zp_6.2.1, zds_4⟩, plainFor_of_name zp_6.2.2, fun h => absurd h (by decide), by decide⟩
theorem zmp_84 : zMP zm_84 := fun _ => ⟨zr_605, zr_50, fun h => absurd h (by decide), fun _ => zr_603, fun _ => ⟨zr_604, rfl⟩, rfl, ⟨zp_6.1, zp_6.2.1, zds_3⟩, plainFor_of_name zp_6.2.2, fun h => absurd h (by decide), by decide⟩
theorem zmp_85 : zMP zm_85 := fun _ => ⟨zr_609, zr_50, fun h => absurd h (by decide), fun _ => zr_607, fun _ => ⟨zr_608, rfl⟩, rfl, ⟨zp_6.1, zp_6.2.1, zds_3⟩, plainFor_of_name zp_6.2.2, fun h => absurd h (by decide), by decide⟩
theorem zmp_86 : zMP zm_86 := fun _ => ⟨zr_617, zr_50, fun h => absurd h (by decide), fun _ => zr_615, fun _ => ⟨zr_616, rfl⟩, rfl, ⟨zp_6.1, zp_6.2.1, zds_8⟩, plainFor_of_name zp_6.2.2, fun h => absurd h (by decide), by decide⟩
theorem zmp_87 : zMP zm_87 := fun _ => ⟨zr_856, zr_50, fun h => absurd h (by decide), fun _ => zr_854, fun _ => ⟨zr_855, rfl⟩, rfl, ⟨zp_6.1, zp_6.2.1, zds_12⟩, plainFor_of_name zp_6.2.2, fun h => absurd h (by decide), by decide⟩
theorem zmp_88 : zMP zm_88 := fun _ => ⟨zr_117, zr_46, fun h => absurd h (by decide), fun _ => zr_116, fun h => absurd h (by decide), rfl, ⟨zp_7.1, zp_7.2.1, zds_5⟩, plainFor_of_name zp_7.2.2, fun _ => ⟨rfl, rfl⟩, by decide⟩
theorem zmp_89 : zMP zm_89 := fun _ => ⟨zr_625, zr_46, fun h => absurd h (by decide), fun _ => zr_623, fun _ => ⟨zr_624, rfl⟩, rfl, ⟨zp_7.1, zp_7.2.1, zds_2⟩, plainFor_of_name zp_7.2.2, fun h => absurd h (by decide), by decide⟩
theorem zmp_90 : zMP zm_90 := fun _ => ⟨zr_649, zr_46, fun h => absurd h (by decide), fun _ => zr_648, fun _ => ⟨zr_10, rfl⟩, rfl, ⟨zp_7.1, zp_7.2.1, zds_10⟩, plainFor_of_name zp_7.2.2, fun h => absurd h (by decide), by decide⟩
theorem zmp_91 : zMP zm_91 := fun _ => ⟨zr_640, zr_46, fun h => absurd h (by decide), fun _ => zr_638, fun _ => ⟨zr_639, rfl⟩, rfl, ⟨zp_7.1, zp_7.2.1, zds_3⟩, plainFor_of_name zp_7.2.2, fun h => absurd h (by decide), by decide⟩
theorem zmp_92 : zMP zm_92 := fun _ => ⟨zr_663, zr_46, fun h => absurd h (by decide), fun _ => zr_661, fun _ => ⟨zr_662, rfl⟩, rfl, ⟨zp_7.1, zp_7.2.1, zds_15⟩, plainFor_of_name zp_7.2.2, fun h => absurd h (by decide), by decide⟩
theorem zmp_93 : zMP zm_93 := fun _ => ⟨zr_870, zr_46, fun h => absurd h (by decide), fun _ => zr_868, fun _ => ⟨zr_869, rfl⟩, rfl, ⟨zp_7.1, zp_7.2.1, zds_12⟩, plainFor_of_name zp_7.2.2, fun h => absurd h (by decide), by decide⟩
theorem zmp_94 : zMP zm_94 := fun _ => ⟨zr_58, zr_43, fun h => absurd h (by decide), fun _ => zr_57, fun h => absurd h (by decide), rfl, ⟨zp_8.1, zp_8.2.1, zds_5⟩, plainFor_of_name zp_8.2.2, fun _ => ⟨rfl, rfl⟩, by decide⟩
theorem zds_26 : (parseMethodDescriptor "(IIIII)I").map (fun d => d.parameters.length) = some 5 := by decide +kernel
theorem zmp_95 : zMP zm_95 := fun _ => ⟨zr_311, zr_43, fun h => absurd h (by decide), fun _ => zr_309, fun _ => ⟨zr_310, rfl⟩, rfl, ⟨zp_8.1, zp_8.2.1, zds_26⟩, plainFor_of_name zp_8.2.2, fun h => absurd h (by decide), by decide⟩
theorem zmp_96 : zMP zm_96 := fun _ => ⟨zr_322, zr_43, fun h => absurd h (by decide), fun _ => zr_320, fun _ => ⟨zr_321, rfl⟩, rfl, ⟨zp_8.1, zp_8.2.1, zds_20⟩, plainFor_of_name zp_8.2.2, fun h => absurd h (by decide), by decide⟩
theorem zmp_97 : zMP zm_97 := fun _ => ⟨zr_346, zr_43, fun h => absurd h (by decide), fun _ => zr_344, fun _ => ⟨zr_345, rfl⟩, rfl, ⟨zp_8.1, zp_8.2.1, zds_20⟩, plainFor_of_name zp_8.2.2, fun h => absurd h (by decide), by decide⟩
theorem zds_27 : (parseMethodDescriptor "(IIIZ)I").map (fun d => d.parameters.length) = some 4 := by decide +kernel
theorem zmp_98 : zMP zm_98 := fun _ => ⟨zr_357, zr_43, fun h => absurd h (by decide), fun _ => zr_355, fun _ => ⟨zr_356, rfl⟩, rfl, ⟨zp_8.1, zp_8.2.1, zds_27⟩, plainFor_of_name zp_8.2.2, fun h => absurd h (by decide), by decide⟩
theorem zmp_99 : zMP zm_99 := fun _ => ⟨zr_365, zr_43, fun h => absurd h (by decide), fun _ => zr_363, fun _ => ⟨zr_364, rfl⟩, rfl, ⟨zp_8.1, zp_8.2.1, zds_15⟩, plainFor_of_name zp_8.2.2, fun h => absurd h (by decide), by decide⟩
theorem zmp_100 : zMP zm_100 := fun _ => ⟨zr_382, zr_43, fun h => absurd h (by decide), fun _ => zr_380, fun _ => ⟨zr_381, rfl⟩, rfl, ⟨zp_8.1, zp_8.2.1, zds_15⟩, plainFor_of_name zp_8.2.2, fun h => absurd h (by decide), by decide⟩
theorem zmp_101 : zMP zm_101 := fun _ => ⟨zr_390, zr_43, fun h => absurd h (by decide), fun _ => zr_388, fun _ => ⟨zr_389, rfl⟩, rfl, ⟨zp_8.1, zp_8.2.1, zds_3⟩, plainFor_of_name zp_8.2.2, fun h => absurd h (by decide), by decide⟩
theorem zmp_102 : zMP zm_102 := fun _ => ⟨zr_398, zr_43, fun h => absurd h (by decide), fun _ => zr_396, fun _ => ⟨zr_397, rfl⟩, rfl, ⟨zp_8.1, zp_8.2.1, zds_15⟩, plainFor_of_name zp_8.2.2, fun h => absurd h (by decide), by decide⟩
theorem zmp_103 : zMP zm_103 := fun _ => ⟨zr_406, zr_43, fun h => absurd h (by decide), fun _ => zr_404, fun _ => ⟨zr_405, rfl⟩, rfl, ⟨zp_8.1, zp_8.2.1, zds_3⟩, plainFor_of_name zp_8.2.2, fun h => absurd h (by decide), by decide⟩
theorem zmp_104 : zMP zm_104 := fun _ => ⟨zr_420, zr_43, fun h => absurd h (by decide), fun _ => zr_418, fun _ => ⟨zr_419, rfl⟩, rfl, ⟨zp_8.1, zp_8.2.1, zds_3⟩, plainFor_of_name zp_8.2.2, fun h => absurd h (by decide), by decide⟩
theorem zmp_105 : zMP zm_105 := fun _ => ⟨zr_438, zr_43, fun h => absurd h (by decide), fun _ => zr_436, fun _ => ⟨zr_437, rfl⟩, rfl, ⟨zp_8.1, zp_8.2.1, zds_3⟩, plainFor_of_name zp_8.2.2, fun h => absurd h (by decide), by decide⟩
theorem zmp_106 : zMP zm_106 := fun _ => ⟨zr_451, zr_43, fun h => absurd h (by decide), fun _ => zr_449, fun _ => ⟨zr_450, rfl⟩, rfl, ⟨zp_8.1, zp_8.2.1, zds_4⟩, plainFor_of_name zp_8.2.2, fun h => absurd h (by decide), by decide⟩
theorem zmp_107 : zMP zm_107 := fun _ => ⟨zr_455, zr_43, fun h => absurd h (by decide), fun _ => zr_453, fun _ => ⟨zr_454, rfl⟩, rfl, ⟨zp_8.1, zp_8.2.1, zds_3⟩, plainFor_of_name zp_8.2.2, fun h => absurd h (by decide), by decide⟩
theorem zmp_108 : zMP zm_108 := fun _ => ⟨zr_459, zr_43, fun h => absurd h (by decide), fun _ => zr_457, fun _ => ⟨zr_458, rfl⟩, rfl, ⟨zp_8.1, zp_8.2.1, zds_11⟩, plainFor_of_name zp_8.2.2, fun h => absurd h (by decide), by decide⟩
theorem zmp_109 : zMP zm_109 := fun _ => ⟨zr_467, zr_43, fun h => absurd h (by decide), fun _ => zr_465, fun _ => ⟨zr_466, rfl⟩, rfl, ⟨zp_8.1, zp_8.2.1, zds_11⟩, plainFor_of_name zp_8.2.2, fun h => absurd h (by decide), by decide⟩
theorem zmp_110 : zMP zm_110 := fun _ => ⟨zr_489, zr_43, fun h => absurd h (by decide), fun _ => zr_487, fun _ => ⟨zr_488, rfl⟩, rfl, ⟨zp_8.1, zp_8.2.1, zds_3⟩, plainFor_of_name zp_8.2.2, fun h => absurd h (by decide), by decide⟩
theorem zmp_111 : zMP zm_111 := fun _ => ⟨zr_502, zr_43, fun h => absurd h (by decide), fun _ => zr_500, fun _ => ⟨zr_501, rfl⟩, rfl, ⟨zp_8.1, zp_8.2.1, zds_20⟩, plainFor_of_name zp_8.2.2, fun h => absurd h (by decide), by decide⟩
theorem zmp_112 : zMP zm_112 := fun _ => ⟨zr_551, zr_43, fun h => absurd h (by decide), fun _ => zr_549, fun _ => ⟨zr_550, rfl⟩, rfl, ⟨zp_8.1, zp_8.2.1, zds_15⟩, plainFor_of_name zp_8.2.2, fun h => absurd h (by decide), by decide⟩
theorem zmp_113 : zMP zm_113 := fun _ => ⟨zr_560, zr_43, fun h => absurd h (by decide), fun _ => zr_558, fun _ => ⟨zr_559, rfl⟩, rfl, ⟨zp_8.1, zp_8.2.1, zds_3⟩, plainFor_of_name zp_8.2.2, fun h => absurd h (by decide), by decide⟩
theorem zmp_114 : zMP zm_114 := fun _ => ⟨zr_589, zr_43, fun h => absurd h (by decide), fun _ => zr_587, fun _ => ⟨zr_588, rfl⟩, rfl, ⟨zp_8.1, zp_8.2.1, zds_11⟩, plainFor_of_name zp_8.2.2, fun h => absurd h (by decide), by decide⟩
theorem zmp_115 : zMP zm_115 := fun _ => ⟨zr_597, zr_43, fun h => absurd h (by decide), fun _ => zr_595, fun _ => ⟨zr_596, rfl⟩, rfl, ⟨zp_8.1, zp_8.2.1, zds_11⟩, plainFor_of_name zp_8.2.2, fun h => absurd h (by decide), by decide⟩
theorem zmp_116 : zMP zm_116 := fun _ => ⟨zr_613, zr_43, fun h => absurd h (by decide), fun _ => zr_611, fun _ => ⟨zr_612, rfl⟩, rfl, ⟨zp_8.1, zp_8.2.1, zds_15⟩, plainFor_of_name zp_8.2.2, fun h => absurd h (by decide), by decide⟩
theorem zmp_117 : zMP zm_117 := fun _ => ⟨zr_621, zr_43, fun h => absurd h (by decide), fun _ => zr_619, fun _ => ⟨zr_620, rfl⟩, rfl, ⟨zp_8.1, zp_8.2.1, zds_11⟩, plainFor_of_name zp_8.2.2, fun h => absurd h (by decide), by decide⟩
theorem zmp_118 : zMP zm_118 := fun _ => ⟨zr_632, zr_43, fun h => absurd h (by decide), fun _ => zr_630, fun _ => ⟨zr_631, rfl⟩, rfl, ⟨zp_8.1, zp_8.2.1, zds_4⟩, plainFor_of_name zp_8.2.2, fun h => absurd h (by decide), by decide⟩
theorem zmp_119 : zMP zm_119 := fun _ => ⟨zr_636, zr_43, fun h => absurd h (by decide), fun _ => zr_634, fun _ => ⟨zr_635, rfl⟩, rfl, ⟨zp_8.1, zp_8.2.1, zds_4⟩, plainFor_of_name zp_8.2.2, fun h => absurd h (by decide), by decide⟩
theorem zmp_120 : zMP zm_120 := fun _ => ⟨zr_659, zr_43, fun h => absurd h (by decide), fun _ => zr_657, fun _ => ⟨zr_658, rfl⟩, rfl, ⟨zp_8.1, zp_8.2.1, zds_3⟩, plainFor_of_name zp_8.2.2, fun h => absurd h (by decide), by decide⟩
theorem zmp_121 : zMP zm_121 := fun _ => ⟨zr_671, zr_43, fun h => absurd h (by decide), fun _ => zr_669, fun _ => ⟨zr_670, rfl⟩, rfl, ⟨zp_8.1, zp_8.2.1, zds_15⟩, plainFor_of_name zp_8.2.2, fun h => absurd h (by decide), by decide⟩
theorem zmp_122 : zMP zm_122 := fun _ => ⟨zr_680, zr_43, fun h => absurd h (by decide), fun _ => zr_678, fun _ => ⟨zr_679, rfl⟩, rfl, ⟨zp_8.1, zp_8.2.1, zds_4⟩, plainFor_of_name zp_8.2.2, fun h => absurd h (by decide), by decide⟩
theorem zmp_123 : zMP zm_123 := fun _ => ⟨zr_684, zr_43, fun h => absurd h (by decide), fun _ => zr_682, fun _ => ⟨zr_683, rfl⟩, rfl, ⟨zp_8.1, zp_8.2.1, zds_15⟩, plainFor_of_name zp_8.2.2, fun h => absurd h (by decide), by decide⟩
theorem zmp_124 : zMP zm_124 := fun _ => ⟨zr_711, zr_43, fun h => absurd h (by decide), fun _ => zr_709, fun _ => ⟨zr_710, rfl⟩, rfl, ⟨zp_8.1, zp_8.2.1, zds_4⟩, plainFor_of_name zp_8.2.2, fun h => absurd h (by decide), by decide⟩
theorem zmp_125 : zMP zm_125 := fun _ => ⟨zr_715, zr_43, fun h => absurd h (by decide), fun _ => zr_713, fun _ => ⟨zr_714, rfl⟩, rfl, ⟨zp_8.1, zp_8.2.1, zds_20⟩, plainFor_of_name zp_8.2.2, fun h => absurd h (by decide), by decide⟩
theorem zmp_126 : zMP zm_126 := fun _ => ⟨zr_727, zr_43, fun h => absurd h (by decide), fun _ => zr_725, fun _ => ⟨zr_726, rfl⟩, rfl, ⟨zp_8.1, zp_8.2.1, zds_3⟩, plainFor_of_name zp_8.2.2, fun h => absurd h (by decide), by decide⟩
theorem zmp_127 : zMP zm_127 := fun _ => ⟨zr_736, zr_43, fun h => absurd h (by decide), fun _ => zr_734, fun _ => ⟨zr_735, rfl⟩, rfl, ⟨zp_8.1, zp_8.2.1, zds_11⟩, plainFor_of_name zp_8.2.2, fun h => absurd h (by decide), by decide⟩
theorem zmp_128 : zMP zm_128 := fun _ => ⟨zr_748, zr_43, fun h => absurd h (by decide), fun _ => zr_746, fun _ => ⟨zr_747, rfl⟩, rfl, ⟨zp_8.1, zp_8.2.1, zds_3⟩, plainFor_of_name zp_8.2.2, fun h => absurd h (by decide), by decide⟩
theorem zmp_129 : zMP zm_129 := fun _ => ⟨zr_752, zr_43, fun h => absurd h (by decide), fun _ => zr_750, fun _ => ⟨zr_751, rfl⟩, rfl, ⟨zp_8.1, zp_8.2.1, zds_4⟩, plainFor_of_name zp_8.2.2, fun h => absurd h (by decide), by decide⟩
theorem zmp_130 : zMP zm_130 := fun _ => ⟨zr_825, zr_43, fun h => absurd h (by decide), fun _ => zr_823, fun _ => ⟨zr_824, rfl⟩, rfl, ⟨zp_8.1, zp_8.2.1, zds_3⟩, plainFor_of_name zp_8.2.2, fun h => absurd h (by decide), by decide⟩
theorem zmp_131 : zMP zm_131 := fun _ => ⟨zr_833, zr_43, fun h => absurd h (by decide), fun _ => zr_831, fun _ => ⟨zr_832, rfl⟩, rfl, ⟨zp_8.1, zp_8.2.1, zds_3⟩, plainFor_of_name zp_8.2.2, fun h => absurd h (by decide), by decide⟩
theorem zmp_132 : zMP zm_132 := fun _ => ⟨zr_841, zr_43, fun h => absurd h (by decide), fun _ => zr_839, fun _ => ⟨zr_840, rfl⟩, rfl, ⟨zp_8.1, zp_8.2.1, zds_3⟩, plainFor_of_name zp_8.2.2, fun h => absurd h (by decide), by decide⟩
theorem zds_28 : (parseMethodDescriptor "()J").map (fun d => d.parameters.length) = some 0 := by decide +kernel
theorem zmp_133 : zMP zm_133 := fun _ => ⟨zr_851, zr_43, fun h => absurd h (by decide), fun _ => zr_849, fun _ => ⟨zr_850, rfl⟩, rfl, ⟨zp_8.1, zp_8.2.1, zds_28⟩, plainFor_of_name zp_8.2.2, fun h => absurd h (by decide), by decide⟩
theorem zmp_134 : zMP zm_134 := fun _ => ⟨zr_756, zr_43, fun h => absurd h (by decide), fun _ => zr_755, fun _ => ⟨zr_13, rfl⟩, rfl, ⟨zp_8.1, zp_8.2.1, zds_5⟩, plainFor_of_name zp_8.2.2, fun h => absurd h (by decide), by decide⟩
theorem zmp_135 : zMP zm_135 := fun _ => ⟨zr_224, zr_43, fun _ => zr_223, fun h => absurd rfl h, fun h => absurd h (by decide), rfl, ⟨zp_8.1, zp_8.2.1, zds_2⟩, plainFor_of_name zp_8.2.2, fun h => absurd h (by decide), by decide⟩
theorem zmp_136 : zMP zm_136 := fun _ => ⟨zr_314, zr_43, fun _ => zr_313, fun h => absurd rfl h, fun h => absurd h (by decide), rfl, ⟨zp_8.1, zp_8.2.1, zds_13⟩, plainFor_of_name zp_8.2.2, fun h => absurd h (by decide), by decide⟩
theorem zmp_137 : zMP zm_137 := fun _ => ⟨zr_221, zr_43, fun _ => zr_220, fun h => absurd rfl h, fun h => absurd h (by decide), rfl, ⟨zp_8.1, zp_8.2.1, zds_13⟩, plainFor_of_name zp_8.2.2, fun h => absurd h (by decide), by decide⟩
theorem zmp_138 : zMP zm_138 := fun _ => ⟨zr_329, zr_43, fun _ => zr_328, fun h => absurd rfl h, fun h => absurd h (by decide), rfl, ⟨zp_8.1, zp_8.2.1, zds_13⟩, plainFor_of_name zp_8.2.2, fun h => absurd h (by decide), by decide⟩
theorem zmp_139 : zMP zm_139 := fun _ => ⟨zr_325, zr_43, fun _ => zr_324, fun h => absurd rfl h, fun h => absurd h (by decide), rfl, ⟨zp_8.1, zp_8.2.1, zds_1⟩, plainFor_of_name zp_8.2.2, fun h => absurd h (by decide), by decide⟩
theorem zmp_140 : zMP zm_140 := fun _ => ⟨zr_718, zr_43, fun _ => zr_717, fun h => absurd rfl h, fun h => absurd h (by decide), rfl, ⟨zp_8.1, zp_8.2.1, zds_13⟩, plainFor_of_name zp_8.2.2, fun h => absurd h (by decide), by decide⟩
theorem zmp_141 : zMP zm_141 := fun _ => ⟨zr_317, zr_43, fun _ => zr_316, fun h => absurd rfl h, fun h => absurd h (by decide), rfl, ⟨zp_8.1, zp_8.2.1, zds_13⟩, plainFor_of_name zp_8.2.2, fun h => absurd h (by decide), by decide⟩
theorem zmp_142 : zMP zm_142 := fun _ => ⟨zr_237, zr_43, fun _ => zr_236, fun h => absurd rfl h, fun h => absurd h (by decide), rfl, ⟨zp_8.1, zp_8.2.1, zds_23⟩, plainFor_of_name zp_8.2.2, fun h => absurd h (by decide), by decide⟩
theorem zmp_143 : zMP zm_143 := fun _ => ⟨zr_227, zr_43, fun _ => zr_226, fun h => absurd rfl h, fun h => absurd h (by decide), rfl, ⟨zp_8.1, zp_8.2.1, zds_3⟩, plainFor_of_name zp_8.2.2, fun h => absurd h (by decide), by decide⟩
theorem zds_29 : (parseMethodDescriptor "(JJ)J").map (fun d => d.parameters.length) = some 2 := by decide +kernel
theorem zmp_144 : zMP zm_144 := fun _ => ⟨zr_859, zr_43, fun _ => zr_858, fun h => absurd rfl h, fun h => absurd h (by decide), rfl, ⟨zp_8.1, zp_8.2.1, zds_29⟩, plainFor_of_name zp_8.2.2, fun h => absurd h (by decide), by decide⟩
theorem zds_30 : (parseMethodDescriptor "([II)I").map (fun d => d.parameters.length) = some 2 := by decide +kernel
theorem zmp_145 : zMP zm_145 := fun _ => ⟨zr_481, zr_43, fun _ => zr_480, fun h => absurd rfl h, fun h => absurd h (by decide), rfl, ⟨zp_8.1, zp_8.2.1, zds_30⟩, plainFor_of_name zp_8.2.2, fun h => absurd h (by decide), by decide⟩
theorem zds_31 : (parseMethodDescriptor "([III)V").map (fun d => d.parameters.length) = some 3 := by decide +kernel
theorem zmp_146 : zMP zm_146 := fun _ => ⟨zr_628, zr_43, fun _ => zr_627, fun h => absurd rfl h, fun h => absurd h (by decide), rfl, ⟨zp_8.1, zp_8.2.1, zds_31⟩, plainFor_of_name zp_8.2.2, fun h => absurd h (by decide), by decide⟩
theorem zmp_147 : zMP zm_147 := fun _ => ⟨zr_886, zr_53, fun h => absurd h (by decide), fun _ => zr_885, fun h => absurd h (by decide), rfl, ⟨zp_9.1, zp_9.2.1, zds_5⟩, plainFor_of_name zp_9.2.2, fun _ => ⟨rfl, rfl⟩, by decide⟩
theorem zds_32 : (parseMethodDescriptor "(JJJ)Z").map (fun d => d.parameters.length) = some 3 := by decide +kernel
theorem zmp_148 : zMP zm_148 := fun _ => ⟨zr_1026, zr_53, fun _ => zr_1025, fun h => absurd rfl h, fun h => absurd h (by decide), rfl, ⟨zp_9.1, zp_9.2.1, zds_32⟩, plainFor_of_name zp_9.2.2, fun h => absurd h (by decide), by decide⟩
theorem zmp_149 : zMP zm_149 := fun _ => ⟨zr_894, zr_53, fun _ => zr_893, fun h => absurd rfl h, fun h => absurd h (by decide), rfl, ⟨zp_9.1, zp_9.2.1, zds_15⟩, plainFor_of_name zp_9.2.2, fun h => absurd h (by decide), by decide⟩
theorem zmp_150 : zMP zm_150 := fun _ => ⟨zr_897, zr_53, fun _ => zr_896, fun h => absurd rfl h, fun h => absurd h (by decide), rfl, ⟨zp_9.1, zp_9.2.1, zds_3⟩, plainFor_of_name zp_9.2.2, fun h => absurd h (by decide), by decide⟩
theorem zmp_151 : zMP zm_151 := fun _ => ⟨zr_900, zr_53, fun _ => zr_899, fun h => absurd rfl h, fun h => absurd h (by decide), rfl, ⟨zp_9.1, zp_9.2.1, zds_11⟩, plainFor_of_name zp_9.2.2, fun h => absurd h (by decide), by decide⟩
theorem zmp_152 : zMP zm_152 := fun _ => ⟨zr_1022, zr_53, fun _ => zr_1021, fun h => absurd rfl h, fun h => absurd h (by decide), rfl, ⟨zp_9.1, zp_9.2.1, zds_13⟩, plainFor_of_name zp_9.2.2, fun h => absurd h (by decide), by decide⟩
theorem zmp_153 : zMP zm_153 := fun _ => ⟨zr_1040, zr_53, fun _ => zr_1039, fun h => absurd rfl h, fun h => absurd h (by decide), rfl, ⟨zp_9.1, zp_9.2.1, zds_13⟩, plainFor_of_name zp_9.2.2, fun h => absurd h (by decide), by decide⟩
theorem zmp_154 : zMP zm_154 := fun _ => ⟨zr_1036, zr_53, fun _ => zr_1035, fun h => absurd rfl h, fun h => absurd h (by decide), rfl, ⟨zp_9.1, zp_9.2.1, zds_2⟩, plainFor_of_name zp_9.2.2, fun h => absurd h (by decide), by decide⟩
theorem zmp_155 : zMP zm_155 := fun _ => ⟨zr_891, zr_53, fun h => absurd h (by decide), fun _ => zr_890, fun _ => ⟨zr_20, rfl⟩, rfl, ⟨zp_9.1, zp_9.2.1, zds_26⟩, plainFor_of_name zp_9.2.2, fun h => absurd h (by decide), by decide⟩
theorem zmp_156 : zMP zm_156 := fun _ => ⟨zr_1019, zr_53, fun h => absurd h (by decide), fun _ => zr_1017, fun _ => ⟨zr_1018, rfl⟩, rfl, ⟨zp_9.1, zp_9.2.1, zds_26⟩, plainFor_of_name zp_9.2.2, fun h => absurd h (by decide), by decide⟩
theorem zmp_157 : zMP zm_157 := fun _ => ⟨zr_1033, zr_53, fun h => absurd h (by decide), fun _ => zr_1031, fun _ => ⟨zr_1032, rfl⟩, rfl, ⟨zp_9.1, zp_9.2.1, zds_20⟩, plainFor_of_name zp_9.2.2, fun h => absurd h (by decide), by decide⟩
theorem zmp_158 : zMP zm_158 := fun _ => ⟨zr_1045, zr_53, fun h => absurd h (by decide), fun _ => zr_1043, fun _ => ⟨zr_1044, rfl⟩, rfl, ⟨zp_9.1, zp_9.2.1, zds_20⟩, plainFor_of_name zp_9.2.2, fun h => absurd h (by decide), by decide⟩
theorem zmp_159 : zMP zm_159 := fun _ => ⟨zr_1050, zr_53, fun h => absurd h (by decide), fun _ => zr_1048, fun _ => ⟨zr_1049, rfl⟩, rfl, ⟨zp_9.1, zp_9.2.1, zds_27⟩, plainFor_of_name zp_9.2.2, fun h => absurd h (by decide), by decide⟩
theorem zmp_160 : zMP zm_160 := fun _ => ⟨zr_1054, zr_53, fun h => absurd h (by decide), fun _ => zr_1052, fun _ => ⟨zr_1053, rfl⟩, rfl, ⟨zp_9.1, zp_9.2.1, zds_15⟩, plainFor_of_name zp_9.2.2, fun h => absurd h (by decide), by decide⟩
theorem zmp_161 : zMP zm_161 := fun _ => ⟨zr_1058, zr_53, fun h => absurd h (by decide), fun _ => zr_1056, fun _ => ⟨zr_1057, rfl⟩, rfl, ⟨zp_9.1, zp_9.2.1, zds_15⟩, plainFor_of_name zp_9.2.2, fun h => absurd h (by decide), by decide⟩
theorem zmp_162 : zMP zm_162 := fun _ => ⟨zr_1062, zr_53, fun h => absurd h (by decide), fun _ => zr_1060, fun _ => ⟨zr_1061, rfl⟩, rfl, ⟨zp_9.1, zp_9.2.1, zds_3⟩, plainFor_of_name zp_9.2.2, fun h => absurd h (by decide), by decide⟩
theorem zmp_163 : zMP zm_163 := fun _ => ⟨zr_1066, zr_53, fun h => absurd h (by decide), fun _ => zr_1064, fun _ => ⟨zr_1065, rfl⟩, rfl, ⟨zp_9.1, zp_9.2.1, zds_15⟩, plainFor_of_name zp_9.2.2, fun h => absurd h (by decide), by decide⟩
theorem zmp_164 : zMP zm_164 := fun _ => ⟨zr_1082, zr_53, fun h => absurd h (by decide), fun _ => zr_1081, fun _ => ⟨zr_23, rfl⟩, rfl, ⟨zp_9.1, zp_9.2.1, zds_1⟩, plainFor_of_name zp_9.2.2, fun h => absurd h (by decide), by decide⟩
theorem zmp_165 : zMP zm_165 := fun _ => ⟨zr_1086, zr_53, fun h => absurd h (by decide), fun _ => zr_1085, fun _ => ⟨zr_24, rfl⟩, rfl, ⟨zp_9.1, zp_9.2.1, zds_2⟩, plainFor_of_name zp_9.2.2, fun h => absurd h (by decide), by decide⟩
theorem zmp_166 : zMP zm_166 := fun _ => ⟨zr_1078, zr_53, fun h => absurd h (by decide), fun _ => zr_1077, fun _ => ⟨zr_22, rfl⟩, rfl, ⟨zp_9.1, zp_9.2.1, zds_2⟩, plainFor_of_name zp_9.2.2, fun h => absurd h (by decide), by decide⟩
theorem zmp_167 : zMP zm_167 := fun _ => ⟨zr_1074, zr_53, fun h => absurd h (by decide), fun _ => zr_1073, fun _ => ⟨zr_21, rfl⟩, rfl, ⟨zp_9.1, zp_9.2.1, zds_3⟩, plainFor_of_name zp_9.2.2, fun h => absurd h (by decide), by decide⟩
theorem zmp_168 : zMP zm_168 := fun _ => ⟨zr_1070, zr_53, fun h => absurd h (by decide), fun _ => zr_1068, fun _ => ⟨zr_1069, rfl⟩, rfl, ⟨zp_9.1, zp_9.2.1, zds_3⟩, plainFor_of_name zp_9.2.2, fun h => absurd h (by decide), by decide⟩
theorem zmp_169 : zMP zm_169 := fun _ => ⟨zr_1090, zr_53, fun h => absurd h (by decide), fun _ => zr_1088, fun _ => ⟨zr_1089, rfl⟩, rfl, ⟨zp_9.1, zp_9.2.1, zds_3⟩, plainFor_of_name zp_9.2.2, fun h => absurd h (by decide), by decide⟩
theorem zmp_170 : zMP zm_170 := fun _ => ⟨zr_1098, zr_53, fun h => absurd h (by decide), fun _ => zr_1097, fun _ => ⟨zr_25, rfl⟩, rfl, ⟨zp_9.1, zp_9.2.1, zds_15⟩, plainFor_of_name zp_9.2.2, fun h => absurd h (by decide), by decide⟩
theorem zmp_171 : zMP zm_171 := fun _ => ⟨zr_1094, zr_53, fun h => absurd h (by decide), fun _ => zr_1092, fun _ => ⟨zr_1093, rfl⟩, rfl, ⟨zp_9.1, zp_9.2.1, zds_3⟩, plainFor_of_name zp_9.2.2, fun h => absurd h (by decide), by decide⟩
theorem zmp_172 : zMP zm_172 := fun _ => ⟨zr_1102, zr_53, fun h => absurd h (by decide), fun _ => zr_1100, fun _ => ⟨zr_1101, rfl⟩, rfl, ⟨zp_9.1, zp_9.2.1, zds_4⟩, plainFor_of_name zp_9.2.2, fun h => absurd h (by decide), by decide⟩
theorem zmp_173 : zMP zm_173 := fun _ => ⟨zr_1106, zr_53, fun h => absurd h (by decide), fun _ => zr_1104, fun _ => ⟨zr_1105, rfl⟩, rfl, ⟨zp_9.1, zp_9.2.1, zds_3⟩, plainFor_of_name zp_9.2.2, fun h => absurd h (by decide), by decide⟩
theorem zmp_174 : zMP zm_174 := fun _ => ⟨zr_1110, zr_53, fun h => absurd h (by decide), fun _ => zr_1108, fun _ => ⟨zr_1109, rfl⟩, rfl, ⟨zp_9.1, zp_9.2.1, zds_11⟩, plainFor_of_name zp_9.2.2, fun h => absurd h (by decide), by decide⟩
theorem zmp_175 : zMP zm_175 := fun _ => ⟨zr_1127, zr_53, fun _ => zr_1126, fun h => absurd rfl h, fun h => absurd h (by decide), rfl, ⟨zp_9.1, zp_9.2.1, zds_3⟩, plainFor_of_name zp_9.2.2, fun h => absurd h (by decide), by decide⟩
theorem zds_33 : (parseMethodDescriptor "(IIIIII)I").map (fun d => d.parameters.length) = some 6 := by decide +kernel
theorem zmp_176 : zMP zm_176 := fun _ => ⟨zr_1124, zr_53, fun h => absurd h (by decide), fun _ => zr_1123, fun _ => ⟨zr_27, rfl⟩, rfl, ⟨zp_9.1, zp_9.2.1, zds_33⟩, plainFor_of_name zp_9.2.2, fun h => absurd h (by decide), by decide⟩
theorem zmp_177 : zMP zm_177 := fun _ => ⟨zr_1120, zr_53, fun h => absurd h (by decide), fun _ => zr_1119, fun _ => ⟨zr_26, rfl⟩, rfl, ⟨zp_9.1, zp_9.2.1, zds_11⟩, plainFor_of_name zp_9.2.2, fun h => absurd h (by decide), by decide⟩
theorem zmp_178 : zMP zm_178 := fun _ => ⟨zr_1116, zr_53, fun h => absurd h (by decide), fun _ => zr_1114, fun _ => ⟨zr_1115, rfl⟩, rfl, ⟨zp_9.1, zp_9.2.1, zds_11⟩, plainFor_of_name zp_9.2.2, fun h => absurd h (by decide), by decide⟩
theorem zmp_179 : zMP zm_179 := fun _ => ⟨zr_1131, zr_53, fun h => absurd h (by decide), fun _ => zr_1129, fun _ => ⟨zr_1130, rfl⟩, rfl, ⟨zp_9.1, zp_9.2.1, zds_3⟩, plainFor_of_name zp_9.2.2, fun h => absurd h (by decide), by decide⟩
theorem zmp_180 : zMP zm_180 := fun _ => ⟨zr_1141, zr_53, fun h => absurd h (by decide), fun _ => zr_1140, fun _ => ⟨zr_28, rfl⟩, rfl, ⟨zp_9.1, zp_9.2.1, zds_6⟩, plainFor_of_name zp_9.2.2, fun h => absurd h (by decide), by decide⟩
theorem zmp_181 : zMP zm_181 := fun _ => ⟨zr_1135, zr_53, fun h => absurd h (by decide), fun _ => zr_1133, fun _ => ⟨zr_1134, rfl⟩, rfl, ⟨zp_9.1, zp_9.2.1, zds_20⟩, plainFor_of_name zp_9.2.2, fun h => absurd h (by decide), by decide⟩
theorem zmp_182 : zMP zm_182 := fun _ => ⟨zr_1145, zr_53, fun h => absurd h (by decide), fun _ => zr_1143, fun _ => ⟨zr_1144, rfl⟩, rfl, ⟨zp_9.1, zp_9.2.1, zds_15⟩, plainFor_of_name zp_9.2.2, fun h => absurd h (by decide), by decide⟩
theorem zds_34 : (parseMethodDescriptor "(IIII)Z").map (fun d => d.parameters.length) = some 4 := by decide +kernel
theorem zmp_183 : zMP zm_183 := fun _ => ⟨zr_1157, zr_53, fun h => absurd h (by decide), fun _ => zr_1156, fun _ => ⟨zr_30, rfl⟩, rfl, ⟨zp_9.1, zp_9.2.1, zds_34⟩, plainFor_of_name zp_9.2.2, fun h => absurd h (by decide), by decide⟩
theorem zmp_184 : zMP zm_184 := fun _ => ⟨zr_1153, zr_53, fun h => absurd h (by decide), fun _ => zr_1152, fun _ => ⟨zr_29, rfl⟩, rfl, ⟨zp_9.1, zp_9.2.1, zds_15⟩, plainFor_of_name zp_9.2.2, fun h => absurd h (by decide), by decide⟩
theorem zmp_185 : zMP zm_185 := fun _ => ⟨zr_1149, zr_53, fun h => absurd h (by decide), fun _ => zr_1147, fun _ => ⟨zr_1148, rfl⟩, rfl, ⟨zp_9.1, zp_9.2.1, zds_3⟩, plainFor_of_name zp_9.2.2, fun h => absurd h (by decide), by decide⟩
theorem zmp_186 : zMP zm_186 := fun _ => ⟨zr_1161, zr_53, fun h => absurd h (by decide), fun _ => zr_1159, fun _ => ⟨zr_1160, rfl⟩, rfl, ⟨zp_9.1, zp_9.2.1, zds_11⟩, plainFor_of_name zp_9.2.2, fun h => absurd h (by decide), by decide⟩
theorem zmp_187 : zMP zm_187 := fun _ => ⟨zr_1169, zr_53, fun h => absurd h (by decide), fun _ => zr_1168, fun _ => ⟨zr_31, rfl⟩, rfl, ⟨zp_9.1, zp_9.2.1, zds_3⟩, plainFor_of_name zp_9.2.2, fun h => absurd h (by decide), by decide⟩
theorem zmp_188 : zMP zm_188 := fun _ => ⟨zr_1165, zr_53, fun h => absurd h (by decide), fun _ => zr_1163, fun _ => ⟨zr_1164, rfl⟩, rfl, ⟨zp_9.1, zp_9.2.1, zds_11⟩, plainFor_of_name zp_9.2.2, fun h => absurd h (by decide), by decide⟩
theorem zmp_189 : zMP zm_189 := fun _ => ⟨zr_1173, zr_53, fun h => absurd h (by decide), fun _ => zr_1171, fun _ => ⟨zr_1172, rfl⟩, rfl, ⟨zp_9.1, zp_9.2.1, zds_15⟩, plainFor_of_name zp_9.2.2, fun h => absurd h (by decide), by decide⟩
theorem zmp_190 : zMP zm_190 := fun _ => ⟨zr_1177, zr_53, fun h => absurd h (by decide), fun _ => zr_1175, fun _ => ⟨zr_1176, rfl⟩, rfl, ⟨zp_9.1, zp_9.2.1, zds_11⟩, plainFor_of_name zp_9.2.2, fun h => absurd h (by decide), by decide⟩
theorem zmp_191 : zMP zm_191 := fun _ => ⟨zr_1181, zr_53, fun h => absurd h (by decide), fun _ => zr_1179, fun _ => ⟨zr_1180, rfl⟩, rfl, ⟨zp_9.1, zp_9.2.1, zds_4⟩, plainFor_of_name zp_9.2.2, fun h => absurd h (by decide), by decide⟩
theorem zmp_192 : zMP zm_192 := fun _ => ⟨zr_1189, zr_53, fun h => absurd h (by decide), fun _ => zr_1188, fun _ => ⟨zr_32, rfl⟩, rfl, ⟨zp_9.1, zp_9.2.1, zds_3⟩, plainFor_of_name zp_9.2.2, fun h => absurd h (by decide), by decide⟩
theorem zmp_193 : zMP zm_193 := fun _ => ⟨zr_1185, zr_53, fun h => absurd h (by decide), fun _ => zr_1183, fun _ => ⟨zr_1184, rfl⟩, rfl, ⟨zp_9.1, zp_9.2.1, zds_4⟩, plainFor_of_name zp_9.2.2, fun h => absurd h (by decide), by decide⟩
theorem zmp_194 : zMP zm_194 := fun _ => ⟨zr_1194, zr_53, fun h => absurd h (by decide), fun _ => zr_1192, fun _ => ⟨zr_1193, rfl⟩, rfl, ⟨zp_9.1, zp_9.2.1, zds_3⟩, plainFor_of_name zp_9.2.2, fun h => absurd h (by decide), by decide⟩
theorem zmp_195 : zMP zm_195 := fun _ => ⟨zr_1203, zr_53, fun h => absurd h (by decide), fun _ => zr_1202, fun _ => ⟨zr_33, rfl⟩, rfl, ⟨zp_9.1, zp_9.2.1, zds_15⟩, plainFor_of_name zp_9.2.2, fun h => absurd h (by decide), by decide⟩
theorem zmp_196 : zMP zm_196 := fun _ => ⟨zr_1198, zr_53, fun h => absurd h (by decide), fun _ => zr_1196, fun _ => ⟨zr_1197, rfl⟩, rfl, ⟨zp_9.1, zp_9.2.1, zds_15⟩, plainFor_of_name zp_9.2.2, fun h => absurd h (by decide), by decide⟩
theorem zmp_197 : zMP zm_197 := fun _ => ⟨zr_1207, zr_53, fun h => absurd h (by decide), fun _ => zr_1205, fun _ => ⟨zr_1206, rfl⟩, rfl, ⟨zp_9.1, zp_9.2.1, zds_4⟩, plainFor_of_name zp_9.2.2, fun h => absurd h (by decide), by decide⟩
theorem zmp_198 : zMP zm_198 := fun _ => ⟨zr_1211, zr_53, fun h => absurd h (by decide), fun _ => zr_1209, fun _ => ⟨zr_1210, rfl⟩, rfl, ⟨zp_9.1, zp_9.2.1, zds_15⟩, plainFor_of_name zp_9.2.2, fun h => absurd h (by decide), by decide⟩
theorem zmp_199 : zMP zm_199 := fun _ => ⟨zr_1215, zr_53, fun h => absurd h (by decide), fun _ => zr_1213, fun _ => ⟨zr_1214, rfl⟩, rfl, ⟨zp_9.1, zp_9.2.1, zds_4⟩, plainFor_of_name zp_9.2.2, fun h => absurd h (by decide), by decide⟩
theorem zmp_200 : zMP zm_200 := fun _ => ⟨zr_1222, zr_53, fun _ => zr_1221, fun h => absurd rfl h, fun h => absurd h (by decide), rfl, ⟨zp_9.1, zp_9.2.1, zds_13⟩, plainFor_of_name zp_9.2.2, fun h => absurd h (by decide), by decide⟩
theorem zmp_201 : zMP zm_201 := fun _ => ⟨zr_1219, zr_53, fun h => absurd h (by decide), fun _ => zr_1217, fun _ => ⟨zr_1218, rfl⟩, rfl, ⟨zp_9.1, zp_9.2.1, zds_20⟩, plainFor_of_name zp_9.2.2, fun h => absurd h (by decide), by decide⟩
theorem zmp_202 : zMP zm_202 := fun _ => ⟨zr_1228, zr_53, fun h => absurd h (by decide), fun _ => zr_1226, fun _ => ⟨zr_1227, rfl⟩, rfl, ⟨zp_9.1, zp_9.2.1, zds_3⟩, plainFor_of_name zp_9.2.2, fun h => absurd h (by decide), by decide⟩
theorem zmp_203 : zMP zm_203 := fun _ => ⟨zr_1232, zr_53, fun h => absurd h (by decide), fun _ => zr_1230, fun _ => ⟨zr_1231, rfl⟩, rfl, ⟨zp_9.1, zp_9.2.1, zds_11⟩, plainFor_of_name zp_9.2.2, fun h => absurd h (by decide), by decide⟩
theorem zmp_204 : zMP zm_204 := fun _ => ⟨zr_1236, zr_53, fun h => absurd h (by decide), fun _ => zr_1234, fun _ => ⟨zr_1235, rfl⟩, rfl, ⟨zp_9.1, zp_9.2.1, zds_3⟩, plainFor_of_name zp_9.2.2, fun h => absurd h (by decide), by decide⟩
theorem zmp_205 : zMP zm_205 := fun _ => ⟨zr_1248, zr_53, fun h => absurd h (by decide), fun _ => zr_1247, fun _ => ⟨zr_35, rfl⟩, rfl, ⟨zp_9.1, zp_9.2.1, zds_4⟩, plainFor_of_name zp_9.2.2, fun h => absurd h (by decide), by decide⟩
theorem zmp_206 : zMP zm_206 := fun _ => ⟨zr_1260, zr_53, fun h => absurd h (by decide), fun _ => zr_1259, fun _ => ⟨zr_38, rfl⟩, rfl, ⟨zp_9.1, zp_9.2.1, zds_8⟩, plainFor_of_name zp_9.2.2, fun h => absurd h (by decide), by decide⟩
theorem zmp_207 : zMP zm_207 := fun _ => ⟨zr_1264, zr_53, fun h => absurd h (by decide), fun _ => zr_1263, fun _ => ⟨zr_39, rfl⟩, rfl, ⟨zp_9.1, zp_9.2.1, zds_4⟩, plainFor_of_name zp_9.2.2, fun h => absurd h (by decide), by decide⟩
theorem zmp_208 : zMP zm_208 := fun _ => ⟨zr_1268, zr_53, fun h => absurd h (by decide), fun _ => zr_1267, fun _ => ⟨zr_40, rfl⟩, rfl, ⟨zp_9.1, zp_9.2.1, zds_10⟩, plainFor_of_name zp_9.2.2, fun h => absurd h (by decide), by decide⟩
theorem zmp_209 : zMP zm_209 := fun _ => ⟨zr_1272, zr_53, fun h => absurd h (by decide), fun _ => zr_1271, fun _ => ⟨zr_41, rfl⟩, rfl, ⟨zp_9.1, zp_9.2.1, zds_21⟩, plainFor_of_name zp_9.2.2, fun h => absurd h (by decide), by decide⟩
theorem zmp_210 : zMP zm_210 := fun _ => ⟨zr_1256, zr_53, fun h => absurd h (by decide), fun _ => zr_1255, fun _ => ⟨zr_37, rfl⟩, rfl, ⟨zp_9.1, zp_9.2.1, zds_15⟩, plainFor_of_name zp_9.2.2, fun h => absurd h (by decide), by decide⟩
theorem zmp_211 : zMP zm_211 := fun _ => ⟨zr_1252, zr_53, fun h => absurd h (by decide), fun _ => zr_1251, fun _ => ⟨zr_36, rfl⟩, rfl, ⟨zp_9.1, zp_9.2.1, zds_8⟩, plainFor_of_name zp_9.2.2, fun h => absurd h (by decide), by decide⟩
theorem zmp_212 : zMP zm_212 := fun _ => ⟨zr_1244, zr_53, fun h => absurd h (by decide), fun _ => zr_1243, fun _ => ⟨zr_34, rfl⟩, rfl, ⟨zp_9.1, zp_9.2.1, zds_4⟩, plainFor_of_name zp_9.2.2, fun h => absurd h (by decide), by decide⟩
theorem zmp_213 : zMP zm_213 := fun _ => ⟨zr_1240, zr_53, fun h => absurd h (by decide), fun _ => zr_1238, fun _ => ⟨zr_1239, rfl⟩, rfl, ⟨zp_9.1, zp_9.2.1, zds_4⟩, plainFor_of_name zp_9.2.2, fun h => absurd h (by decide), by decide⟩
theorem zmp_214 : zMP zm_214 := fun _ => ⟨zr_1276, zr_53, fun h => absurd h (by decide), fun _ => zr_1274, fun _ => ⟨zr_1275, rfl⟩, rfl, ⟨zp_9.1, zp_9.2.1, zds_3⟩, plainFor_of_name zp_9.2.2, fun h => absurd h (by decide), by decide⟩
theorem zmp_215 : zMP zm_215 := fun _ => ⟨zr_1280, zr_53, fun h => absurd h (by decide), fun _ => zr_1278, fun _ => ⟨zr_1279, rfl⟩, rfl, ⟨zp_9.1, zp_9.2.1, zds_3⟩, plainFor_of_name zp_9.2.2, fun h => absurd h (by decide), by decide⟩
theorem zmp_216 : zMP zm_216 := fun _ => ⟨zr_1284, zr_53, fun h => absurd h (by decide), fun _ => zr_1282, fun _ => ⟨zr_1283, rfl⟩, rfl, ⟨zp_9.1, zp_9.2.1, zds_3⟩, plainFor_of_name zp_9.2.2, fun h => absurd h (by decide), by decide⟩
theorem zmp_217 : zMP zm_217 := fun _ => ⟨zr_1288, zr_53, fun h => absurd h (by decide), fun _ => zr_1286, fun _ => ⟨zr_1287, rfl⟩, rfl, ⟨zp_9.1, zp_9.2.1, zds_28⟩, plainFor_of_name zp_9.2.2, fun h => absurd h (by decide), by decide⟩
theorem zpf_218 : plainFor yJ9_floorDiv_7cf53 = true := by decide +kernel
theorem zmp_218 : zMP zm_218 := fun _ => ⟨zr_214, zr_51, fun _ => zr_213, fun h => absurd rfl h, fun h => absurd h (by decide), rfl, ⟨zp_11.1, zp_11.2, zds_15⟩, zpf_218, fun h => absurd h (by decide), by decide⟩
theorem zpf_219 : plainFor yJ9_floorMod_7cf53 = true := by decide +kernel
theorem zmp_219 : zMP zm_219 := fun _ => ⟨zr_230, zr_51, fun _ => zr_229, fun h => absurd rfl h, fun h => absurd h (by decide), rfl, ⟨zp_11.1, zp_11.2, zds_15⟩, zpf_219, fun h => absurd h (by decide), by decide⟩
theorem zpf_220 : plainFor yJ9_abs_0f7a4 = true := by decide +kernel
theorem zmp_220 : zMP zm_220 := fun _ => ⟨zr_654, zr_51, fun _ => zr_653, fun h => absurd rfl h, fun h => absurd h (by decide), rfl, ⟨zp_11.1, zp_11.2, zds_3⟩, zpf_220, fun h => absurd h (by decide), by decide⟩
theorem zpf_221 : plainFor yJ9_max_7cf53 = true := by decide +kernel
theorem zmp_221 : zMP zm_221 := fun _ => ⟨zr_485, zr_51, fun _ => zr_484, fun h => absurd rfl h, fun h => absurd h (by decide), rfl, ⟨zp_11.1, zp_11.2, zds_15⟩, zpf_221, fun h => absurd h (by decide), by decide⟩
theorem zpf_222 : plainFor yJ9_min_7cf53 = true := by decide +kernel
theorem zmp_222 : zMP zm_222 := fun _ => ⟨zr_353, zr_51, fun _ => zr_352, fun h => absurd rfl h, fun h => absurd h (by decide), rfl, ⟨zp_11.1, zp_11.2, zds_15⟩, zpf_222, fun h => absurd h (by decide), by decide⟩
theorem zmp_223 : zMP zm_223 := fun h => absurd rfl h
theorem zmps_0 : zAll zMP zMeth_0 := ⟨zmp_0, zmp_1, zmp_2, zmp_3, zmp_4, zmp_5, zmp_6, zmp_7, zmp_8, zmp_9, zmp_10, zmp_11, zmp_12, zmp_13, zmp_14, zmp_15, zmp_16, zmp_17, zmp_18, zmp_19, zmp_20, zmp_21, zmp_22, zmp_23, zmp_24, zmp_25, zmp_26, zmp_27, zmp_28, zmp_29, zmp_30, zmp_31, trivial⟩
theorem zmps_1 : zAll zMP zMeth_1 := ⟨zmp_32, zmp_33, zmp_34, zmp_35, zmp_36, zmp_37, zmp_38, zmp_39, zmp_40, zmp_41, zmp_42, zmp_43, zmp_44, zmp_45, zmp_46, zmp_47, zmp_48, zmp_49, zmp_50, zmp_51, zmp_52, zmp_53, zmp_54, zmp_55, zmp_56, zmp_57, zmp_58, zmp_59, zmp_60, zmp_61, zmp_62, zmp_63, trivial⟩
theorem zmps_2 : zAll zMP zMeth_2 := ⟨zmp_64, zmp_65, zmp_66, zmp_67, zmp_68, zmp_69, zmp_70, zmp_71, zmp_72, zmp_73, zmp_74, zmp_75, zmp_76, zmp_77, zmp_78, zmp_79, zmp_80, zmp_81, zmp_82, zmp_83, zmp_84, zmp_85, zmp_86, zmp_87, zmp_88, zmp_89, zmp_90, zmp_91, zmp_92, zmp_93, zmp_94, zmp_95, trivial⟩
theorem zmps_3 : zAll zMP zMeth_3 := ⟨zmp_96, zmp_97, zmp_98, zmp_99, zmp_100, zmp_101, zmp_102, zmp_103, zmp_104, zmp_105, zmp_106, zmp_107, zmp_108, zmp_109, zmp_110, zmp_111, zmp_112, zmp_113, zmp_114, zmp_115, zmp_116, zmp_117, zmp_118, zmp_119, zmp_120, zmp_121, zmp_122, zmp_123, zmp_124, zmp_125, zmp_126, zmp_127, trivial⟩
theorem zmps_4 : zAll zMP zMeth_4 := ⟨zmp_128, zmp_129, zmp_130, zmp_131, zmp_132, zmp_133, zmp_134, zmp_135, zmp_136, zmp_137, zmp_138, zmp_139, zmp_140, zmp_141, zmp_142, zmp_143, zmp_144, zmp_145, zmp_146, zmp_147, zmp_148, zmp_149, zmp_150, zmp_151, zmp_152, zmp_153, zmp_154, zmp_155, zmp_156, zmp_157, zmp_158, zmp_159, trivial⟩
theorem zmps_5 : zAll zMP zMeth_5 := ⟨zmp_160, zmp_161, zmp_162, zmp_163, zmp_164, zmp_165, zmp_166, zmp_167, zmp_168, zmp_169, zmp_170, zmp_171, zmp_172, zmp_173, zmp_174, zmp_175, zmp_176, zmp_177, zmp_178, zmp_179, zmp_180, zmp_181, zmp_182, zmp_183, zmp_184, zmp_185, zmp_186, zmp_187, zmp_188, zmp_189, zmp_190, zmp_191, trivial⟩
theorem zmps_6 : zAll zMP zMeth_6 := ⟨zmp_192, zmp_193, zmp_194, zmp_195, zmp_196, zmp_197, zmp_198, zmp_199, zmp_200, zmp_201, zmp_202, zmp_203, zmp_204, zmp_205, zmp_206, zmp_207, zmp_208, zmp_209, zmp_210, zmp_211, zmp_212, zmp_213, zmp_214, zmp_215, zmp_216, zmp_217, zmp_218, zmp_219, zmp_220, zmp_221, zmp_222, zmp_223, trivial⟩
theorem zmp_all : zAll zMP zMeth := zAll_app zmps_0 (zAll_app zmps_1 (zAll_app zmps_2 (zAll_app zmps_3 (zAll_app zmps_4 (zAll_app zmps_5 (zmps_6))))))
theorem zmr_0 : zMeth[0]? = some zm_0 := rfl
theorem zmr_1 : zMeth[1]? = some zm_1 := rfl
theorem zmr_2 : zMeth[2]? = some zm_2 := rfl
theorem zmr_3 : zMeth[3]? = some zm_3 := rfl
theorem zmr_4 : zMeth[4]? = some zm_4 := rfl
theorem zmr_5 : zMeth[5]? = some zm_5 := rfl
theorem zmr_6 : zMeth[6]? = some zm_6 := rfl
theorem zmr_7 : zMeth[7]? = some zm_7 := rfl
theorem zmr_8 : zMeth[8]? = some zm_8 := rfl
theorem zmr_9 : zMeth[9]? = some zm_9 := rfl
theorem zmr_10 : zMeth[10]? = some zm_10 := rfl
theorem zmr_11 : zMeth[11]? = some zm_11 := rfl
theorem zmr_12 : zMeth[12]? = some zm_12 := rfl
theorem zmr_13 : zMeth[13]? = some zm_13 := rfl
theorem zmr_14 : zMeth[14]? = some zm_14 := rfl
theorem zmr_15 : zMeth[15]? = some zm_15 := rfl
theorem zmr_16 : zMeth[16]? = some zm_16 := rfl
theorem zmr_17 : zMeth[17]? = some zm_17 := rfl
theorem zmr_18 : zMeth[18]? = some zm_18 := rfl
theorem zmr_19 : zMeth[19]? = some zm_19 := rfl
theorem zmr_20 : zMeth[20]? = some zm_20 := rfl
theorem zmr_21 : zMeth[21]? = some zm_21 := rfl
theorem zmr_22 : zMeth[22]? = some zm_22 := rfl
theorem zmr_23 : zMeth[23]? = some zm_23 := rfl
theorem zmr_24 : zMeth[24]? = some zm_24 := rfl
theorem zmr_25 : zMeth[25]? = some zm_25 := rfl
theorem zmr_26 : zMeth[26]? = some zm_26 := rfl
theorem zmr_27 : zMeth[27]? = some zm_27 := rfl
theorem zmr_28 : zMeth[28]? = some zm_28 := rfl
theorem zmr_29 : zMeth[29]? = some zm_29 := rfl
theorem zmr_30 : zMeth[30]? = some zm_30 := rfl
theorem zmr_31 : zMeth[31]? = some zm_31 := rfl
theorem zmr_32 : zMeth[32]? = some zm_32 := rfl
theorem zmr_33 : zMeth[33]? = some zm_33 := rfl
theorem zmr_34 : zMeth[34]? = some zm_34 := rfl
theorem zmr_35 : zMeth[35]? = some zm_35 := rfl
theorem zmr_36 : zMeth[36]? = some zm_36 := rfl
theorem zmr_37 : zMeth[37]? = some zm_37 := rfl
theorem zmr_38 : zMeth[38]? = some zm_38 := rfl
theorem zmr_39 : zMeth[39]? = some zm_39 := rfl
theorem zmr_40 : zMeth[40]? = some zm_40 := rfl
theorem zmr_41 : zMeth[41]? = some zm_41 := rfl
theorem zmr_42 : zMeth[42]? = some zm_42 := rfl
theorem zmr_43 : zMeth[43]? = some zm_43 := rfl
theorem zmr_44 : zMeth[44]? = some zm_44 := rfl
theorem zmr_45 : zMeth[45]? = some zm_45 := rfl
theorem zmr_46 : zMeth[46]? = some zm_46 := rfl
theorem zmr_47 : zMeth[47]? = some zm_47 := rfl
theorem zmr_48 : zMeth[48]? = some zm_48 := rfl
theorem zmr_49 : zMeth[49]? = some zm_49 := rfl
theorem zmr_50 : zMeth[50]? = some zm_50 := rfl
theorem zmr_51 : zMeth[51]? = some zm_51 := rfl
theorem zmr_52 : zMeth[52]? = some zm_52 := rfl
theorem zmr_53 : zMeth[53]? = some zm_53 := rfl
theorem zmr_54 : zMeth[54]? = some zm_54 := rfl
theorem zmr_55 : zMeth[55]? = some zm_55 := rfl
theorem zmr_56 : zMeth[56]? = some zm_56 := rfl
theorem zmr_57 : zMeth[57]? = some zm_57 := rfl
theorem zmr_58 : zMeth[58]? = some zm_58 := rfl
theorem zmr_59 : zMeth[59]? = some zm_59 := rfl
theorem zmr_60 : zMeth[60]? = some zm_60 := rfl
theorem zmr_61 : zMeth[61]? = some zm_61 := rfl
theorem zmr_62 : zMeth[62]? = some zm_62 := rfl
theorem zmr_63 : zMeth[63]? = some zm_63 := rfl
theorem zmr_64 : zMeth[64]? = some zm_64 := rfl
theorem zmr_65 : zMeth[65]? = some zm_65 := rfl
theorem zmr_66 : zMeth[66]? = some zm_66 := rfl
theorem zmr_67 : zMeth[67]? = some zm_67 := rfl
theorem zmr_68 : zMeth[68]? = some zm_68 := rfl
theorem zmr_69 : zMeth[69]? = some zm_69 := rfl
theorem zmr_70 : zMeth[70]? = some zm_70 := rfl
theorem zmr_71 : zMeth[71]? = some zm_71 := rfl
theorem zmr_72 : zMeth[72]? = some zm_72 := rfl
theorem zmr_73 : zMeth[73]? = some zm_73 := rfl
theorem zmr_74 : zMeth[74]? = some zm_74 := rfl
theorem zmr_75 : zMeth[75]? = some zm_75 := rfl
theorem zmr_76 : zMeth[76]? = some zm_76 := rfl
theorem zmr_77 : zMeth[77]? = some zm_77 := rfl
theorem zmr_78 : zMeth[78]? = some zm_78 := rfl
theorem zmr_79 : zMeth[79]? = some zm_79 := rfl
theorem zmr_80 : zMeth[80]? = some zm_80 := rfl
theorem zmr_81 : zMeth[81]? = some zm_81 := rfl
theorem zmr_82 : zMeth[82]? = some zm_82 := rfl
theorem zmr_83 : zMeth[83]? = some zm_83 := rfl
theorem zmr_84 : zMeth[84]? = some zm_84 := rfl
theorem zmr_85 : zMeth[85]? = some zm_85 := rfl
theorem zmr_86 : zMeth[86]? = some zm_86 := rfl
theorem zmr_87 : zMeth[87]? = some zm_87 := rfl
theorem zmr_88 : zMeth[88]? = some zm_88 := rfl
theorem zmr_89 : zMeth[89]? = some zm_89 := rfl
theorem zmr_90 : zMeth[90]? = some zm_90 := rfl
theorem zmr_91 : zMeth[91]? = some zm_91 := rfl
theorem zmr_92 : zMeth[92]? = some zm_92 := rfl
theorem zmr_93 : zMeth[93]? = some zm_93 := rfl
theorem zmr_94 : zMeth[94]? = some zm_94 := rfl
theorem zmr_95 : zMeth[95]? = some zm_95 := rfl
theorem zmr_96 : zMeth[96]? = some zm_96 := rfl
theorem zmr_97 : zMeth[97]? = some zm_97 := rfl
theorem zmr_98 : zMeth[98]? = some zm_98 := rfl
theorem zmr_99 : zMeth[99]? = some zm_99 := rfl
theorem zmr_100 : zMeth[100]? = some zm_100 := rfl
theorem zmr_101 : zMeth[101]? = some zm_101 := rfl
theorem zmr_102 : zMeth[102]? = some zm_102 := rfl
theorem zmr_103 : zMeth[103]? = some zm_103 := rfl
theorem zmr_104 : zMeth[104]? = some zm_104 := rfl
theorem zmr_105 : zMeth[105]? = some zm_105 := rfl
theorem zmr_106 : zMeth[106]? = some zm_106 := rfl
theorem zmr_107 : zMeth[107]? = some zm_107 := rfl
theorem zmr_108 : zMeth[108]? = some zm_108 := rfl
theorem zmr_109 : zMeth[109]? = some zm_109 := rfl
theorem zmr_110 : zMeth[110]? = some zm_110 := rfl
theorem zmr_111 : zMeth[111]? = some zm_111 := rfl
theorem zmr_112 : zMeth[112]? = some zm_112 := rfl
theorem zmr_113 : zMeth[113]? = some zm_113 := rfl
theorem zmr_114 : zMeth[114]? = some zm_114 := rfl
theorem zmr_115 : zMeth[115]? = some zm_115 := rfl
theorem zmr_116 : zMeth[116]? = some zm_116 := rfl
theorem zmr_117 : zMeth[117]? = some zm_117 := rfl
theorem zmr_118 : zMeth[118]? = some zm_118 := rfl
theorem zmr_119 : zMeth[119]? = some zm_119 := rfl
theorem zmr_120 : zMeth[120]? = some zm_120 := rfl
theorem zmr_121 : zMeth[121]? = some zm_121 := rfl
theorem zmr_122 : zMeth[122]? = some zm_122 := rfl
theorem zmr_123 : zMeth[123]? = some zm_123 := rfl
theorem zmr_124 : zMeth[124]? = some zm_124 := rfl
theorem zmr_125 : zMeth[125]? = some zm_125 := rfl
theorem zmr_126 : zMeth[126]? = some zm_126 := rfl
theorem zmr_127 : zMeth[127]? = some zm_127 := rfl
theorem zmr_128 : zMeth[128]? = some zm_128 := rfl
theorem zmr_129 : zMeth[129]? = some zm_129 := rfl
theorem zmr_130 : zMeth[130]? = some zm_130 := rfl
theorem zmr_131 : zMeth[131]? = some zm_131 := rfl
theorem zmr_132 : zMeth[132]? = some zm_132 := rfl
theorem zmr_133 : zMeth[133]? = some zm_133 := rfl
theorem zmr_134 : zMeth[134]? = some zm_134 := rfl
theorem zmr_135 : zMeth[135]? = some zm_135 := rfl
theorem zmr_136 : zMeth[136]? = some zm_136 := rfl
theorem zmr_137 : zMeth[137]? = some zm_137 := rfl
theorem zmr_138 : zMeth[138]? = some zm_138 := rfl
theorem zmr_139 : zMeth[139]? = some zm_139 := rfl
theorem zmr_140 : zMeth[140]? = some zm_140 := rfl
theorem zmr_141 : zMeth[141]? = some zm_141 := rfl
theorem zmr_142 : zMeth[142]? = some zm_142 := rfl
theorem zmr_143 : zMeth[143]? = some zm_143 := rfl
theorem zmr_144 : zMeth[144]? = some zm_144 := rfl
theorem zmr_145 : zMeth[145]? = some zm_145 := rfl
theorem zmr_146 : zMeth[146]? = some zm_146 := rfl
theorem zmr_147 : zMeth[147]? = some zm_147 := rfl
theorem zmr_148 : zMeth[148]? = some zm_148 := rfl
theorem zmr_149 : zMeth[149]? = some zm_149 := rfl
theorem zmr_150 : zMeth[150]? = some zm_150 := rfl
theorem zmr_151 : zMeth[151]? = some zm_151 := rfl
theorem zmr_152 : zMeth[152]? = some zm_152 := rfl
theorem zmr_153 : zMeth[153]? = some zm_153 := rfl
theorem zmr_154 : zMeth[154]? = some zm_154 := rfl
theorem zmr_155 : zMeth[155]? = some zm_155 := rfl
theorem zmr_156 : zMeth[156]? = some zm_156 := rfl
theorem zmr_157 : zMeth[157]? = some zm_157 := rfl
theorem zmr_158 : zMeth[158]? = some zm_158 := rfl
theorem zmr_159 : zMeth[159]? = some zm_159 := rfl
theorem zmr_160 : zMeth[160]? = some zm_160 := rfl
theorem zmr_161 : zMeth[161]? = some zm_161 := rfl
theorem zmr_162 : zMeth[162]? = some zm_162 := rfl
theorem zmr_163 : zMeth[163]? = some zm_163 := rfl
theorem zmr_164 : zMeth[164]? = some zm_164 := rfl
theorem zmr_165 : zMeth[165]? = some zm_165 := rfl
theorem zmr_166 : zMeth[166]? = some zm_166 := rfl
theorem zmr_167 : zMeth[167]? = some zm_167 := rfl
theorem zmr_168 : zMeth[168]? = some zm_168 := rfl
theorem zmr_169 : zMeth[169]? = some zm_169 := rfl
theorem zmr_170 : zMeth[170]? = some zm_170 := rfl
theorem zmr_171 : zMeth[171]? = some zm_171 := rfl
theorem zmr_172 : zMeth[172]? = some zm_172 := rfl
theorem zmr_173 : zMeth[173]? = some zm_173 := rfl
theorem zmr_174 : zMeth[174]? = some zm_174 := rfl
theorem zmr_175 : zMeth[175]? = some zm_175 := rfl
theorem zmr_176 : zMeth[176]? = some zm_176 := rfl
theorem zmr_177 : zMeth[177]? = some zm_177 := rfl
theorem zmr_178 : zMeth[178]? = some zm_178 := rfl
theorem zmr_179 : zMeth[179]? = some zm_179 := rfl
theorem zmr_180 : zMeth[180]? = some zm_180 := rfl
theorem zmr_181 : zMeth[181]? = some zm_181 := rfl
theorem zmr_182 : zMeth[182]? = some zm_182 := rfl
theorem zmr_183 : zMeth[183]? = some zm_183 := rfl
theorem zmr_184 : zMeth[184]? = some zm_184 := rfl
theorem zmr_185 : zMeth[185]? = some zm_185 := rfl
theorem zmr_186 : zMeth[186]? = some zm_186 := rfl
theorem zmr_187 : zMeth[187]? = some zm_187 := rfl
theorem zmr_188 : zMeth[188]? = some zm_188 := rfl
theorem zmr_189 : zMeth[189]? = some zm_189 := rfl
theorem zmr_190 : zMeth[190]? = some zm_190 := rfl
theorem zmr_191 : zMeth[191]? = some zm_191 := rfl
theorem zmr_192 : zMeth[192]? = some zm_192 := rfl
theorem zmr_193 : zMeth[193]? = some zm_193 := rfl
theorem zmr_194 : zMeth[194]? = some zm_194 := rfl
theorem zmr_195 : zMeth[195]? = some zm_195 := rfl
theorem zmr_196 : zMeth[196]? = some zm_196 := rfl
theorem zmr_197 : zMeth[197]? = some zm_197 := rfl
theorem zmr_198 : zMeth[198]? = some zm_198 := rfl
theorem zmr_199 : zMeth[199]? = some zm_199 := rfl
theorem zmr_200 : zMeth[200]? = some zm_200 := rfl
theorem zmr_201 : zMeth[201]? = some zm_201 := rfl
theorem zmr_202 : zMeth[202]? = some zm_202 := rfl
theorem zmr_203 : zMeth[203]? = some zm_203 := rfl
theorem zmr_204 : zMeth[204]? = some zm_204 := rfl
theorem zmr_205 : zMeth[205]? = some zm_205 := rfl
theorem zmr_206 : zMeth[206]? = some zm_206 := rfl
theorem zmr_207 : zMeth[207]? = some zm_207 := rfl
theorem zmr_208 : zMeth[208]? = some zm_208 := rfl
theorem zmr_209 : zMeth[209]? = some zm_209 := rfl
theorem zmr_210 : zMeth[210]? = some zm_210 := rfl
theorem zmr_211 : zMeth[211]? = some zm_211 := rfl
theorem zmr_212 : zMeth[212]? = some zm_212 := rfl
theorem zmr_213 : zMeth[213]? = some zm_213 := rfl
theorem zmr_214 : zMeth[214]? = some zm_214 := rfl
theorem zmr_215 : zMeth[215]? = some zm_215 := rfl
theorem zmr_216 : zMeth[216]? = some zm_216 := rfl
theorem zmr_217 : zMeth[217]? = some zm_217 := rfl
theorem zmr_218 : zMeth[218]? = some zm_218 := rfl
theorem zmr_219 : zMeth[219]? = some zm_219 := rfl
theorem zmr_220 : zMeth[220]? = some zm_220 := rfl
theorem zmr_221 : zMeth[221]? = some zm_221 := rfl
theorem zmr_222 : zMeth[222]? = some zm_222 := rfl
theorem zmr_223 : zMeth[223]? = some zm_223 := rfl
/-- what an entry of a class's pool means -/
def zCP (ow : Nat) (own : String) (e : zCe) : Prop := match e.2.2 with
  | (0, a, b, _) => ∃ r : vw_C, vwCl[a]? = some r ∧ b < r.2.2 ∧ Cond.fieldLink own e.2.1 (r.2.1 b).1 (r.2.1 b).2.1 (r.2.1 b).2.2.1 ∈ zTB
  | (1, a, b, _) => ∃ r : vw_C, vwCl[a]? = some r ∧ b < r.2.2 ∧ Cond.fieldLinkNest own e.2.1 (r.2.1 b).1 (r.2.1 b).2.1 (r.2.1 b).2.2.1 "StoneFurrows" ∈ zTB
  | (2, a, b, _) => ∃ r : zMe, zMeth[a]? = some r ∧ Cond.methodLink own e.2.1 r.1 ∈ zTB ∧ r.2.2.2.2.2.1 = b ∧ r.2.2.2.2.2.2 = 0 ∧ r.2.2.2.2.1 ≠ 10
  | (3, a, b, _) => ∃ r : zMe, zMeth[a]? = some r ∧ Cond.methodLinkNest own e.2.1 r.1 "StoneFurrows" ∈ zTB ∧ r.2.2.2.2.2.1 = b ∧ r.2.2.2.2.2.2 = 0 ∧ r.2.2.2.2.1 ≠ 10
  | (4, a, b, _) => ∃ r : zMe, zMeth[a]? = some r ∧ Cond.methodLink own e.2.1 r.1 ∈ zTB ∧ r.2.2.2.2.2.1 = b ∧ r.2.2.2.2.2.2 = 1 ∧ r.2.2.2.2.1 ≠ 10
  | (5, a, b, _) => ∃ r : zMe, zMeth[a]? = some r ∧ Cond.methodLinkNest own e.2.1 r.1 "StoneFurrows" ∈ zTB ∧ r.2.2.2.2.2.1 = b ∧ r.2.2.2.2.2.2 = 1 ∧ r.2.2.2.2.1 ≠ 10
  | (6, a, b, _) => ∃ r : zMe, zMeth[a]? = some r ∧ Cond.methodLink own e.2.1 r.1 ∈ zTB ∧ r.2.2.2.2.2.1 = b ∧ r.2.2.2.2.2.2 = 2 ∧ r.2.2.2.2.1 ≠ 10
  | (7, a, b, _) => ∃ r : zMe, zMeth[a]? = some r ∧ Cond.methodLinkNest own e.2.1 r.1 "StoneFurrows" ∈ zTB ∧ r.2.2.2.2.2.1 = b ∧ r.2.2.2.2.2.2 = 2 ∧ r.2.2.2.2.1 ≠ 10
  | (8, _, _, _) => Cond.methodLink own e.2.1 objectInit ∈ zTB
  | (9, a, b, _) => ∃ r : vw_C, vwCl[a]? = some r ∧ r.2.2 = b ∧ Cond.classLink own e.2.1 r.1 ∈ zTB ∧ Cond.instantiable r.1 b ∈ zTB ∧ Cond.initialized r.1 ∈ zTB
  | (11, _, _, _) => Cond.fieldLink own e.2.1 "StoneFurrows$Hanging" "SLOPES" "[I" ∈ zTB
  | _ => False
theorem zcp_0 : zAll (zCP 0 RX0) zCp_0 := ⟨zr_260, ⟨(RX0, TX0, 2), rfl, by decide, zr_261⟩, ⟨(RX0, TX0, 2), rfl, by decide, zr_262⟩, ⟨zm_67, zmr_67, zr_415, rfl, rfl, by decide⟩, ⟨zm_4, zmr_4, zr_411, rfl, rfl, by decide⟩, ⟨zm_142, zmr_142, zr_416, rfl, rfl, by decide⟩, ⟨zm_68, zmr_68, zr_425, rfl, rfl, by decide⟩, ⟨zm_6, zmr_6, zr_433, rfl, rfl, by decide⟩, ⟨zm_222, zmr_222, zr_434, rfl, rfl, by decide⟩, ⟨zm_143, zmr_143, zr_443, rfl, rfl, by decide⟩, ⟨zm_5, zmr_5, zr_444, rfl, rfl, by decide⟩, ⟨zm_79, zmr_79, zr_565, rfl, rfl, by decide⟩, trivial⟩
theorem zcp_1 : zAll (zCP 1 RX1) zCp_1 := ⟨zr_90, ⟨(RX1, TX1, 7), rfl, by decide, zr_91⟩, ⟨(RX1, TX1, 7), rfl, by decide, zr_92⟩, ⟨(RX1, TX1, 7), rfl, by decide, zr_93⟩, ⟨(RX1, TX1, 7), rfl, by decide, zr_94⟩, ⟨(RX1, TX1, 7), rfl, by decide, zr_95⟩, ⟨(RX1, TX1, 7), rfl, by decide, zr_96⟩, ⟨(RX1, TX1, 7), rfl, by decide, zr_97⟩, ⟨zm_14, zmr_14, zr_511, rfl, rfl, by decide⟩, ⟨zm_143, zmr_143, zr_534, rfl, rfl, by decide⟩, ⟨zm_2, zmr_2, zr_515, rfl, rfl, by decide⟩, ⟨zm_3, zmr_3, zr_519, rfl, rfl, by decide⟩, ⟨zm_25, zmr_25, zr_523, rfl, rfl, by decide⟩, ⟨zm_15, zmr_15, zr_524, rfl, rfl, by decide⟩, ⟨zm_16, zmr_16, zr_530, rfl, rfl, by decide⟩, ⟨zm_17, zmr_17, zr_535, rfl, rfl, by decide⟩, ⟨zm_221, zmr_221, zr_528, rfl, rfl, by decide⟩, ⟨zm_222, zmr_222, zr_529, rfl, rfl, by decide⟩, ⟨zm_18, zmr_18, zr_543, rfl, rfl, by decide⟩, ⟨zm_142, zmr_142, zr_547, rfl, rfl, by decide⟩, trivial⟩
theorem zcp_2 : zAll (zCP 2 RX2) zCp_2 := ⟨zr_69, ⟨(RX2, TX2, 4), rfl, by decide, zr_70⟩, ⟨(RX2, TX2, 4), rfl, by decide, zr_73⟩, ⟨(RX2, TX2, 4), rfl, by decide, zr_74⟩, ⟨(RX2, TX2, 4), rfl, by decide, zr_75⟩, ⟨zm_22, zmr_22, zr_645, rfl, rfl, by decide⟩, ⟨zm_26, zmr_26, zr_472, rfl, rfl, by decide⟩, ⟨zm_218, zmr_218, zr_482, rfl, rfl, by decide⟩, ⟨zm_221, zmr_221, zr_483, rfl, rfl, by decide⟩, ⟨zm_143, zmr_143, zr_475, rfl, rfl, by decide⟩, zr_476, ⟨zm_222, zmr_222, zr_478, rfl, rfl, by decide⟩, ⟨zm_145, zmr_145, zr_479, rfl, rfl, by decide⟩, ⟨zm_25, zmr_25, zr_494, rfl, rfl, by decide⟩, ⟨zm_144, zmr_144, zr_866, rfl, rfl, by decide⟩, trivial⟩
theorem zcp_3 : zAll (zCP 3 RX3) zCp_3 := ⟨zr_144, ⟨(RX3, TX3, 3), rfl, by decide, zr_145⟩, ⟨(RX3, TX3, 3), rfl, by decide, zr_146⟩, ⟨(RX3, TX3, 3), rfl, by decide, zr_147⟩, ⟨zm_146, zmr_146, zr_676, rfl, rfl, by decide⟩, ⟨zm_145, zmr_145, zr_693, rfl, rfl, by decide⟩, ⟨zm_32, zmr_32, zr_694, rfl, rfl, by decide⟩, ⟨zm_33, zmr_33, zr_689, rfl, rfl, by decide⟩, ⟨zm_142, zmr_142, zr_698, rfl, rfl, by decide⟩, ⟨zm_221, zmr_221, zr_707, rfl, rfl, by decide⟩, ⟨zm_144, zmr_144, zr_876, rfl, rfl, by decide⟩, trivial⟩
theorem zcp_4 : zAll (zCP 4 RX4) zCp_4 := ⟨zr_161, ⟨(RX4, TX4, 5), rfl, by decide, zr_162⟩, ⟨(RX4, TX4, 5), rfl, by decide, zr_163⟩, ⟨(RX4, TX4, 5), rfl, by decide, zr_164⟩, ⟨(RX4, TX4, 5), rfl, by decide, zr_165⟩, ⟨(RX4, TX4, 5), rfl, by decide, zr_166⟩, ⟨zm_146, zmr_146, zr_723, rfl, rfl, by decide⟩, ⟨zm_145, zmr_145, zr_732, rfl, rfl, by decide⟩, ⟨zm_40, zmr_40, zr_846, rfl, rfl, by decide⟩, ⟨zm_142, zmr_142, zr_847, rfl, rfl, by decide⟩, ⟨zm_42, zmr_42, zr_784, rfl, rfl, by decide⟩, ⟨zm_221, zmr_221, zr_785, rfl, rfl, by decide⟩, ⟨zm_46, zmr_46, zr_791, rfl, rfl, by decide⟩, ⟨zm_144, zmr_144, zr_881, rfl, rfl, by decide⟩, trivial⟩
theorem zcp_5 : zAll (zCP 5 RX5) zCp_5 := ⟨zr_185, ⟨(RX5, TX5, 5), rfl, by decide, zr_186⟩, ⟨(RX5, TX5, 5), rfl, by decide, zr_187⟩, ⟨(RX5, TX5, 5), rfl, by decide, zr_188⟩, ⟨(RX5, TX5, 5), rfl, by decide, zr_189⟩, ⟨(RX5, TX5, 5), rfl, by decide, zr_190⟩, ⟨zm_40, zmr_40, zr_761, rfl, rfl, by decide⟩, ⟨zm_142, zmr_142, zr_762, rfl, rfl, by decide⟩, ⟨zm_54, zmr_54, zr_763, rfl, rfl, by decide⟩, ⟨(RX4, TX4, 5), rfl, by decide, zr_167⟩, ⟨zm_56, zmr_56, zr_796, rfl, rfl, by decide⟩, ⟨zm_58, zmr_58, zr_800, rfl, rfl, by decide⟩, ⟨zm_57, zmr_57, zr_811, rfl, rfl, by decide⟩, ⟨zm_61, zmr_61, zr_815, rfl, rfl, by decide⟩, ⟨zm_145, zmr_145, zr_779, rfl, rfl, by decide⟩, ⟨zm_146, zmr_146, zr_767, rfl, rfl, by decide⟩, ⟨zm_53, zmr_53, zr_768, rfl, rfl, by decide⟩, ⟨zm_55, zmr_55, zr_771, rfl, rfl, by decide⟩, ⟨zm_222, zmr_222, zr_786, rfl, rfl, by decide⟩, ⟨zm_44, zmr_44, zr_775, rfl, rfl, by decide⟩, ⟨zm_45, zmr_45, zr_780, rfl, rfl, by decide⟩, ⟨zm_47, zmr_47, zr_787, rfl, rfl, by decide⟩, ⟨zm_46, zmr_46, zr_795, rfl, rfl, by decide⟩, ⟨zm_59, zmr_59, zr_804, rfl, rfl, by decide⟩, ⟨zm_60, zmr_60, zr_807, rfl, rfl, by decide⟩, ⟨zm_221, zmr_221, zr_810, rfl, rfl, by decide⟩, ⟨zm_62, zmr_62, zr_819, rfl, rfl, by decide⟩, trivial⟩
theorem zcp_6 : zAll (zCP 6 RX6) zCp_6 := ⟨zr_207, ⟨(RX6, TX6, 5), rfl, by decide, zr_238⟩, ⟨(RX6, TX6, 5), rfl, by decide, zr_239⟩, ⟨(RX6, TX6, 5), rfl, by decide, zr_240⟩, ⟨(RX6, TX6, 5), rfl, by decide, zr_241⟩, ⟨(RX6, TX6, 5), rfl, by decide, zr_242⟩, ⟨zm_64, zmr_64, zr_208, rfl, rfl, by decide⟩, ⟨zm_218, zmr_218, zr_212, rfl, rfl, by decide⟩, ⟨zm_66, zmr_66, zr_215, rfl, rfl, by decide⟩, ⟨zm_65, zmr_65, zr_231, rfl, rfl, by decide⟩, ⟨zm_142, zmr_142, zr_235, rfl, rfl, by decide⟩, ⟨zm_137, zmr_137, zr_219, rfl, rfl, by decide⟩, ⟨zm_143, zmr_143, zr_225, rfl, rfl, by decide⟩, ⟨zm_222, zmr_222, zr_351, rfl, rfl, by decide⟩, ⟨zm_67, zmr_67, zr_370, rfl, rfl, by decide⟩, ⟨zm_74, zmr_74, zr_371, rfl, rfl, by decide⟩, ⟨zm_75, zmr_75, zr_375, rfl, rfl, by decide⟩, ⟨zm_68, zmr_68, zr_577, rfl, rfl, by decide⟩, ⟨zm_80, zmr_80, zr_569, rfl, rfl, by decide⟩, ⟨zm_78, zmr_78, zr_573, rfl, rfl, by decide⟩, ⟨zm_81, zmr_81, zr_580, rfl, rfl, by decide⟩, ⟨zm_69, zmr_69, zr_578, rfl, rfl, by decide⟩, ⟨zm_221, zmr_221, zr_579, rfl, rfl, by decide⟩, ⟨zm_70, zmr_70, zr_584, rfl, rfl, by decide⟩, ⟨zm_72, zmr_72, zr_585, rfl, rfl, by decide⟩, ⟨zm_144, zmr_144, zr_857, rfl, rfl, by decide⟩, trivial⟩
theorem zcp_7 : zAll (zCP 7 RX7) zCp_7 := ⟨zr_118, ⟨(RX7, TX7, 5), rfl, by decide, zr_121⟩, ⟨(RX7, TX7, 5), rfl, by decide, zr_122⟩, ⟨(RX7, TX7, 5), rfl, by decide, zr_123⟩, ⟨(RX2, TX2, 4), rfl, rfl, zr_119, zr_65, zr_44⟩, ⟨zm_21, zmr_21, zr_120, rfl, rfl, by decide⟩, ⟨(RX7, TX7, 5), rfl, by decide, zr_124⟩, ⟨(RX7, TX7, 5), rfl, by decide, zr_125⟩, ⟨zm_146, zmr_146, zr_626, rfl, rfl, by decide⟩, ⟨zm_145, zmr_145, zr_650, rfl, rfl, by decide⟩, ⟨zm_25, zmr_25, zr_651, rfl, rfl, by decide⟩, ⟨zm_220, zmr_220, zr_652, rfl, rfl, by decide⟩, ⟨(RX2, TX2, 4), rfl, by decide, zr_71⟩, ⟨zm_23, zmr_23, zr_641, rfl, rfl, by decide⟩, ⟨zm_90, zmr_90, zr_646, rfl, rfl, by decide⟩, ⟨zm_142, zmr_142, zr_655, rfl, rfl, by decide⟩, ⟨zm_24, zmr_24, zr_664, rfl, rfl, by decide⟩, ⟨zm_144, zmr_144, zr_871, rfl, rfl, by decide⟩, trivial⟩
theorem zcp_8 : zAll (zCP 8 RX8) zCp_8 := ⟨zr_59, ⟨(RX6, TX6, 5), rfl, rfl, zr_62, zr_203, zr_50⟩, ⟨(RX8, TX8, 13), rfl, by decide, zr_268⟩, ⟨(RX2, TX2, 4), rfl, rfl, zr_64, zr_65, zr_44⟩, ⟨zm_21, zmr_21, zr_66, rfl, rfl, by decide⟩, ⟨(RX8, TX8, 13), rfl, by decide, zr_270⟩, ⟨(RX1, TX1, 7), rfl, rfl, zr_85, zr_86, zr_45⟩, ⟨zm_11, zmr_11, zr_87, rfl, rfl, by decide⟩, ⟨(RX8, TX8, 13), rfl, by decide, zr_271⟩, ⟨(RX7, TX7, 5), rfl, rfl, zr_113, zr_114, zr_46⟩, ⟨zm_88, zmr_88, zr_115, rfl, rfl, by decide⟩, ⟨(RX8, TX8, 13), rfl, by decide, zr_272⟩, ⟨(RX3, TX3, 3), rfl, rfl, zr_139, zr_140, zr_47⟩, ⟨zm_30, zmr_30, zr_141, rfl, rfl, by decide⟩, ⟨(RX8, TX8, 13), rfl, by decide, zr_273⟩, ⟨(RX4, TX4, 5), rfl, rfl, zr_156, zr_157, zr_48⟩, ⟨zm_38, zmr_38, zr_158, rfl, rfl, by decide⟩, ⟨(RX8, TX8, 13), rfl, by decide, zr_274⟩, ⟨(RX5, TX5, 5), rfl, rfl, zr_180, zr_181, zr_49⟩, ⟨zm_49, zmr_49, zr_182, rfl, rfl, by decide⟩, ⟨(RX8, TX8, 13), rfl, by decide, zr_275⟩, ⟨(RX8, TX8, 13), rfl, by decide, zr_276⟩, ⟨(RX8, TX8, 13), rfl, by decide, zr_277⟩, ⟨(RX8, TX8, 13), rfl, by decide, zr_278⟩, ⟨(RX8, TX8, 13), rfl, by decide, zr_279⟩, ⟨(RX8, TX8, 13), rfl, by decide, zr_280⟩, ⟨zm_63, zmr_63, zr_204, rfl, rfl, by decide⟩, ⟨(RX0, TX0, 2), rfl, rfl, zr_255, zr_256, zr_52⟩, ⟨zm_0, zmr_0, zr_257, rfl, rfl, by decide⟩, ⟨(RX8, TX8, 13), rfl, by decide, zr_269⟩, ⟨zm_136, zmr_136, zr_312, rfl, rfl, by decide⟩, ⟨zm_141, zmr_141, zr_315, rfl, rfl, by decide⟩, ⟨zm_135, zmr_135, zr_222, rfl, rfl, by decide⟩, ⟨zm_64, zmr_64, zr_318, rfl, rfl, by decide⟩, ⟨zm_139, zmr_139, zr_323, rfl, rfl, by decide⟩, ⟨zm_67, zmr_67, zr_330, rfl, rfl, by decide⟩, ⟨zm_142, zmr_142, zr_334, rfl, rfl, by decide⟩, ⟨zm_69, zmr_69, zr_335, rfl, rfl, by decide⟩, ⟨zm_70, zmr_70, zr_339, rfl, rfl, by decide⟩, ⟨zm_72, zmr_72, zr_347, rfl, rfl, by decide⟩, ⟨zm_71, zmr_71, zr_358, rfl, rfl, by decide⟩, ⟨zm_73, zmr_73, zr_366, rfl, rfl, by decide⟩, ⟨zm_76, zmr_76, zr_383, rfl, rfl, by decide⟩, ⟨zm_77, zmr_77, zr_391, rfl, rfl, by decide⟩, ⟨zm_1, zmr_1, zr_399, rfl, rfl, by decide⟩, ⟨zm_138, zmr_138, zr_327, rfl, rfl, by decide⟩, ⟨zm_6, zmr_6, zr_407, rfl, rfl, by decide⟩, ⟨zm_7, zmr_7, zr_421, rfl, rfl, by decide⟩, ⟨zm_8, zmr_8, zr_429, rfl, rfl, by decide⟩, ⟨zm_9, zmr_9, zr_439, rfl, rfl, by decide⟩, ⟨(RX2, TX2, 4), rfl, by decide, zr_72⟩, ⟨zm_22, zmr_22, zr_460, rfl, rfl, by decide⟩, ⟨zm_25, zmr_25, zr_468, rfl, rfl, by decide⟩, ⟨zm_27, zmr_27, zr_490, rfl, rfl, by decide⟩, ⟨zm_28, zmr_28, zr_495, rfl, rfl, by decide⟩, ⟨zm_12, zmr_12, zr_503, rfl, rfl, by decide⟩, ⟨zm_13, zmr_13, zr_507, rfl, rfl, by decide⟩, ⟨zm_19, zmr_19, zr_539, rfl, rfl, by decide⟩, ⟨zm_20, zmr_20, zr_552, rfl, rfl, by decide⟩, ⟨zm_221, zmr_221, zr_556, rfl, rfl, by decide⟩, ⟨zm_10, zmr_10, zr_561, rfl, rfl, by decide⟩, ⟨zm_82, zmr_82, zr_590, rfl, rfl, by decide⟩, ⟨zm_83, zmr_83, zr_598, rfl, rfl, by decide⟩, ⟨zm_84, zmr_84, zr_602, rfl, rfl, by decide⟩, ⟨zm_85, zmr_85, zr_606, rfl, rfl, by decide⟩, ⟨zm_86, zmr_86, zr_614, rfl, rfl, by decide⟩, ⟨zm_89, zmr_89, zr_622, rfl, rfl, by decide⟩, ⟨(RX7, TX7, 5), rfl, by decide, zr_126⟩, ⟨zm_91, zmr_91, zr_637, rfl, rfl, by decide⟩, ⟨zm_92, zmr_92, zr_660, rfl, rfl, by decide⟩, ⟨zm_31, zmr_31, zr_672, rfl, rfl, by decide⟩, ⟨(RX3, TX3, 3), rfl, by decide, zr_148⟩, ⟨zm_34, zmr_34, zr_685, rfl, rfl, by decide⟩, ⟨zm_35, zmr_35, zr_699, rfl, rfl, by decide⟩, ⟨zm_36, zmr_36, zr_703, rfl, rfl, by decide⟩, ⟨zm_140, zmr_140, zr_716, rfl, rfl, by decide⟩, ⟨zm_39, zmr_39, zr_719, rfl, rfl, by decide⟩, ⟨zm_40, zmr_40, zr_728, rfl, rfl, by decide⟩, ⟨zm_42, zmr_42, zr_737, rfl, rfl, by decide⟩, ⟨zm_43, zmr_43, zr_741, rfl, rfl, by decide⟩, ⟨(RX4, TX4, 5), rfl, by decide, zr_168⟩, ⟨zm_134, zmr_134, zr_753, rfl, rfl, by decide⟩, ⟨(RX5, TX5, 5), rfl, by decide, zr_191⟩, ⟨zm_51, zmr_51, zr_826, rfl, rfl, by decide⟩, ⟨zm_52, zmr_52, zr_834, rfl, rfl, by decide⟩, ⟨zm_41, zmr_41, zr_842, rfl, rfl, by decide⟩, ⟨zm_87, zmr_87, zr_853, rfl, rfl, by decide⟩, ⟨zm_144, zmr_144, zr_861, rfl, rfl, by decide⟩, ⟨zm_29, zmr_29, zr_862, rfl, rfl, by decide⟩, ⟨zm_93, zmr_93, zr_867, rfl, rfl, by decide⟩, ⟨zm_37, zmr_37, zr_872, rfl, rfl, by decide⟩, ⟨zm_48, zmr_48, zr_877, rfl, rfl, by decide⟩, ⟨zm_50, zmr_50, zr_757, rfl, rfl, by decide⟩, ⟨zm_137, zmr_137, zr_326, rfl, rfl, by decide⟩, ⟨zm_219, zmr_219, zr_228, rfl, rfl, by decide⟩, trivial⟩
theorem zcp_9 : zAll (zCP 9 RX9) zCp_9 := ⟨zr_887, ⟨(RX9, TX9, 38), rfl, by decide, zr_901⟩, ⟨(RX9, TX9, 38), rfl, by decide, zr_902⟩, ⟨(RX9, TX9, 38), rfl, by decide, zr_903⟩, ⟨(RX9, TX9, 38), rfl, by decide, zr_904⟩, ⟨(RX9, TX9, 38), rfl, by decide, zr_920⟩, ⟨(RX9, TX9, 38), rfl, by decide, zr_921⟩, ⟨(RX9, TX9, 38), rfl, by decide, zr_922⟩, ⟨(RX9, TX9, 38), rfl, by decide, zr_925⟩, ⟨(RX9, TX9, 38), rfl, by decide, zr_926⟩, ⟨(RX9, TX9, 38), rfl, by decide, zr_927⟩, ⟨(RX9, TX9, 38), rfl, by decide, zr_928⟩, ⟨(RX9, TX9, 38), rfl, by decide, zr_929⟩, ⟨(RX9, TX9, 38), rfl, by decide, zr_930⟩, ⟨(RX9, TX9, 38), rfl, by decide, zr_931⟩, ⟨(RX9, TX9, 38), rfl, by decide, zr_934⟩, ⟨(RX9, TX9, 38), rfl, by decide, zr_935⟩, ⟨(RX9, TX9, 38), rfl, by decide, zr_936⟩, ⟨(RX9, TX9, 38), rfl, by decide, zr_938⟩, ⟨zm_155, zmr_155, zr_888, rfl, rfl, by decide⟩, ⟨(RX9, TX9, 38), rfl, by decide, zr_906⟩, ⟨(RX9, TX9, 38), rfl, by decide, zr_907⟩, ⟨(RX9, TX9, 38), rfl, by decide, zr_932⟩, ⟨zm_150, zmr_150, zr_895, rfl, rfl, by decide⟩, ⟨zm_148, zmr_148, zr_1024, rfl, rfl, by decide⟩, ⟨zm_152, zmr_152, zr_1020, rfl, rfl, by decide⟩, ⟨zm_153, zmr_153, zr_1038, rfl, rfl, by decide⟩, ⟨zm_149, zmr_149, zr_892, rfl, rfl, by decide⟩, ⟨zm_151, zmr_151, zr_898, rfl, rfl, by decide⟩, ⟨zm_154, zmr_154, zr_1034, rfl, rfl, by decide⟩, ⟨(RX9, TX9, 38), rfl, by decide, zr_905⟩, ⟨zm_164, zmr_164, zr_1079, rfl, rfl, by decide⟩, ⟨zm_165, zmr_165, zr_1083, rfl, rfl, by decide⟩, ⟨zm_166, zmr_166, zr_1075, rfl, rfl, by decide⟩, ⟨zm_167, zmr_167, zr_1071, rfl, rfl, by decide⟩, ⟨zm_170, zmr_170, zr_1095, rfl, rfl, by decide⟩, ⟨(RX9, TX9, 38), rfl, by decide, zr_908⟩, ⟨(RX9, TX9, 38), rfl, by decide, zr_909⟩, ⟨(RX9, TX9, 38), rfl, by decide, zr_910⟩, ⟨zm_175, zmr_175, zr_1125, rfl, rfl, by decide⟩, ⟨zm_176, zmr_176, zr_1121, rfl, rfl, by decide⟩, ⟨zm_177, zmr_177, zr_1117, rfl, rfl, by decide⟩, ⟨(RX9, TX9, 38), rfl, by decide, zr_911⟩, ⟨(RX9, TX9, 38), rfl, by decide, zr_912⟩, ⟨(RX9, TX9, 38), rfl, by decide, zr_913⟩, ⟨(RX9, TX9, 38), rfl, by decide, zr_914⟩, ⟨(RX9, TX9, 38), rfl, by decide, zr_915⟩, ⟨(RX9, TX9, 38), rfl, by decide, zr_916⟩, ⟨zm_180, zmr_180, zr_1138, rfl, rfl, by decide⟩, ⟨(RX9, TX9, 38), rfl, by decide, zr_917⟩, ⟨zm_183, zmr_183, zr_1154, rfl, rfl, by decide⟩, ⟨zm_184, zmr_184, zr_1150, rfl, rfl, by decide⟩, ⟨(RX9, TX9, 38), rfl, by decide, zr_918⟩, ⟨zm_187, zmr_187, zr_1166, rfl, rfl, by decide⟩, ⟨(RX9, TX9, 38), rfl, by decide, zr_919⟩, ⟨(RX9, TX9, 38), rfl, by decide, zr_923⟩, ⟨zm_192, zmr_192, zr_1186, rfl, rfl, by decide⟩, ⟨(RX9, TX9, 38), rfl, by decide, zr_924⟩, ⟨zm_195, zmr_195, zr_1200, rfl, rfl, by decide⟩, ⟨zm_200, zmr_200, zr_1220, rfl, rfl, by decide⟩, ⟨(RX9, TX9, 38), rfl, by decide, zr_937⟩, ⟨zm_209, zmr_209, zr_1269, rfl, rfl, by decide⟩, ⟨zm_206, zmr_206, zr_1257, rfl, rfl, by decide⟩, ⟨zm_207, zmr_207, zr_1261, rfl, rfl, by decide⟩, ⟨zm_208, zmr_208, zr_1265, rfl, rfl, by decide⟩, ⟨zm_205, zmr_205, zr_1245, rfl, rfl, by decide⟩, ⟨zm_211, zmr_211, zr_1249, rfl, rfl, by decide⟩, ⟨zm_210, zmr_210, zr_1253, rfl, rfl, by decide⟩, ⟨(RX9, TX9, 38), rfl, by decide, zr_933⟩, ⟨zm_212, zmr_212, zr_1241, rfl, rfl, by decide⟩, trivial⟩
theorem zcp_10 : zAll (zCP 10 RL) zCp_10 := ⟨⟨(RX8, TX8, 13), rfl, rfl, zr_54, zr_55, zr_43⟩, ⟨zm_94, zmr_94, zr_56, rfl, rfl, by decide⟩, ⟨(RX9, TX9, 38), rfl, rfl, zr_882, zr_883, zr_53⟩, ⟨zm_147, zmr_147, zr_884, rfl, rfl, by decide⟩, ⟨zm_95, zmr_95, zr_308, rfl, rfl, by decide⟩, ⟨zm_156, zmr_156, zr_1016, rfl, rfl, by decide⟩, ⟨zm_96, zmr_96, zr_319, rfl, rfl, by decide⟩, ⟨zm_157, zmr_157, zr_1030, rfl, rfl, by decide⟩, ⟨zm_97, zmr_97, zr_343, rfl, rfl, by decide⟩, ⟨zm_158, zmr_158, zr_1042, rfl, rfl, by decide⟩, ⟨zm_98, zmr_98, zr_354, rfl, rfl, by decide⟩, ⟨zm_159, zmr_159, zr_1047, rfl, rfl, by decide⟩, ⟨zm_99, zmr_99, zr_362, rfl, rfl, by decide⟩, ⟨zm_160, zmr_160, zr_1051, rfl, rfl, by decide⟩, ⟨zm_100, zmr_100, zr_379, rfl, rfl, by decide⟩, ⟨zm_161, zmr_161, zr_1055, rfl, rfl, by decide⟩, ⟨zm_101, zmr_101, zr_387, rfl, rfl, by decide⟩, ⟨zm_162, zmr_162, zr_1059, rfl, rfl, by decide⟩, ⟨zm_102, zmr_102, zr_395, rfl, rfl, by decide⟩, ⟨zm_163, zmr_163, zr_1063, rfl, rfl, by decide⟩, ⟨zm_103, zmr_103, zr_403, rfl, rfl, by decide⟩, ⟨zm_168, zmr_168, zr_1067, rfl, rfl, by decide⟩, ⟨zm_104, zmr_104, zr_417, rfl, rfl, by decide⟩, ⟨zm_169, zmr_169, zr_1087, rfl, rfl, by decide⟩, ⟨zm_105, zmr_105, zr_435, rfl, rfl, by decide⟩, ⟨zm_171, zmr_171, zr_1091, rfl, rfl, by decide⟩, ⟨zm_106, zmr_106, zr_448, rfl, rfl, by decide⟩, ⟨zm_172, zmr_172, zr_1099, rfl, rfl, by decide⟩, ⟨zm_107, zmr_107, zr_452, rfl, rfl, by decide⟩, ⟨zm_173, zmr_173, zr_1103, rfl, rfl, by decide⟩, ⟨zm_108, zmr_108, zr_456, rfl, rfl, by decide⟩, ⟨zm_174, zmr_174, zr_1107, rfl, rfl, by decide⟩, ⟨zm_109, zmr_109, zr_464, rfl, rfl, by decide⟩, ⟨zm_178, zmr_178, zr_1113, rfl, rfl, by decide⟩, ⟨zm_110, zmr_110, zr_486, rfl, rfl, by decide⟩, ⟨zm_179, zmr_179, zr_1128, rfl, rfl, by decide⟩, ⟨zm_111, zmr_111, zr_499, rfl, rfl, by decide⟩, ⟨zm_181, zmr_181, zr_1132, rfl, rfl, by decide⟩, ⟨zm_112, zmr_112, zr_548, rfl, rfl, by decide⟩, ⟨zm_182, zmr_182, zr_1142, rfl, rfl, by decide⟩, ⟨zm_113, zmr_113, zr_557, rfl, rfl, by decide⟩, ⟨zm_185, zmr_185, zr_1146, rfl, rfl, by decide⟩, ⟨zm_114, zmr_114, zr_586, rfl, rfl, by decide⟩, ⟨zm_186, zmr_186, zr_1158, rfl, rfl, by decide⟩, ⟨zm_115, zmr_115, zr_594, rfl, rfl, by decide⟩, ⟨zm_188, zmr_188, zr_1162, rfl, rfl, by decide⟩, ⟨zm_116, zmr_116, zr_610, rfl, rfl, by decide⟩, ⟨zm_189, zmr_189, zr_1170, rfl, rfl, by decide⟩, ⟨zm_117, zmr_117, zr_618, rfl, rfl, by decide⟩, ⟨zm_190, zmr_190, zr_1174, rfl, rfl, by decide⟩, ⟨zm_118, zmr_118, zr_629, rfl, rfl, by decide⟩, ⟨zm_191, zmr_191, zr_1178, rfl, rfl, by decide⟩, ⟨zm_119, zmr_119, zr_633, rfl, rfl, by decide⟩, ⟨zm_193, zmr_193, zr_1182, rfl, rfl, by decide⟩, ⟨zm_120, zmr_120, zr_656, rfl, rfl, by decide⟩, ⟨zm_194, zmr_194, zr_1191, rfl, rfl, by decide⟩, ⟨zm_121, zmr_121, zr_668, rfl, rfl, by decide⟩, ⟨zm_196, zmr_196, zr_1195, rfl, rfl, by decide⟩, ⟨zm_122, zmr_122, zr_677, rfl, rfl, by decide⟩, ⟨zm_197, zmr_197, zr_1204, rfl, rfl, by decide⟩, ⟨zm_123, zmr_123, zr_681, rfl, rfl, by decide⟩, ⟨zm_198, zmr_198, zr_1208, rfl, rfl, by decide⟩, ⟨zm_124, zmr_124, zr_708, rfl, rfl, by decide⟩, ⟨zm_199, zmr_199, zr_1212, rfl, rfl, by decide⟩, ⟨zm_125, zmr_125, zr_712, rfl, rfl, by decide⟩, ⟨zm_201, zmr_201, zr_1216, rfl, rfl, by decide⟩, ⟨zm_126, zmr_126, zr_724, rfl, rfl, by decide⟩, ⟨zm_202, zmr_202, zr_1225, rfl, rfl, by decide⟩, ⟨zm_127, zmr_127, zr_733, rfl, rfl, by decide⟩, ⟨zm_203, zmr_203, zr_1229, rfl, rfl, by decide⟩, ⟨zm_128, zmr_128, zr_745, rfl, rfl, by decide⟩, ⟨zm_204, zmr_204, zr_1233, rfl, rfl, by decide⟩, ⟨zm_129, zmr_129, zr_749, rfl, rfl, by decide⟩, ⟨zm_213, zmr_213, zr_1237, rfl, rfl, by decide⟩, ⟨zm_130, zmr_130, zr_822, rfl, rfl, by decide⟩, ⟨zm_214, zmr_214, zr_1273, rfl, rfl, by decide⟩, ⟨zm_131, zmr_131, zr_830, rfl, rfl, by decide⟩, ⟨zm_215, zmr_215, zr_1277, rfl, rfl, by decide⟩, ⟨zm_132, zmr_132, zr_838, rfl, rfl, by decide⟩, ⟨zm_216, zmr_216, zr_1281, rfl, rfl, by decide⟩, ⟨zm_133, zmr_133, zr_848, rfl, rfl, by decide⟩, ⟨zm_217, zmr_217, zr_1285, rfl, rfl, by decide⟩, trivial⟩
theorem zcp_11 : zAll (zCP 11 RJ9) zCp_11 := trivial
def zLP (e : Nat × Nat × Int64 × Nat) : Prop := ∃ own, zOwn[e.1]? = some own ∧ Cond.constantLong own e.2.1 e.2.2.1 ∈ zTB
theorem zlp : zAll zLP zLcT := ⟨⟨RX8, rfl, zr_852⟩, ⟨RX8, rfl, zr_860⟩, ⟨RX9, rfl, zr_1023⟩, ⟨RX9, rfl, zr_1041⟩, ⟨RX9, rfl, zr_1037⟩, ⟨RX9, rfl, zr_1027⟩, ⟨RX9, rfl, zr_1028⟩, ⟨RX9, rfl, zr_1029⟩, ⟨RX9, rfl, zr_1046⟩, ⟨RX9, rfl, zr_1111⟩, ⟨RX9, rfl, zr_1112⟩, ⟨RX9, rfl, zr_1136⟩, ⟨RX9, rfl, zr_1137⟩, ⟨RX9, rfl, zr_1190⟩, ⟨RX9, rfl, zr_1199⟩, ⟨RX9, rfl, zr_1223⟩, ⟨RX9, rfl, zr_1224⟩, ⟨RX9, rfl, zr_1289⟩, ⟨RX9, rfl, zr_1290⟩, trivial⟩
theorem zf_0 : zAll (fun w => w ∈ zTB ∧ goodWord w = true) wsX00 := ⟨⟨zM1 (List.mem_of_getElem? (i := 221) rfl), rfl⟩, ⟨zM1 (List.mem_of_getElem? (i := 223) rfl), rfl⟩, trivial⟩
theorem zg_0 : ∀ k, k < 2 → (TX0 k).1 = RX0 := by decide +kernel
theorem zf_1 : zAll (fun w => w ∈ zTB ∧ goodWord w = true) wsX10 := ⟨⟨zM1 (List.mem_of_getElem? (i := 56) rfl), rfl⟩, ⟨zM1 (List.mem_of_getElem? (i := 58) rfl), rfl⟩, ⟨zM1 (List.mem_of_getElem? (i := 60) rfl), rfl⟩, ⟨zM1 (List.mem_of_getElem? (i := 62) rfl), rfl⟩, ⟨zM1 (List.mem_of_getElem? (i := 64) rfl), rfl⟩, ⟨zM1 (List.mem_of_getElem? (i := 66) rfl), rfl⟩, ⟨zM1 (List.mem_of_getElem? (i := 68) rfl), rfl⟩, trivial⟩
theorem zg_1 : ∀ k, k < 7 → (TX1 k).1 = RX1 := by decide +kernel
theorem zf_2 : zAll (fun w => w ∈ zTB ∧ goodWord w = true) wsX20 := ⟨⟨zM1 (List.mem_of_getElem? (i := 34) rfl), rfl⟩, ⟨zM1 (List.mem_of_getElem? (i := 36) rfl), rfl⟩, ⟨zM1 (List.mem_of_getElem? (i := 38) rfl), rfl⟩, ⟨zM1 (List.mem_of_getElem? (i := 40) rfl), rfl⟩, trivial⟩
theorem zg_2 : ∀ k, k < 4 → (TX2 k).1 = RX2 := by decide +kernel
theorem zf_3 : zAll (fun w => w ∈ zTB ∧ goodWord w = true) wsX30 := ⟨⟨zM1 (List.mem_of_getElem? (i := 107) rfl), rfl⟩, ⟨zM1 (List.mem_of_getElem? (i := 109) rfl), rfl⟩, ⟨zM1 (List.mem_of_getElem? (i := 111) rfl), rfl⟩, trivial⟩
theorem zg_3 : ∀ k, k < 3 → (TX3 k).1 = RX3 := by decide +kernel
theorem zf_4 : zAll (fun w => w ∈ zTB ∧ goodWord w = true) wsX40 := ⟨⟨zM1 (List.mem_of_getElem? (i := 127) rfl), rfl⟩, ⟨zM1 (List.mem_of_getElem? (i := 129) rfl), rfl⟩, ⟨zM1 (List.mem_of_getElem? (i := 131) rfl), rfl⟩, ⟨zM1 (List.mem_of_getElem? (i := 133) rfl), rfl⟩, ⟨zM1 (List.mem_of_getElem? (i := 135) rfl), rfl⟩, trivial⟩
theorem zg_4 : ∀ k, k < 5 → (TX4 k).1 = RX4 := by decide +kernel
theorem zf_5 : zAll (fun w => w ∈ zTB ∧ goodWord w = true) wsX50 := ⟨⟨zM1 (List.mem_of_getElem? (i := 150) rfl), rfl⟩, ⟨zM1 (List.mem_of_getElem? (i := 152) rfl), rfl⟩, ⟨zM1 (List.mem_of_getElem? (i := 154) rfl), rfl⟩, ⟨zM1 (List.mem_of_getElem? (i := 156) rfl), rfl⟩, ⟨zM1 (List.mem_of_getElem? (i := 158) rfl), rfl⟩, trivial⟩
theorem zg_5 : ∀ k, k < 5 → (TX5 k).1 = RX5 := by decide +kernel
theorem zf_6 : zAll (fun w => w ∈ zTB ∧ goodWord w = true) wsX60 := ⟨⟨zM1 (List.mem_of_getElem? (i := 201) rfl), rfl⟩, ⟨zM1 (List.mem_of_getElem? (i := 203) rfl), rfl⟩, ⟨zM1 (List.mem_of_getElem? (i := 205) rfl), rfl⟩, ⟨zM1 (List.mem_of_getElem? (i := 207) rfl), rfl⟩, ⟨zM1 (List.mem_of_getElem? (i := 209) rfl), rfl⟩, trivial⟩
theorem zg_6 : ∀ k, k < 5 → (TX6 k).1 = RX6 := by decide +kernel
theorem zf_7 : zAll (fun w => w ∈ zTB ∧ goodWord w = true) wsX70 := ⟨⟨zM1 (List.mem_of_getElem? (i := 85) rfl), rfl⟩, ⟨zM1 (List.mem_of_getElem? (i := 87) rfl), rfl⟩, ⟨zM1 (List.mem_of_getElem? (i := 89) rfl), rfl⟩, ⟨zM1 (List.mem_of_getElem? (i := 91) rfl), rfl⟩, ⟨zM1 (List.mem_of_getElem? (i := 93) rfl), rfl⟩, trivial⟩
theorem zg_7 : ∀ k, k < 5 → (TX7 k).1 = RX7 := by decide +kernel
theorem zf_8 : zAll (fun w => w ∈ zTB ∧ goodWord w = true) wsX80 := ⟨⟨zM1 (List.mem_of_getElem? (i := 239) rfl), rfl⟩, ⟨zM2 (List.mem_of_getElem? (i := 1) rfl), rfl⟩, ⟨zM2 (List.mem_of_getElem? (i := 3) rfl), rfl⟩, ⟨zM2 (List.mem_of_getElem? (i := 5) rfl), rfl⟩, ⟨zM2 (List.mem_of_getElem? (i := 7) rfl), rfl⟩, ⟨zM2 (List.mem_of_getElem? (i := 9) rfl), rfl⟩, ⟨zM2 (List.mem_of_getElem? (i := 11) rfl), rfl⟩, ⟨zM2 (List.mem_of_getElem? (i := 13) rfl), rfl⟩, ⟨zM2 (List.mem_of_getElem? (i := 15) rfl), rfl⟩, ⟨zM2 (List.mem_of_getElem? (i := 17) rfl), rfl⟩, ⟨zM2 (List.mem_of_getElem? (i := 19) rfl), rfl⟩, ⟨zM2 (List.mem_of_getElem? (i := 21) rfl), rfl⟩, ⟨zM2 (List.mem_of_getElem? (i := 23) rfl), rfl⟩, trivial⟩
theorem zg_8 : ∀ k, k < 13 → (TX8 k).1 = RX8 := by decide +kernel
theorem zf_9 : zAll (fun w => w ∈ zTB ∧ goodWord w = true) wsX90 := ⟨⟨zM4 (List.mem_of_getElem? (i := 177) rfl), rfl⟩, ⟨zM4 (List.mem_of_getElem? (i := 179) rfl), rfl⟩, ⟨zM4 (List.mem_of_getElem? (i := 181) rfl), rfl⟩, ⟨zM4 (List.mem_of_getElem? (i := 183) rfl), rfl⟩, ⟨zM4 (List.mem_of_getElem? (i := 185) rfl), rfl⟩, ⟨zM4 (List.mem_of_getElem? (i := 187) rfl), rfl⟩, ⟨zM4 (List.mem_of_getElem? (i := 189) rfl), rfl⟩, ⟨zM4 (List.mem_of_getElem? (i := 191) rfl), rfl⟩, ⟨zM4 (List.mem_of_getElem? (i := 193) rfl), rfl⟩, ⟨zM4 (List.mem_of_getElem? (i := 195) rfl), rfl⟩, ⟨zM4 (List.mem_of_getElem? (i := 197) rfl), rfl⟩, ⟨zM4 (List.mem_of_getElem? (i := 199) rfl), rfl⟩, ⟨zM4 (List.mem_of_getElem? (i := 201) rfl), rfl⟩, ⟨zM4 (List.mem_of_getElem? (i := 203) rfl), rfl⟩, ⟨zM4 (List.mem_of_getElem? (i := 205) rfl), rfl⟩, ⟨zM4 (List.mem_of_getElem? (i := 207) rfl), rfl⟩, ⟨zM4 (List.mem_of_getElem? (i := 209) rfl), rfl⟩, ⟨zM4 (List.mem_of_getElem? (i := 211) rfl), rfl⟩, ⟨zM4 (List.mem_of_getElem? (i := 213) rfl), rfl⟩, ⟨zM4 (List.mem_of_getElem? (i := 215) rfl), rfl⟩, ⟨zM4 (List.mem_of_getElem? (i := 217) rfl), rfl⟩, ⟨zM4 (List.mem_of_getElem? (i := 219) rfl), rfl⟩, ⟨zM4 (List.mem_of_getElem? (i := 221) rfl), rfl⟩, ⟨zM4 (List.mem_of_getElem? (i := 223) rfl), rfl⟩, ⟨zM4 (List.mem_of_getElem? (i := 225) rfl), rfl⟩, ⟨zM4 (List.mem_of_getElem? (i := 227) rfl), rfl⟩, ⟨zM4 (List.mem_of_getElem? (i := 229) rfl), rfl⟩, ⟨zM4 (List.mem_of_getElem? (i := 231) rfl), rfl⟩, ⟨zM4 (List.mem_of_getElem? (i := 233) rfl), rfl⟩, ⟨zM4 (List.mem_of_getElem? (i := 235) rfl), rfl⟩, ⟨zM4 (List.mem_of_getElem? (i := 237) rfl), rfl⟩, ⟨zM4 (List.mem_of_getElem? (i := 239) rfl), rfl⟩, ⟨zM5 (List.mem_of_getElem? (i := 1) rfl), rfl⟩, ⟨zM5 (List.mem_of_getElem? (i := 3) rfl), rfl⟩, ⟨zM5 (List.mem_of_getElem? (i := 5) rfl), rfl⟩, ⟨zM5 (List.mem_of_getElem? (i := 7) rfl), rfl⟩, ⟨zM5 (List.mem_of_getElem? (i := 9) rfl), rfl⟩, ⟨zM5 (List.mem_of_getElem? (i := 11) rfl), rfl⟩, trivial⟩
theorem zg_9 : ∀ k, k < 38 → (TX9 k).1 = RX9 := by decide +kernel
