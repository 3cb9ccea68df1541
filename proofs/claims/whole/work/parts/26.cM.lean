abbrev RMX8_in : Room := { frames := 0, cells := 0, slots := 0, locals := 0 }
set_option maxRecDepth 100000 in
set_option maxHeartbeats 4000000 in
theorem c_X8_in (l : Launch) (G : GG) (u1 : Int64) (u2 : Int64) (u3 : Int64) (sz : Nat) (rr : Int32) (hF : F_X8_in u1 u2 u3 = some rr) : Met l yX8_in wsX8_in RMX8_in (va_Pc [.long u1, .long u2, .long u3] (zs_pre G (([] : va_W)) sz)) (zs_Qi G (([] : va_W)) rr (va_A (([] : va_W)) sz)) 0 0 (va_A (([] : va_W)) sz) := by
  refine zs_met (cc := cX8_in) (maxL := 6) (ret := (some .boolean)) (own := RX8) (Qc := zs_Qi G (([] : va_W)) rr) (by decide) rfl rfl (Nat.le_of_ble_eq_true rfl) ?_
  intro p e s m args below meth c C A hK hA S _ _ ls hl
  have hl : lv_has ls 6 [(0, .long u1), (2, .long u2), (4, .long u3)] := hl
  have hx := C.1.1
  have hb := C.1.2.1
  unfold F_X8_in at hF
  refine lv_lload_n hx hb dX8_in_0 rfl (lv_at hl 0 rfl) ?_
  refine lv_lload_n hx hb dX8_in_1 rfl (lv_at hl 1 rfl) ?_
  refine W.lcmp hx hb dX8_in_2 ?_
  refine lv_if_lt (tgt := 17) hx hb dX8_in_3 (by decide) (fun c1 => ?_) (fun c1 => ?_)
  · have hF := zs_t hF c1
    refine lv_iconst (v := (0 : Int32)) hx hb dX8_in_17 (by decide) ?_
    have e2 := zs_s1 hF
    exact zs_zretE C S rfl e2 rfl dX8_in_18
  · have hF := zs_f hF c1
    refine lv_lload_n hx hb dX8_in_6 rfl (lv_at hl 0 rfl) ?_
    refine lv_lload hx hb dX8_in_7 (lv_at hl 2 rfl) ?_
    refine W.lcmp hx hb dX8_in_9 ?_
    refine lv_if_gt (tgt := 17) hx hb dX8_in_10 (by decide) (fun c3 => ?_) (fun c3 => ?_)
    · have hF := zs_t hF c3
      refine lv_iconst (v := (0 : Int32)) hx hb dX8_in_17 (by decide) ?_
      have e4 := zs_s1 hF
      exact zs_zretE C S rfl e4 rfl dX8_in_18
    · have hF := zs_f hF c3
      refine lv_iconst (v := (1 : Int32)) hx hb dX8_in_13 (by decide) ?_
      refine lv_goto (tgt := 18) hx hb dX8_in_14 (by decide) ?_
      have e5 := zs_s1 hF
      exact zs_zretE C S rfl e5 rfl dX8_in_18

theorem zd_X8_in : yX8_in.cls ≠ "java/lang/invoke/MethodHandle" ∧ yX8_in.cls ≠ "java/lang/invoke/VarHandle" ∧ (parseMethodDescriptor yX8_in.desc).map (fun d => d.parameters.length) = some 3 := by decide +kernel
abbrev RMX8_isLetter : Room := { frames := 1, cells := 0, slots := 0, locals := 25 }
set_option maxRecDepth 100000 in
set_option maxHeartbeats 4000000 in
theorem c_X8_isLetter (l : Launch) (G : GG) (u1 : Int32) (sz : Nat) (rr : Int32) (hF : F_X8_isLetter u1 = some rr) : Met l yX8_isLetter wsX8_isLetter RMX8_isLetter (va_Pc [.int u1] (zs_pre G (([] : va_W)) sz)) (zs_Qi G (([] : va_W)) rr (va_A (([] : va_W)) sz)) 0 0 (va_A (([] : va_W)) sz) := by
  refine zs_met (cc := cX8_isLetter) (maxL := 1) (ret := (some .boolean)) (own := RX8) (Qc := zs_Qi G (([] : va_W)) rr) (by decide) rfl rfl (Nat.le_of_ble_eq_true rfl) ?_
  intro p e s m args below meth c C A hK hA S _ _ ls hl
  have hl : lv_has ls 1 [(0, .int u1)] := hl
  have hx := C.1.1
  have hb := C.1.2.1
  unfold F_X8_isLetter at hF
  refine lv_iload_n hx hb dX8_isLetter_0 rfl (lv_at hl 0 rfl) ?_
  refine lv_i2l (v := ((u1).toInt64)) hx hb dX8_isLetter_1 rfl ?_
  refine lv_ldc2 (v := (97 : Int64)) hx hb C.1.2.2.2.1 (C.1.2.2.2.2 (.constantLong RX8 76 (97 : Int64)) (List.mem_of_getElem? (i := 1) rfl)) dX8_isLetter_2 ?_
  refine lv_ldc2 (v := (122 : Int64)) hx hb C.1.2.2.2.1 (C.1.2.2.2.2 (.constantLong RX8 78 (122 : Int64)) (List.mem_of_getElem? (i := 2) rfl)) dX8_isLetter_5 ?_
  obtain ⟨r1, f2, hF⟩ := zs_bdS hF
  refine zs_calliP S hA (zs_runS C hK hA S [.long ((u1).toInt64), .long (97 : Int64), .long (122 : Int64)] [] [] 3 (c_X8_in l G (((u1).toInt64)) ((97 : Int64)) ((122 : Int64)) s.heap.size r1 f2) gX8_isLetter_X8_in rfl rfl rfl zd_X8_in ⟨Nat.le_of_ble_eq_true rfl, Nat.le_of_ble_eq_true rfl⟩ rfl rfl rfl hl rfl (Nat.le_of_ble_eq_true rfl) dX8_isLetter_8 ⟨Nat.le_of_ble_eq_true rfl, Nat.le_of_ble_eq_true rfl⟩) (fun H locs S => ?_)
  obtain ⟨h4, hF⟩ := zs_blS hF
  have e3 := zs_s1 hF
  exact zs_zretE C S (zs_bln h4) e3 rfl dX8_isLetter_11

abbrev RMX8_isFigure : Room := { frames := 1, cells := 0, slots := 0, locals := 25 }
set_option maxRecDepth 100000 in
set_option maxHeartbeats 4000000 in
theorem c_X8_isFigure (l : Launch) (G : GG) (u1 : Int32) (sz : Nat) (rr : Int32) (hF : F_X8_isFigure u1 = some rr) : Met l yX8_isFigure wsX8_isFigure RMX8_isFigure (va_Pc [.int u1] (zs_pre G (([] : va_W)) sz)) (zs_Qi G (([] : va_W)) rr (va_A (([] : va_W)) sz)) 0 0 (va_A (([] : va_W)) sz) := by
  refine zs_met (cc := cX8_isFigure) (maxL := 1) (ret := (some .boolean)) (own := RX8) (Qc := zs_Qi G (([] : va_W)) rr) (by decide) rfl rfl (Nat.le_of_ble_eq_true rfl) ?_
  intro p e s m args below meth c C A hK hA S _ _ ls hl
  have hl : lv_has ls 1 [(0, .int u1)] := hl
  have hx := C.1.1
  have hb := C.1.2.1
  unfold F_X8_isFigure at hF
  refine lv_iload_n hx hb dX8_isFigure_0 rfl (lv_at hl 0 rfl) ?_
  refine lv_i2l (v := ((u1).toInt64)) hx hb dX8_isFigure_1 rfl ?_
  refine lv_ldc2 (v := (48 : Int64)) hx hb C.1.2.2.2.1 (C.1.2.2.2.2 (.constantLong RX8 80 (48 : Int64)) (List.mem_of_getElem? (i := 1) rfl)) dX8_isFigure_2 ?_
  refine lv_ldc2 (v := (57 : Int64)) hx hb C.1.2.2.2.1 (C.1.2.2.2.2 (.constantLong RX8 82 (57 : Int64)) (List.mem_of_getElem? (i := 2) rfl)) dX8_isFigure_5 ?_
  obtain ⟨r1, f2, hF⟩ := zs_bdS hF
  refine zs_calliP S hA (zs_runS C hK hA S [.long ((u1).toInt64), .long (48 : Int64), .long (57 : Int64)] [] [] 3 (c_X8_in l G (((u1).toInt64)) ((48 : Int64)) ((57 : Int64)) s.heap.size r1 f2) gX8_isFigure_X8_in rfl rfl rfl zd_X8_in ⟨Nat.le_of_ble_eq_true rfl, Nat.le_of_ble_eq_true rfl⟩ rfl rfl rfl hl rfl (Nat.le_of_ble_eq_true rfl) dX8_isFigure_8 ⟨Nat.le_of_ble_eq_true rfl, Nat.le_of_ble_eq_true rfl⟩) (fun H locs S => ?_)
  obtain ⟨h4, hF⟩ := zs_blS hF
  have e3 := zs_s1 hF
  exact zs_zretE C S (zs_bln h4) e3 rfl dX8_isFigure_11

abbrev RMX8_many : Room := { frames := 0, cells := 0, slots := 0, locals := 0 }
set_option maxRecDepth 100000 in
set_option maxHeartbeats 4000000 in
theorem c_X8_many (l : Launch) (G : GG) (u1 : Int32) (sz : Nat) (rr : Int32) (hF : F_X8_many u1 = some rr) : Met l yX8_many wsX8_many RMX8_many (va_Pc [.int u1] (zs_pre G (([] : va_W)) sz)) (zs_Qi G (([] : va_W)) rr (va_A (([] : va_W)) sz)) 0 0 (va_A (([] : va_W)) sz) := by
  refine zs_met (cc := cX8_many) (maxL := 3) (ret := (some .int)) (own := RX8) (Qc := zs_Qi G (([] : va_W)) rr) (by decide) rfl rfl (Nat.le_of_ble_eq_true rfl) ?_
  intro p e s m args below meth c C A hK hA S _ _ ls hl
  have hl : lv_has ls 3 [(0, .int u1)] := hl
  have hx := C.1.1
  have hb := C.1.2.1
  unfold F_X8_many at hF
  have j4 : ∀ (n4 : Nat) (x1 : Int32) (x2 : Int32) (H : Heap) (locs : List Loc) (ls : Array Slot), zs_S G A s.heap H locs (([] : va_W)) → lv_has ls 3 [(1, .int x1), (2, .int x2)] → F_X8_many_4 n4 x1 x2 = some rr → W p l e RMX8_many s m args below meth c H locs 0 0 (MQ below (zs_Qi G (([] : va_W)) rr A) args s 0 0 A) (F0 m 4 ls []) := by
    intro n4
    induction n4 with
    | zero => intro x1 x2 H locs ls _ _ hF; rw [F_X8_many_4_z] at hF; cases hF
    | succ n4 ih4 =>
      intro x1 x2 H locs ls S hl hF
      rw [F_X8_many_4_n] at hF
      unfold F_X8_many_4_s at hF
      refine lv_iload_n hx hb dX8_many_4 rfl (lv_at hl 1 rfl) ?_
      refine lv_if_eq (tgt := 20) hx hb dX8_many_5 (by decide) (fun c1 => ?_) (fun c1 => ?_)
      · have hF := zs_t hF c1
        refine lv_iload_n hx hb dX8_many_20 rfl (lv_at hl 0 rfl) ?_
        have e2 := zs_s1 hF
        exact zs_iretE C S e2 rfl dX8_many_21
      · have hF := zs_f hF c1
        obtain ⟨z3, e4⟩ : ∃ q : Int32, q = x1 + (1 : Int32) := ⟨_, rfl⟩
        have hF := zs_letS hF e4
        refine lv_iinc (v := z3) (lv' := [(1, .int z3), (2, .int x2)]) hx hb dX8_many_8 hl (k := 0) rfl (by rw [e4]; rfl) (by decide) rfl (fun ls hl => ?_)
        refine lv_iload_n hx hb dX8_many_11 rfl (lv_at hl 1 rfl) ?_
        refine lv_iload_n hx hb dX8_many_12 rfl (lv_at hl 1 rfl) ?_
        refine lv_iconst (v := (1 : Int32)) hx hb dX8_many_13 (by decide) ?_
        refine lv_isub hx hb dX8_many_14 ?_
        refine lv_iand hx hb dX8_many_15 ?_
        refine lv_topi (fun z5 e6 => ?_)
        have hF := zs_letS hF e6
        refine lv_istore_n (lv' := [(2, .int z5), (1, .int z3)]) hx hb dX8_many_16 rfl hl (by decide) rfl (fun ls hl => ?_)
        refine lv_goto (tgt := 4) hx hb dX8_many_17 (by decide) ?_
        exact ih4 z3 z5 _ _ _ S (lv_sub hl [1, 0] rfl) hF
  refine lv_iconst (v := (0 : Int32)) hx hb dX8_many_0 (by decide) ?_
  refine lv_istore_n (lv' := [(1, .int (0 : Int32)), (0, .int u1)]) hx hb dX8_many_1 rfl hl (by decide) rfl (fun ls hl => ?_)
  refine lv_iload_n hx hb dX8_many_2 rfl (lv_at hl 1 rfl) ?_
  refine lv_istore_n (lv' := [(2, .int u1), (1, .int (0 : Int32)), (0, .int u1)]) hx hb dX8_many_3 rfl hl (by decide) rfl (fun ls hl => ?_)
  exact j4 1000 (0 : Int32) u1 _ _ _ S (lv_sub hl [1, 0] rfl) hF

abbrev RMX8_isWall : Room := { frames := 1, cells := 0, slots := 0, locals := 25 }
theorem zn_X8_isWall_X8 : ∀ w ∈ wsX80, w ∈ wsX8_isWall := zs_inl wsX80 [6, 7, 8, 9, 10, 11, 12, 13, 14, 15, 16, 17, 18, 19, 20, 21, 22, 23, 24, 25, 26, 27, 28, 29, 30, 31, 32, 33, 34, 35, 36, 37, 38] (by decide +kernel)
set_option maxRecDepth 100000 in
set_option maxHeartbeats 4000000 in
theorem c_X8_isWall (l : Launch) (G : GG) (aMd : Ad) (Md : Ob) (mt : Int64) (u1 : Int32) (sz : Nat) (rr : Int32) (hF : F_X8_isWall Md u1 = some rr) : Met l yX8_isWall wsX8_isWall RMX8_isWall (va_Pc [.ref (aMd 0), .int u1] (zs_pre G (wX8 G aMd Md mt) sz)) (zs_Qi G (wX8 G aMd Md mt) rr (va_A (wX8 G aMd Md mt) sz)) 0 0 (va_A (wX8 G aMd Md mt) sz) := by
  refine zs_met (cc := cX8_isWall) (maxL := 2) (ret := (some .boolean)) (own := RX8) (Qc := zs_Qi G (wX8 G aMd Md mt) rr) (by decide) rfl rfl (Nat.le_of_ble_eq_true rfl) ?_
  intro p e s m args below meth c C A hK hA S _ _ ls hl
  have hl : lv_has ls 2 [(0, .ref (aMd 0)), (1, .int u1)] := hl
  have hx := C.1.1
  have hb := C.1.2.1
  unfold F_X8_isWall at hF
  refine lv_iload_n hx hb dX8_isWall_0 rfl (lv_at hl 1 rfl) ?_
  refine lv_i2l (v := ((u1).toInt64)) hx hb dX8_isWall_1 rfl ?_
  refine lv_lconst (v := (0 : Int64)) hx hb dX8_isWall_2 rfl ?_
  refine lv_aload_n hx hb dX8_isWall_3 rfl (lv_at hl 0 rfl) ?_
  refine zs_get C hK S 0 10 (Cn := RX8) (T := TX8) (N := 33) (ci := 8) rfl rfl (by decide) zn_X8_isWall_X8 (List.mem_of_getElem? (i := 1) rfl) rfl dX8_isWall_4 ?_
  refine lv_iconst (v := (1 : Int32)) hx hb dX8_isWall_7 (by decide) ?_
  refine lv_isub hx hb dX8_isWall_8 ?_
  refine lv_i2l (v := ((((Md 0 10) - (1 : Int32))).toInt64)) hx hb dX8_isWall_9 rfl ?_
  obtain ⟨r1, f2, hF⟩ := zs_bdS hF
  refine zs_calliP S hA (zs_runS C hK hA S [.long ((u1).toInt64), .long (0 : Int64), .long ((((Md 0 10) - (1 : Int32))).toInt64)] [] [] 3 (c_X8_in l G (((u1).toInt64)) ((0 : Int64)) (((((Md 0 10) - (1 : Int32))).toInt64)) s.heap.size r1 f2) gX8_isWall_X8_in rfl rfl rfl zd_X8_in ⟨Nat.le_of_ble_eq_true rfl, Nat.le_of_ble_eq_true rfl⟩ rfl rfl rfl hl rfl (Nat.le_of_ble_eq_true rfl) dX8_isWall_10 ⟨Nat.le_of_ble_eq_true rfl, Nat.le_of_ble_eq_true rfl⟩) (fun H locs S => ?_)
  obtain ⟨h4, hF⟩ := zs_blS hF
  have e3 := zs_s1 hF
  exact zs_zretE C S (zs_bln h4) e3 rfl dX8_isWall_13

abbrev RMX8_type : Room := { frames := 1, cells := 0, slots := 0, locals := 25 }
theorem zn_X8_type_X8 : ∀ w ∈ wsX80, w ∈ wsX8_type := zs_inl wsX80 [9, 10, 11, 12, 13, 14, 15, 16, 17, 18, 19, 20, 21, 22, 23, 24, 25, 26, 27, 28, 29, 30, 31, 32, 33, 34, 35, 36, 37, 38, 39, 40, 41] (by decide +kernel)
set_option maxRecDepth 100000 in
set_option maxHeartbeats 4000000 in
theorem c_X8_type (l : Launch) (G : GG) (aMd : Ad) (Md : Ob) (mt : Int64) (u1 : Int64) (u2 : Int32) (sz : Nat) (rr : Int32) (Md_ : Ob) (hF : F_X8_type Md u1 u2 = some (rr, Md_)) : Met l yX8_type wsX8_type RMX8_type (va_Pc [.ref (aMd 0), .long u1, .int u2] (zs_pre G (wX8 G aMd Md mt) sz)) (zs_Qi G (wX8 G aMd Md_ mt) rr (va_A (wX8 G aMd Md mt) sz)) 0 0 (va_A (wX8 G aMd Md mt) sz) := by
  refine zs_met (cc := cX8_type) (maxL := 5) (ret := (some .int)) (own := RX8) (Qc := zs_Qi G (wX8 G aMd Md_ mt) rr) (by decide) rfl rfl (Nat.le_of_ble_eq_true rfl) ?_
  intro p e s m args below meth c C A hK hA S _ _ ls hl
  have hl : lv_has ls 5 [(0, .ref (aMd 0)), (1, .long u1), (3, .int u2)] := hl
  have hx := C.1.1
  have hb := C.1.2.1
  unfold F_X8_type at hF
  have j76 : ∀ (Md : Ob) (H : Heap) (locs : List Loc) (ls : Array Slot), zs_S G A s.heap H locs (wX8 G aMd Md mt) → lv_has ls 5 [(0, .ref (aMd 0))] → F_X8_type_76 Md = some (rr, Md_) → W p l e RMX8_type s m args below meth c H locs 0 0 (MQ below (zs_Qi G (wX8 G aMd Md_ mt) rr A) args s 0 0 A) (F0 m 76 ls []) := by
    intro Md H locs ls S hl hF
    unfold F_X8_type_76 at hF
    refine lv_aload_n hx hb dX8_type_76 rfl (lv_at hl 0 rfl) ?_
    refine zs_get C hK S 0 1 (Cn := RX8) (T := TX8) (N := 33) (ci := 8) rfl rfl (by decide) zn_X8_type_X8 (List.mem_of_getElem? (i := 2) rfl) rfl dX8_type_77 ?_
    obtain ⟨e1, e2⟩ := zs_s2 hF
    exact zs_iretE C S e1 (by rw [e2]) dX8_type_80
  have j34 : ∀ (n34 : Nat) (Md : Ob) (x1 : Int64) (x4 : Int32) (H : Heap) (locs : List Loc) (ls : Array Slot), zs_S G A s.heap H locs (wX8 G aMd Md mt) → lv_has ls 5 [(0, .ref (aMd 0)), (1, .long x1), (4, .int x4)] → F_X8_type_34 n34 Md x1 x4 = some (rr, Md_) → W p l e RMX8_type s m args below meth c H locs 0 0 (MQ below (zs_Qi G (wX8 G aMd Md_ mt) rr A) args s 0 0 A) (F0 m 34 ls []) := by
    intro n34
    induction n34 with
    | zero => intro Md x1 x4 H locs ls _ _ hF; rw [F_X8_type_34_z] at hF; cases hF
    | succ n34 ih34 =>
      intro Md x1 x4 H locs ls S hl hF
      rw [F_X8_type_34_n] at hF
      unfold F_X8_type_34_s at hF
      refine lv_iload hx hb dX8_type_34 (lv_at hl 2 rfl) ?_
      refine lv_if_lt (tgt := 76) hx hb dX8_type_36 (by decide) (fun c3 => ?_) (fun c3 => ?_)
      · have hF := zs_t hF c3
        exact j76 Md _ _ _ S (lv_sub hl [0] rfl) hF
      · have hF := zs_f hF c3
        refine lv_aload_n hx hb dX8_type_39 rfl (lv_at hl 0 rfl) ?_
        refine zs_get C hK S 0 0 (Cn := RX8) (T := TX8) (N := 33) (ci := 8) rfl rfl (by decide) zn_X8_type_X8 (List.mem_of_getElem? (i := 3) rfl) rfl dX8_type_40 ?_
        refine lv_aload_n hx hb dX8_type_43 rfl (lv_at hl 0 rfl) ?_
        refine zs_get C hK S 0 1 (Cn := RX8) (T := TX8) (N := 33) (ci := 8) rfl rfl (by decide) zn_X8_type_X8 (List.mem_of_getElem? (i := 2) rfl) rfl dX8_type_44 ?_
        refine lv_lload_n hx hb dX8_type_47 rfl (lv_at hl 1 rfl) ?_
        refine lv_bipush (v := (8 : Int32)) hx hb dX8_type_48 (by decide) ?_
        refine lv_iload hx hb dX8_type_50 (lv_at hl 2 rfl) ?_
        refine lv_imul hx hb dX8_type_52 ?_
        refine lv_lshr (v := (x1 >>> ((((8 : Int32) * x4)).toInt64 &&& 63))) hx hb dX8_type_53 rfl ?_
        refine lv_ldc2 (v := (255 : Int64)) hx hb C.1.2.2.2.1 (C.1.2.2.2.2 (.constantLong RX8 74 (255 : Int64)) (List.mem_of_getElem? (i := 4) rfl)) dX8_type_54 ?_
        refine lv_land hx hb dX8_type_57 ?_
        refine lv_l2i (v := ((((x1 >>> ((((8 : Int32) * x4)).toInt64 &&& 63)) &&& (255 : Int64))).toInt32)) hx hb dX8_type_58 rfl ?_
        obtain ⟨h4, hF⟩ := zs_ckS hF
        obtain ⟨Mdw5, e6⟩ : ∃ q : Ob, q = zs_up Md 1 ((Md 0 1)).toNatClampNeg ((((x1 >>> ((((8 : Int32) * x4)).toInt64 &&& 63)) &&& (255 : Int64))).toInt32) := ⟨_, rfl⟩
        have hF := zs_letS hF e6
        refine zs_iast C hK S 1 (ws' := wX8 G aMd Mdw5 mt) rfl h4 (by rw [e6]; rfl) dX8_type_59 (fun H locs S => ?_)
        refine lv_aload_n hx hb dX8_type_60 rfl (lv_at hl 0 rfl) ?_
        refine lv_dup hx hb dX8_type_61 rfl ?_
        refine zs_get C hK S 0 1 (Cn := RX8) (T := TX8) (N := 33) (ci := 8) rfl rfl (by decide) zn_X8_type_X8 (List.mem_of_getElem? (i := 2) rfl) rfl dX8_type_62 ?_
        refine lv_iconst (v := (1 : Int32)) hx hb dX8_type_65 (by decide) ?_
        refine lv_iadd hx hb dX8_type_66 ?_
        obtain ⟨Mdw7, e8⟩ : ∃ q : Ob, q = zs_up Mdw5 0 1 ((Mdw5 0 1) + (1 : Int32)) := ⟨_, rfl⟩
        have hF := zs_letS hF e8
        refine zs_put C hK S 0 1 (ws' := wX8 G aMd Mdw7 mt) (Cn := RX8) (T := TX8) (N := 33) (ci := 8) rfl rfl (by decide) zn_X8_type_X8 tyX8_ok nmX8 (List.mem_of_getElem? (i := 2) rfl) rfl rfl rfl (Nat.le_of_ble_eq_true rfl) (by rw [e8]; rfl) dX8_type_67 (fun H locs S => ?_)
        obtain ⟨z9, e10⟩ : ∃ q : Int32, q = x4 + (-1 : Int32) := ⟨_, rfl⟩
        have hF := zs_letS hF e10
        refine lv_iinc (v := z9) (lv' := [(4, .int z9), (0, .ref (aMd 0)), (1, .long x1)]) hx hb dX8_type_70 hl (k := 2) rfl (by rw [e10]; rfl) (by decide) rfl (fun ls hl => ?_)
        refine lv_goto (tgt := 34) hx hb dX8_type_73 (by decide) ?_
        exact ih34 Mdw7 x1 z9 _ _ _ S (lv_sub hl [1, 2, 0] rfl) hF
  refine lv_iload_n hx hb dX8_type_0 rfl (lv_at hl 2 rfl) ?_
  refine lv_i2l (v := ((u2).toInt64)) hx hb dX8_type_1 rfl ?_
  refine lv_lconst (v := (1 : Int64)) hx hb dX8_type_2 rfl ?_
  refine lv_ldc2 (v := (8 : Int64)) hx hb C.1.2.2.2.1 (C.1.2.2.2.2 (.constantLong RX8 65 (8 : Int64)) (List.mem_of_getElem? (i := 1) rfl)) dX8_type_3 ?_
  obtain ⟨r11, f12, hF⟩ := zs_bdS hF
  refine zs_calliP S hA (zs_runS C hK hA S [.long ((u2).toInt64), .long (1 : Int64), .long (8 : Int64)] [] [] 3 (c_X8_in l G (((u2).toInt64)) ((1 : Int64)) ((8 : Int64)) s.heap.size r11 f12) gX8_type_X8_in rfl rfl rfl zd_X8_in ⟨Nat.le_of_ble_eq_true rfl, Nat.le_of_ble_eq_true rfl⟩ rfl rfl rfl hl rfl (Nat.le_of_ble_eq_true rfl) dX8_type_6 ⟨Nat.le_of_ble_eq_true rfl, Nat.le_of_ble_eq_true rfl⟩) (fun H locs S => ?_)
  refine lv_if_ne (tgt := 14) hx hb dX8_type_9 (by decide) (fun c13 => ?_) (fun c13 => ?_)
  · have hF := zs_f hF c13
    refine lv_aload_n hx hb dX8_type_14 rfl (lv_at hl 0 rfl) ?_
    refine zs_get C hK S 0 1 (Cn := RX8) (T := TX8) (N := 33) (ci := 8) rfl rfl (by decide) zn_X8_type_X8 (List.mem_of_getElem? (i := 2) rfl) rfl dX8_type_15 ?_
    refine lv_iload_n hx hb dX8_type_18 rfl (lv_at hl 2 rfl) ?_
    refine lv_iadd hx hb dX8_type_19 ?_
    refine lv_sipush (v := (250 : Int32)) hx hb dX8_type_20 (by decide) ?_
    refine lv_icmp_le (tgt := 29) hx hb dX8_type_23 (by decide) (fun c14 => ?_) (fun c14 => ?_)
    · have hF := zs_t hF c14
      refine lv_iload_n hx hb dX8_type_29 rfl (lv_at hl 2 rfl) ?_
      refine lv_iconst (v := (1 : Int32)) hx hb dX8_type_30 (by decide) ?_
      refine lv_isub hx hb dX8_type_31 ?_
      refine lv_topi (fun z15 e16 => ?_)
      have hF := zs_letS hF e16
      refine lv_istore (lv' := [(4, .int z15), (0, .ref (aMd 0)), (1, .long u1), (3, .int u2)]) hx hb dX8_type_32 hl (by decide) rfl (fun ls hl => ?_)
      exact j34 1000 Md u1 z15 _ _ _ S (lv_sub hl [1, 2, 0] rfl) hF
    · have hF := zs_f hF c14
      refine lv_bipush (v := (-3 : Int32)) hx hb dX8_type_26 (by decide) ?_
      obtain ⟨e17, e18⟩ := zs_s2 hF
      exact zs_iretE C S e17 (by rw [e18]) dX8_type_28
  · have hF := zs_t hF c13
    refine lv_iconst (v := (-1 : Int32)) hx hb dX8_type_12 (by decide) ?_
    obtain ⟨e19, e20⟩ := zs_s2 hF
    exact zs_iretE C S e19 (by rw [e20]) dX8_type_13

abbrev RMX8_clear : Room := { frames := 0, cells := 0, slots := 0, locals := 0 }
theorem zn_X8_clear_X8 : ∀ w ∈ wsX80, w ∈ wsX8_clear := zs_inl wsX80 [2, 3, 4, 5, 6, 7, 8, 9, 10, 11, 12, 13, 14, 15, 16, 17, 18, 19, 20, 21, 22, 23, 24, 25, 26, 27, 28, 29, 30, 31, 32, 33, 34] (by decide +kernel)
set_option maxRecDepth 100000 in
set_option maxHeartbeats 4000000 in
theorem c_X8_clear (l : Launch) (G : GG) (aMd : Ad) (Md : Ob) (mt : Int64) (sz : Nat) (rr : Int32) (Md_ : Ob) (hF : F_X8_clear Md = some (rr, Md_)) : Met l yX8_clear wsX8_clear RMX8_clear (va_Pc [.ref (aMd 0)] (zs_pre G (wX8 G aMd Md mt) sz)) (zs_Qi G (wX8 G aMd Md_ mt) rr (va_A (wX8 G aMd Md mt) sz)) 0 0 (va_A (wX8 G aMd Md mt) sz) := by
  refine zs_met (cc := cX8_clear) (maxL := 2) (ret := (some .int)) (own := RX8) (Qc := zs_Qi G (wX8 G aMd Md_ mt) rr) (by decide) rfl rfl (Nat.le_of_ble_eq_true rfl) ?_
  intro p e s m args below meth c C A hK hA S _ _ ls hl
  have hl : lv_has ls 2 [(0, .ref (aMd 0))] := hl
  have hx := C.1.1
  have hb := C.1.2.1
  unfold F_X8_clear at hF
  refine lv_aload_n hx hb dX8_clear_0 rfl (lv_at hl 0 rfl) ?_
  refine zs_get C hK S 0 1 (Cn := RX8) (T := TX8) (N := 33) (ci := 8) rfl rfl (by decide) zn_X8_clear_X8 (List.mem_of_getElem? (i := 1) rfl) rfl dX8_clear_1 ?_
  refine lv_topi (fun z1 e2 => ?_)
  have hF := zs_letS hF e2
  refine lv_istore_n (lv' := [(1, .int z1), (0, .ref (aMd 0))]) hx hb dX8_clear_4 rfl hl (by decide) rfl (fun ls hl => ?_)
  refine lv_aload_n hx hb dX8_clear_5 rfl (lv_at hl 1 rfl) ?_
  refine lv_iconst (v := (0 : Int32)) hx hb dX8_clear_6 (by decide) ?_
  obtain ⟨Mdw3, e4⟩ : ∃ q : Ob, q = zs_up Md 0 1 (0 : Int32) := ⟨_, rfl⟩
  have hF := zs_letS hF e4
  refine zs_put C hK S 0 1 (ws' := wX8 G aMd Mdw3 mt) (Cn := RX8) (T := TX8) (N := 33) (ci := 8) rfl rfl (by decide) zn_X8_clear_X8 tyX8_ok nmX8 (List.mem_of_getElem? (i := 1) rfl) rfl rfl rfl (Nat.le_of_ble_eq_true rfl) (by rw [e4]; rfl) dX8_clear_7 (fun H locs S => ?_)
  refine lv_iload_n hx hb dX8_clear_10 rfl (lv_at hl 0 rfl) ?_
  obtain ⟨e5, e6⟩ := zs_s2 hF
  exact zs_iretE C S e5 (by rw [e6]) dX8_clear_11

theorem zd_X8_isLetter : yX8_isLetter.cls ≠ "java/lang/invoke/MethodHandle" ∧ yX8_isLetter.cls ≠ "java/lang/invoke/VarHandle" ∧ (parseMethodDescriptor yX8_isLetter.desc).map (fun d => d.parameters.length) = some 1 := by decide +kernel
abbrev RMX8_readWord : Room := { frames := 2, cells := 0, slots := 0, locals := 45 }
theorem zn_X8_readWord_X8 : ∀ w ∈ wsX80, w ∈ wsX8_readWord := zs_inl wsX80 [22, 23, 24, 25, 26, 27, 28, 29, 30, 31, 32, 33, 34, 35, 36, 37, 38, 39, 40, 41, 42, 43, 44, 45, 46, 47, 48, 49, 50, 51, 52, 53, 54] (by decide +kernel)
set_option maxRecDepth 100000 in
set_option maxHeartbeats 4000000 in
theorem c_X8_readWord (l : Launch) (G : GG) (aMd : Ad) (Md : Ob) (mt : Int64) (sz : Nat) (Md_ : Ob) (hF : F_X8_readWord Md = some Md_) : Met l yX8_readWord wsX8_readWord RMX8_readWord (va_Pc [.ref (aMd 0)] (zs_pre G (wX8 G aMd Md mt) sz)) (zs_Qv G (wX8 G aMd Md_ mt) (va_A (wX8 G aMd Md mt) sz)) 0 0 (va_A (wX8 G aMd Md mt) sz) := by
  refine zs_met (cc := cX8_readWord) (maxL := 3) (ret := none) (own := RX8) (Qc := zs_Qv G (wX8 G aMd Md_ mt)) (by decide) rfl rfl (Nat.le_of_ble_eq_true rfl) ?_
  intro p e s m args below meth c C A hK hA S _ _ ls hl
  have hl : lv_has ls 3 [(0, .ref (aMd 0))] := hl
  have hx := C.1.1
  have hb := C.1.2.1
  unfold F_X8_readWord at hF
  have j147 : ∀ (Md : Ob) (y0 : Int32) (H : Heap) (locs : List Loc) (ls : Array Slot), zs_S G A s.heap H locs (wX8 G aMd Md mt) → lv_has ls 3 [] → F_X8_readWord_147 Md y0 = some Md_ → W p l e RMX8_readWord s m args below meth c H locs 0 0 (MQ below (zs_Qv G (wX8 G aMd Md_ mt) A) args s 0 0 A) (F0 m 147 ls [.int y0, .ref (aMd 0)]) := by
    intro Md y0 H locs ls S hl hF
    unfold F_X8_readWord_147 at hF
    obtain ⟨Mdw1, e2⟩ : ∃ q : Ob, q = zs_up Md 0 4 y0 := ⟨_, rfl⟩
    have hF := zs_letS hF e2
    refine zs_put C hK S 0 4 (ws' := wX8 G aMd Mdw1 mt) (Cn := RX8) (T := TX8) (N := 33) (ci := 8) rfl rfl (by decide) zn_X8_readWord_X8 tyX8_ok nmX8 (List.mem_of_getElem? (i := 12) rfl) rfl rfl rfl (Nat.le_of_ble_eq_true rfl) (by rw [e2]; rfl) dX8_readWord_147 (fun H locs S => ?_)
    have e3 := zs_s1 hF
    exact zs_vretE C S (by rw [e3]) dX8_readWord_150
  have j129 : ∀ (Md : Ob) (y0 : Int32) (H : Heap) (locs : List Loc) (ls : Array Slot), zs_S G A s.heap H locs (wX8 G aMd Md mt) → lv_has ls 3 [(0, .ref (aMd 0))] → F_X8_readWord_129 Md y0 = some Md_ → W p l e RMX8_readWord s m args below meth c H locs 0 0 (MQ below (zs_Qv G (wX8 G aMd Md_ mt) A) args s 0 0 A) (F0 m 129 ls [.int y0, .ref (aMd 0)]) := by
    intro Md y0 H locs ls S hl hF
    unfold F_X8_readWord_129 at hF
    obtain ⟨Mdw4, e5⟩ : ∃ q : Ob, q = zs_up Md 0 5 y0 := ⟨_, rfl⟩
    have hF := zs_letS hF e5
    refine zs_put C hK S 0 5 (ws' := wX8 G aMd Mdw4 mt) (Cn := RX8) (T := TX8) (N := 33) (ci := 8) rfl rfl (by decide) zn_X8_readWord_X8 tyX8_ok nmX8 (List.mem_of_getElem? (i := 11) rfl) rfl rfl rfl (Nat.le_of_ble_eq_true rfl) (by rw [e5]; rfl) dX8_readWord_129 (fun H locs S => ?_)
    refine lv_aload_n hx hb dX8_readWord_132 rfl (lv_at hl 0 rfl) ?_
    refine lv_aload_n hx hb dX8_readWord_133 rfl (lv_at hl 0 rfl) ?_
    refine zs_get C hK S 0 5 (Cn := RX8) (T := TX8) (N := 33) (ci := 8) rfl rfl (by decide) zn_X8_readWord_X8 (List.mem_of_getElem? (i := 11) rfl) rfl dX8_readWord_134 ?_
    refine lv_bipush (v := (-9 : Int32)) hx hb dX8_readWord_137 (by decide) ?_
    refine lv_icmp_ne (tgt := 146) hx hb dX8_readWord_139 (by decide) (fun c6 => ?_) (fun c6 => ?_)
    · have hF := zs_f hF c6
      refine lv_iconst (v := (1 : Int32)) hx hb dX8_readWord_146 (by decide) ?_
      exact j147 Mdw4 (1 : Int32) _ _ _ S (lv_sub hl [] rfl) hF
    · have hF := zs_t hF c6
      refine lv_iconst (v := (4 : Int32)) hx hb dX8_readWord_142 (by decide) ?_
      refine lv_goto (tgt := 147) hx hb dX8_readWord_143 (by decide) ?_
      exact j147 Mdw4 (4 : Int32) _ _ _ S (lv_sub hl [] rfl) hF
  have j78 : ∀ (Md : Ob) (x1 : Int64) (H : Heap) (locs : List Loc) (ls : Array Slot), zs_S G A s.heap H locs (wX8 G aMd Md mt) → lv_has ls 3 [(0, .ref (aMd 0)), (1, .long x1)] → F_X8_readWord_78 Md x1 = some Md_ → W p l e RMX8_readWord s m args below meth c H locs 0 0 (MQ below (zs_Qv G (wX8 G aMd Md_ mt) A) args s 0 0 A) (F0 m 78 ls []) := by
    intro Md x1 H locs ls S hl hF
    unfold F_X8_readWord_78 at hF
    refine lv_aload_n hx hb dX8_readWord_78 rfl (lv_at hl 0 rfl) ?_
    refine lv_lload_n hx hb dX8_readWord_79 rfl (lv_at hl 1 rfl) ?_
    refine lv_ldc2 (v := (2002873452 : Int64)) hx hb C.1.2.2.2.1 (C.1.2.2.2.2 (.constantLong RX8 98 (2002873452 : Int64)) (List.mem_of_getElem? (i := 7) rfl)) dX8_readWord_80 ?_
    refine W.lcmp hx hb dX8_readWord_83 ?_
    refine lv_if_ne (tgt := 91) hx hb dX8_readWord_84 (by decide) (fun c7 => ?_) (fun c7 => ?_)
    · have hF := zs_f hF c7
      refine lv_lload_n hx hb dX8_readWord_91 rfl (lv_at hl 1 rfl) ?_
      refine lv_ldc2 (v := (1936024947 : Int64)) hx hb C.1.2.2.2.1 (C.1.2.2.2.2 (.constantLong RX8 100 (1936024947 : Int64)) (List.mem_of_getElem? (i := 8) rfl)) dX8_readWord_92 ?_
      refine W.lcmp hx hb dX8_readWord_95 ?_
      refine lv_if_ne (tgt := 103) hx hb dX8_readWord_96 (by decide) (fun c8 => ?_) (fun c8 => ?_)
      · have hF := zs_f hF c8
        refine lv_lload_n hx hb dX8_readWord_103 rfl (lv_at hl 1 rfl) ?_
        refine lv_ldc2 (v := (2003792491 : Int64)) hx hb C.1.2.2.2.1 (C.1.2.2.2.2 (.constantLong RX8 102 (2003792491 : Int64)) (List.mem_of_getElem? (i := 9) rfl)) dX8_readWord_104 ?_
        refine W.lcmp hx hb dX8_readWord_107 ?_
        refine lv_if_ne (tgt := 115) hx hb dX8_readWord_108 (by decide) (fun c9 => ?_) (fun c9 => ?_)
        · have hF := zs_f hF c9
          refine lv_lload_n hx hb dX8_readWord_115 rfl (lv_at hl 1 rfl) ?_
          refine lv_ldc2 (v := (465625246068 : Int64)) hx hb C.1.2.2.2.1 (C.1.2.2.2.2 (.constantLong RX8 104 (465625246068 : Int64)) (List.mem_of_getElem? (i := 10) rfl)) dX8_readWord_116 ?_
          refine W.lcmp hx hb dX8_readWord_119 ?_
          refine lv_if_ne (tgt := 127) hx hb dX8_readWord_120 (by decide) (fun c10 => ?_) (fun c10 => ?_)
          · have hF := zs_f hF c10
            refine lv_bipush (v := (-9 : Int32)) hx hb dX8_readWord_127 (by decide) ?_
            exact j129 Md (-9 : Int32) _ _ _ S (lv_sub hl [0] rfl) hF
          · have hF := zs_t hF c10
            refine lv_iconst (v := (3 : Int32)) hx hb dX8_readWord_123 (by decide) ?_
            refine lv_goto (tgt := 129) hx hb dX8_readWord_124 (by decide) ?_
            exact j129 Md (3 : Int32) _ _ _ S (lv_sub hl [0] rfl) hF
        · have hF := zs_t hF c9
          refine lv_iconst (v := (2 : Int32)) hx hb dX8_readWord_111 (by decide) ?_
          refine lv_goto (tgt := 129) hx hb dX8_readWord_112 (by decide) ?_
          exact j129 Md (2 : Int32) _ _ _ S (lv_sub hl [0] rfl) hF
      · have hF := zs_t hF c8
        refine lv_iconst (v := (1 : Int32)) hx hb dX8_readWord_99 (by decide) ?_
        refine lv_goto (tgt := 129) hx hb dX8_readWord_100 (by decide) ?_
        exact j129 Md (1 : Int32) _ _ _ S (lv_sub hl [0] rfl) hF
    · have hF := zs_t hF c7
      refine lv_iconst (v := (0 : Int32)) hx hb dX8_readWord_87 (by decide) ?_
      refine lv_goto (tgt := 129) hx hb dX8_readWord_88 (by decide) ?_
      exact j129 Md (0 : Int32) _ _ _ S (lv_sub hl [0] rfl) hF
  have j2 : ∀ (n2 : Nat) (Md : Ob) (x1 : Int64) (H : Heap) (locs : List Loc) (ls : Array Slot), zs_S G A s.heap H locs (wX8 G aMd Md mt) → lv_has ls 3 [(0, .ref (aMd 0)), (1, .long x1)] → F_X8_readWord_2 n2 Md x1 = some Md_ → W p l e RMX8_readWord s m args below meth c H locs 0 0 (MQ below (zs_Qv G (wX8 G aMd Md_ mt) A) args s 0 0 A) (F0 m 2 ls []) := by
    intro n2
    induction n2 with
    | zero => intro Md x1 H locs ls _ _ hF; rw [F_X8_readWord_2_z] at hF; cases hF
    | succ n2 ih2 =>
      have j64 : ∀ (Md : Ob) (y0 : Int64) (H : Heap) (locs : List Loc) (ls : Array Slot), zs_S G A s.heap H locs (wX8 G aMd Md mt) → lv_has ls 3 [(0, .ref (aMd 0))] → F_X8_readWord_64 (F_X8_readWord_2 n2) Md y0 = some Md_ → W p l e RMX8_readWord s m args below meth c H locs 0 0 (MQ below (zs_Qv G (wX8 G aMd Md_ mt) A) args s 0 0 A) (F0 m 64 ls [.long y0]) := by
        intro Md y0 H locs ls S hl hF
        unfold F_X8_readWord_64 at hF
        refine lv_lstore_n (lv' := [(1, .long y0), (0, .ref (aMd 0))]) hx hb dX8_readWord_64 rfl hl (by decide) rfl (fun ls hl => ?_)
        refine lv_aload_n hx hb dX8_readWord_65 rfl (lv_at hl 1 rfl) ?_
        refine lv_dup hx hb dX8_readWord_66 rfl ?_
        refine zs_get C hK S 0 2 (Cn := RX8) (T := TX8) (N := 33) (ci := 8) rfl rfl (by decide) zn_X8_readWord_X8 (List.mem_of_getElem? (i := 1) rfl) rfl dX8_readWord_67 ?_
        refine lv_iconst (v := (1 : Int32)) hx hb dX8_readWord_70 (by decide) ?_
        refine lv_iadd hx hb dX8_readWord_71 ?_
        obtain ⟨Mdw11, e12⟩ : ∃ q : Ob, q = zs_up Md 0 2 ((Md 0 2) + (1 : Int32)) := ⟨_, rfl⟩
        have hF := zs_letS hF e12
        refine zs_put C hK S 0 2 (ws' := wX8 G aMd Mdw11 mt) (Cn := RX8) (T := TX8) (N := 33) (ci := 8) rfl rfl (by decide) zn_X8_readWord_X8 tyX8_ok nmX8 (List.mem_of_getElem? (i := 1) rfl) rfl rfl rfl (Nat.le_of_ble_eq_true rfl) (by rw [e12]; rfl) dX8_readWord_72 (fun H locs S => ?_)
        refine lv_goto (tgt := 2) hx hb dX8_readWord_75 (by decide) ?_
        exact ih2 Mdw11 y0 _ _ _ S (lv_sub hl [1, 0] rfl) hF
      intro Md x1 H locs ls S hl hF
      rw [F_X8_readWord_2_n] at hF
      unfold F_X8_readWord_2_s at hF
      refine lv_aload_n hx hb dX8_readWord_2 rfl (lv_at hl 0 rfl) ?_
      refine zs_get C hK S 0 2 (Cn := RX8) (T := TX8) (N := 33) (ci := 8) rfl rfl (by decide) zn_X8_readWord_X8 (List.mem_of_getElem? (i := 1) rfl) rfl dX8_readWord_3 ?_
      refine lv_aload_n hx hb dX8_readWord_6 rfl (lv_at hl 0 rfl) ?_
      refine zs_get C hK S 0 1 (Cn := RX8) (T := TX8) (N := 33) (ci := 8) rfl rfl (by decide) zn_X8_readWord_X8 (List.mem_of_getElem? (i := 2) rfl) rfl dX8_readWord_7 ?_
      refine lv_icmp_ge (tgt := 78) hx hb dX8_readWord_10 (by decide) (fun c13 => ?_) (fun c13 => ?_)
      · have hF := zs_t hF c13
        exact j78 Md x1 _ _ _ S (lv_sub hl [0, 1] rfl) hF
      · have hF := zs_f hF c13
        refine lv_aload_n hx hb dX8_readWord_13 rfl (lv_at hl 0 rfl) ?_
        refine zs_get C hK S 0 0 (Cn := RX8) (T := TX8) (N := 33) (ci := 8) rfl rfl (by decide) zn_X8_readWord_X8 (List.mem_of_getElem? (i := 3) rfl) rfl dX8_readWord_14 ?_
        refine lv_aload_n hx hb dX8_readWord_17 rfl (lv_at hl 0 rfl) ?_
        refine zs_get C hK S 0 2 (Cn := RX8) (T := TX8) (N := 33) (ci := 8) rfl rfl (by decide) zn_X8_readWord_X8 (List.mem_of_getElem? (i := 1) rfl) rfl dX8_readWord_18 ?_
        obtain ⟨h14, hF⟩ := zs_ckS hF
        refine zs_iald C hK S 1 rfl h14 dX8_readWord_21 ?_
        obtain ⟨r15, f16, hF⟩ := zs_bdS hF
        refine zs_calliP S hA (zs_runS C hK hA S [.int (Md 1 ((Md 0 2)).toNatClampNeg)] [] [] 1 (c_X8_isLetter l G ((Md 1 ((Md 0 2)).toNatClampNeg)) H.size r15 f16) gX8_readWord_X8_isLetter rfl rfl rfl zd_X8_isLetter ⟨Nat.le_of_ble_eq_true rfl, Nat.le_of_ble_eq_true rfl⟩ rfl rfl rfl hl rfl (Nat.le_of_ble_eq_true rfl) dX8_readWord_22 ⟨Nat.le_of_ble_eq_true rfl, Nat.le_of_ble_eq_true rfl⟩) (fun H locs S => ?_)
        refine lv_if_eq (tgt := 78) hx hb dX8_readWord_25 (by decide) (fun c17 => ?_) (fun c17 => ?_)
        · have hF := zs_t hF c17
          exact j78 Md x1 _ _ _ S (lv_sub hl [0, 1] rfl) hF
        · have hF := zs_f hF c17
          refine lv_aload_n hx hb dX8_readWord_28 rfl (lv_at hl 0 rfl) ?_
          refine zs_get C hK S 0 2 (Cn := RX8) (T := TX8) (N := 33) (ci := 8) rfl rfl (by decide) zn_X8_readWord_X8 (List.mem_of_getElem? (i := 1) rfl) rfl dX8_readWord_29 ?_
          refine lv_aload_n hx hb dX8_readWord_32 rfl (lv_at hl 0 rfl) ?_
          refine zs_get C hK S 0 3 (Cn := RX8) (T := TX8) (N := 33) (ci := 8) rfl rfl (by decide) zn_X8_readWord_X8 (List.mem_of_getElem? (i := 4) rfl) rfl dX8_readWord_33 ?_
          refine lv_isub hx hb dX8_readWord_36 ?_
          refine lv_bipush (v := (6 : Int32)) hx hb dX8_readWord_37 (by decide) ?_
          refine lv_icmp_le (tgt := 48) hx hb dX8_readWord_39 (by decide) (fun c18 => ?_) (fun c18 => ?_)
          · have hF := zs_t hF c18
            refine lv_lload_n hx hb dX8_readWord_48 rfl (lv_at hl 1 rfl) ?_
            refine lv_ldc2 (v := (256 : Int64)) hx hb C.1.2.2.2.1 (C.1.2.2.2.2 (.constantLong RX8 96 (256 : Int64)) (List.mem_of_getElem? (i := 6) rfl)) dX8_readWord_49 ?_
            refine lv_lmul hx hb dX8_readWord_52 ?_
            refine lv_aload_n hx hb dX8_readWord_53 rfl (lv_at hl 0 rfl) ?_
            refine zs_get C hK S 0 0 (Cn := RX8) (T := TX8) (N := 33) (ci := 8) rfl rfl (by decide) zn_X8_readWord_X8 (List.mem_of_getElem? (i := 3) rfl) rfl dX8_readWord_54 ?_
            refine lv_aload_n hx hb dX8_readWord_57 rfl (lv_at hl 0 rfl) ?_
            refine zs_get C hK S 0 2 (Cn := RX8) (T := TX8) (N := 33) (ci := 8) rfl rfl (by decide) zn_X8_readWord_X8 (List.mem_of_getElem? (i := 1) rfl) rfl dX8_readWord_58 ?_
            obtain ⟨h19, hF⟩ := zs_ckS hF
            refine zs_iald C hK S 1 rfl h19 dX8_readWord_61 ?_
            refine lv_i2l (v := (((Md 1 ((Md 0 2)).toNatClampNeg)).toInt64)) hx hb dX8_readWord_62 rfl ?_
            refine lv_ladd hx hb dX8_readWord_63 ?_
            exact j64 Md ((x1 * (256 : Int64)) + (((Md 1 ((Md 0 2)).toNatClampNeg)).toInt64)) _ _ _ S (lv_sub hl [0] rfl) hF
          · have hF := zs_f hF c18
            refine lv_ldc2 (v := (-1 : Int64)) hx hb C.1.2.2.2.1 (C.1.2.2.2.2 (.constantLong RX8 94 (-1 : Int64)) (List.mem_of_getElem? (i := 5) rfl)) dX8_readWord_42 ?_
            refine lv_goto (tgt := 64) hx hb dX8_readWord_45 (by decide) ?_
            exact j64 Md (-1 : Int64) _ _ _ S (lv_sub hl [0] rfl) hF
  refine lv_lconst (v := (0 : Int64)) hx hb dX8_readWord_0 rfl ?_
  refine lv_lstore_n (lv' := [(1, .long (0 : Int64)), (0, .ref (aMd 0))]) hx hb dX8_readWord_1 rfl hl (by decide) rfl (fun ls hl => ?_)
  exact j2 1000 Md (0 : Int64) _ _ _ S (lv_sub hl [1, 0] rfl) hF

theorem zd_X8_isFigure : yX8_isFigure.cls ≠ "java/lang/invoke/MethodHandle" ∧ yX8_isFigure.cls ≠ "java/lang/invoke/VarHandle" ∧ (parseMethodDescriptor yX8_isFigure.desc).map (fun d => d.parameters.length) = some 1 := by decide +kernel
abbrev RMX8_readNumber : Room := { frames := 2, cells := 0, slots := 0, locals := 45 }
theorem zn_X8_readNumber_X8 : ∀ w ∈ wsX80, w ∈ wsX8_readNumber := zs_inl wsX80 [16, 17, 18, 19, 20, 21, 22, 23, 24, 25, 26, 27, 28, 29, 30, 31, 32, 33, 34, 35, 36, 37, 38, 39, 40, 41, 42, 43, 44, 45, 46, 47, 48] (by decide +kernel)
set_option maxRecDepth 100000 in
set_option maxHeartbeats 4000000 in
theorem c_X8_readNumber (l : Launch) (G : GG) (aMd : Ad) (Md : Ob) (mt : Int64) (sz : Nat) (Md_ : Ob) (hF : F_X8_readNumber Md = some Md_) : Met l yX8_readNumber wsX8_readNumber RMX8_readNumber (va_Pc [.ref (aMd 0)] (zs_pre G (wX8 G aMd Md mt) sz)) (zs_Qv G (wX8 G aMd Md_ mt) (va_A (wX8 G aMd Md mt) sz)) 0 0 (va_A (wX8 G aMd Md mt) sz) := by
  refine zs_met (cc := cX8_readNumber) (maxL := 2) (ret := none) (own := RX8) (Qc := zs_Qv G (wX8 G aMd Md_ mt)) (by decide) rfl rfl (Nat.le_of_ble_eq_true rfl) ?_
  intro p e s m args below meth c C A hK hA S _ _ ls hl
  have hl : lv_has ls 2 [(0, .ref (aMd 0))] := hl
  have hx := C.1.1
  have hb := C.1.2.1
  unfold F_X8_readNumber at hF
  have j108 : ∀ (Md : Ob) (x1 : Int32) (y0 : Int32) (H : Heap) (locs : List Loc) (ls : Array Slot), zs_S G A s.heap H locs (wX8 G aMd Md mt) → lv_has ls 2 [(0, .ref (aMd 0)), (1, .int x1)] → F_X8_readNumber_108 Md x1 y0 = some Md_ → W p l e RMX8_readNumber s m args below meth c H locs 0 0 (MQ below (zs_Qv G (wX8 G aMd Md_ mt) A) args s 0 0 A) (F0 m 108 ls [.int y0, .ref (aMd 0)]) := by
    intro Md x1 y0 H locs ls S hl hF
    unfold F_X8_readNumber_108 at hF
    obtain ⟨Mdw1, e2⟩ : ∃ q : Ob, q = zs_up Md 0 4 y0 := ⟨_, rfl⟩
    have hF := zs_letS hF e2
    refine zs_put C hK S 0 4 (ws' := wX8 G aMd Mdw1 mt) (Cn := RX8) (T := TX8) (N := 33) (ci := 8) rfl rfl (by decide) zn_X8_readNumber_X8 tyX8_ok nmX8 (List.mem_of_getElem? (i := 5) rfl) rfl rfl rfl (Nat.le_of_ble_eq_true rfl) (by rw [e2]; rfl) dX8_readNumber_108 (fun H locs S => ?_)
    refine lv_aload_n hx hb dX8_readNumber_111 rfl (lv_at hl 0 rfl) ?_
    refine lv_iload_n hx hb dX8_readNumber_112 rfl (lv_at hl 1 rfl) ?_
    obtain ⟨Mdw3, e4⟩ : ∃ q : Ob, q = zs_up Mdw1 0 5 x1 := ⟨_, rfl⟩
    have hF := zs_letS hF e4
    refine zs_put C hK S 0 5 (ws' := wX8 G aMd Mdw3 mt) (Cn := RX8) (T := TX8) (N := 33) (ci := 8) rfl rfl (by decide) zn_X8_readNumber_X8 tyX8_ok nmX8 (List.mem_of_getElem? (i := 6) rfl) rfl rfl rfl (Nat.le_of_ble_eq_true rfl) (by rw [e4]; rfl) dX8_readNumber_113 (fun H locs S => ?_)
    have e5 := zs_s1 hF
    exact zs_vretE C S (by rw [e5]) dX8_readNumber_116
  have j107 : ∀ (Md : Ob) (x1 : Int32) (H : Heap) (locs : List Loc) (ls : Array Slot), zs_S G A s.heap H locs (wX8 G aMd Md mt) → lv_has ls 2 [(0, .ref (aMd 0)), (1, .int x1)] → F_X8_readNumber_107 Md x1 = some Md_ → W p l e RMX8_readNumber s m args below meth c H locs 0 0 (MQ below (zs_Qv G (wX8 G aMd Md_ mt) A) args s 0 0 A) (F0 m 107 ls [.ref (aMd 0)]) := by
    intro Md x1 H locs ls S hl hF
    unfold F_X8_readNumber_107 at hF
    refine lv_iconst (v := (2 : Int32)) hx hb dX8_readNumber_107 (by decide) ?_
    exact j108 Md x1 (2 : Int32) _ _ _ S (lv_sub hl [0, 1] rfl) hF
  have j103 : ∀ (Md : Ob) (x1 : Int32) (H : Heap) (locs : List Loc) (ls : Array Slot), zs_S G A s.heap H locs (wX8 G aMd Md mt) → lv_has ls 2 [(0, .ref (aMd 0)), (1, .int x1)] → F_X8_readNumber_103 Md x1 = some Md_ → W p l e RMX8_readNumber s m args below meth c H locs 0 0 (MQ below (zs_Qv G (wX8 G aMd Md_ mt) A) args s 0 0 A) (F0 m 103 ls [.ref (aMd 0)]) := by
    intro Md x1 H locs ls S hl hF
    unfold F_X8_readNumber_103 at hF
    refine lv_iconst (v := (4 : Int32)) hx hb dX8_readNumber_103 (by decide) ?_
    refine lv_goto (tgt := 108) hx hb dX8_readNumber_104 (by decide) ?_
    exact j108 Md x1 (4 : Int32) _ _ _ S (lv_sub hl [0, 1] rfl) hF
  have j69 : ∀ (Md : Ob) (x1 : Int32) (H : Heap) (locs : List Loc) (ls : Array Slot), zs_S G A s.heap H locs (wX8 G aMd Md mt) → lv_has ls 2 [(0, .ref (aMd 0)), (1, .int x1)] → F_X8_readNumber_69 Md x1 = some Md_ → W p l e RMX8_readNumber s m args below meth c H locs 0 0 (MQ below (zs_Qv G (wX8 G aMd Md_ mt) A) args s 0 0 A) (F0 m 69 ls []) := by
    intro Md x1 H locs ls S hl hF
    unfold F_X8_readNumber_69 at hF
    refine lv_aload_n hx hb dX8_readNumber_69 rfl (lv_at hl 0 rfl) ?_
    refine lv_iload_n hx hb dX8_readNumber_70 rfl (lv_at hl 1 rfl) ?_
    refine lv_bipush (v := (99 : Int32)) hx hb dX8_readNumber_71 (by decide) ?_
    refine lv_icmp_gt (tgt := 103) hx hb dX8_readNumber_73 (by decide) (fun c6 => ?_) (fun c6 => ?_)
    · have hF := zs_t hF c6
      exact j103 Md x1 _ _ _ S (lv_sub hl [0, 1] rfl) hF
    · have hF := zs_f hF c6
      refine lv_aload_n hx hb dX8_readNumber_76 rfl (lv_at hl 0 rfl) ?_
      refine zs_get C hK S 0 2 (Cn := RX8) (T := TX8) (N := 33) (ci := 8) rfl rfl (by decide) zn_X8_readNumber_X8 (List.mem_of_getElem? (i := 1) rfl) rfl dX8_readNumber_77 ?_
      refine lv_aload_n hx hb dX8_readNumber_80 rfl (lv_at hl 0 rfl) ?_
      refine zs_get C hK S 0 3 (Cn := RX8) (T := TX8) (N := 33) (ci := 8) rfl rfl (by decide) zn_X8_readNumber_X8 (List.mem_of_getElem? (i := 4) rfl) rfl dX8_readNumber_81 ?_
      refine lv_isub hx hb dX8_readNumber_84 ?_
      refine lv_iconst (v := (1 : Int32)) hx hb dX8_readNumber_85 (by decide) ?_
      refine lv_icmp_le (tgt := 107) hx hb dX8_readNumber_86 (by decide) (fun c7 => ?_) (fun c7 => ?_)
      · have hF := zs_t hF c7
        exact j107 Md x1 _ _ _ S (lv_sub hl [0, 1] rfl) hF
      · have hF := zs_f hF c7
        refine lv_aload_n hx hb dX8_readNumber_89 rfl (lv_at hl 0 rfl) ?_
        refine zs_get C hK S 0 0 (Cn := RX8) (T := TX8) (N := 33) (ci := 8) rfl rfl (by decide) zn_X8_readNumber_X8 (List.mem_of_getElem? (i := 3) rfl) rfl dX8_readNumber_90 ?_
        refine lv_aload_n hx hb dX8_readNumber_93 rfl (lv_at hl 0 rfl) ?_
        refine zs_get C hK S 0 3 (Cn := RX8) (T := TX8) (N := 33) (ci := 8) rfl rfl (by decide) zn_X8_readNumber_X8 (List.mem_of_getElem? (i := 4) rfl) rfl dX8_readNumber_94 ?_
        obtain ⟨h8, hF⟩ := zs_ckS hF
        refine zs_iald C hK S 1 rfl h8 dX8_readNumber_97 ?_
        refine lv_bipush (v := (48 : Int32)) hx hb dX8_readNumber_98 (by decide) ?_
        refine lv_icmp_ne (tgt := 107) hx hb dX8_readNumber_100 (by decide) (fun c9 => ?_) (fun c9 => ?_)
        · have hF := zs_f hF c9
          exact j107 Md x1 _ _ _ S (lv_sub hl [0, 1] rfl) hF
        · have hF := zs_t hF c9
          exact j103 Md x1 _ _ _ S (lv_sub hl [0, 1] rfl) hF
  have j2 : ∀ (n2 : Nat) (Md : Ob) (x1 : Int32) (H : Heap) (locs : List Loc) (ls : Array Slot), zs_S G A s.heap H locs (wX8 G aMd Md mt) → lv_has ls 2 [(0, .ref (aMd 0)), (1, .int x1)] → F_X8_readNumber_2 n2 Md x1 = some Md_ → W p l e RMX8_readNumber s m args below meth c H locs 0 0 (MQ below (zs_Qv G (wX8 G aMd Md_ mt) A) args s 0 0 A) (F0 m 2 ls []) := by
    intro n2
    induction n2 with
    | zero => intro Md x1 H locs ls _ _ hF; rw [F_X8_readNumber_2_z] at hF; cases hF
    | succ n2 ih2 =>
      have j55 : ∀ (Md : Ob) (y0 : Int32) (H : Heap) (locs : List Loc) (ls : Array Slot), zs_S G A s.heap H locs (wX8 G aMd Md mt) → lv_has ls 2 [(0, .ref (aMd 0))] → F_X8_readNumber_55 (F_X8_readNumber_2 n2) Md y0 = some Md_ → W p l e RMX8_readNumber s m args below meth c H locs 0 0 (MQ below (zs_Qv G (wX8 G aMd Md_ mt) A) args s 0 0 A) (F0 m 55 ls [.int y0]) := by
        intro Md y0 H locs ls S hl hF
        unfold F_X8_readNumber_55 at hF
        refine lv_istore_n (lv' := [(1, .int y0), (0, .ref (aMd 0))]) hx hb dX8_readNumber_55 rfl hl (by decide) rfl (fun ls hl => ?_)
        refine lv_aload_n hx hb dX8_readNumber_56 rfl (lv_at hl 1 rfl) ?_
        refine lv_dup hx hb dX8_readNumber_57 rfl ?_
        refine zs_get C hK S 0 2 (Cn := RX8) (T := TX8) (N := 33) (ci := 8) rfl rfl (by decide) zn_X8_readNumber_X8 (List.mem_of_getElem? (i := 1) rfl) rfl dX8_readNumber_58 ?_
        refine lv_iconst (v := (1 : Int32)) hx hb dX8_readNumber_61 (by decide) ?_
        refine lv_iadd hx hb dX8_readNumber_62 ?_
        obtain ⟨Mdw10, e11⟩ : ∃ q : Ob, q = zs_up Md 0 2 ((Md 0 2) + (1 : Int32)) := ⟨_, rfl⟩
        have hF := zs_letS hF e11
        refine zs_put C hK S 0 2 (ws' := wX8 G aMd Mdw10 mt) (Cn := RX8) (T := TX8) (N := 33) (ci := 8) rfl rfl (by decide) zn_X8_readNumber_X8 tyX8_ok nmX8 (List.mem_of_getElem? (i := 1) rfl) rfl rfl rfl (Nat.le_of_ble_eq_true rfl) (by rw [e11]; rfl) dX8_readNumber_63 (fun H locs S => ?_)
        refine lv_goto (tgt := 2) hx hb dX8_readNumber_66 (by decide) ?_
        exact ih2 Mdw10 y0 _ _ _ S (lv_sub hl [1, 0] rfl) hF
      intro Md x1 H locs ls S hl hF
      rw [F_X8_readNumber_2_n] at hF
      unfold F_X8_readNumber_2_s at hF
      refine lv_aload_n hx hb dX8_readNumber_2 rfl (lv_at hl 0 rfl) ?_
      refine zs_get C hK S 0 2 (Cn := RX8) (T := TX8) (N := 33) (ci := 8) rfl rfl (by decide) zn_X8_readNumber_X8 (List.mem_of_getElem? (i := 1) rfl) rfl dX8_readNumber_3 ?_
      refine lv_aload_n hx hb dX8_readNumber_6 rfl (lv_at hl 0 rfl) ?_
      refine zs_get C hK S 0 1 (Cn := RX8) (T := TX8) (N := 33) (ci := 8) rfl rfl (by decide) zn_X8_readNumber_X8 (List.mem_of_getElem? (i := 2) rfl) rfl dX8_readNumber_7 ?_
      refine lv_icmp_ge (tgt := 69) hx hb dX8_readNumber_10 (by decide) (fun c12 => ?_) (fun c12 => ?_)
      · have hF := zs_t hF c12
        exact j69 Md x1 _ _ _ S (lv_sub hl [0, 1] rfl) hF
      · have hF := zs_f hF c12
        refine lv_aload_n hx hb dX8_readNumber_13 rfl (lv_at hl 0 rfl) ?_
        refine zs_get C hK S 0 0 (Cn := RX8) (T := TX8) (N := 33) (ci := 8) rfl rfl (by decide) zn_X8_readNumber_X8 (List.mem_of_getElem? (i := 3) rfl) rfl dX8_readNumber_14 ?_
        refine lv_aload_n hx hb dX8_readNumber_17 rfl (lv_at hl 0 rfl) ?_
        refine zs_get C hK S 0 2 (Cn := RX8) (T := TX8) (N := 33) (ci := 8) rfl rfl (by decide) zn_X8_readNumber_X8 (List.mem_of_getElem? (i := 1) rfl) rfl dX8_readNumber_18 ?_
        obtain ⟨h13, hF⟩ := zs_ckS hF
        refine zs_iald C hK S 1 rfl h13 dX8_readNumber_21 ?_
        obtain ⟨r14, f15, hF⟩ := zs_bdS hF
        refine zs_calliP S hA (zs_runS C hK hA S [.int (Md 1 ((Md 0 2)).toNatClampNeg)] [] [] 1 (c_X8_isFigure l G ((Md 1 ((Md 0 2)).toNatClampNeg)) H.size r14 f15) gX8_readNumber_X8_isFigure rfl rfl rfl zd_X8_isFigure ⟨Nat.le_of_ble_eq_true rfl, Nat.le_of_ble_eq_true rfl⟩ rfl rfl rfl hl rfl (Nat.le_of_ble_eq_true rfl) dX8_readNumber_22 ⟨Nat.le_of_ble_eq_true rfl, Nat.le_of_ble_eq_true rfl⟩) (fun H locs S => ?_)
        refine lv_if_eq (tgt := 69) hx hb dX8_readNumber_25 (by decide) (fun c16 => ?_) (fun c16 => ?_)
        · have hF := zs_t hF c16
          exact j69 Md x1 _ _ _ S (lv_sub hl [0, 1] rfl) hF
        · have hF := zs_f hF c16
          refine lv_iload_n hx hb dX8_readNumber_28 rfl (lv_at hl 1 rfl) ?_
          refine lv_bipush (v := (99 : Int32)) hx hb dX8_readNumber_29 (by decide) ?_
          refine lv_icmp_le (tgt := 38) hx hb dX8_readNumber_31 (by decide) (fun c17 => ?_) (fun c17 => ?_)
          · have hF := zs_t hF c17
            refine lv_bipush (v := (10 : Int32)) hx hb dX8_readNumber_38 (by decide) ?_
            refine lv_iload_n hx hb dX8_readNumber_40 rfl (lv_at hl 1 rfl) ?_
            refine lv_imul hx hb dX8_readNumber_41 ?_
            refine lv_aload_n hx hb dX8_readNumber_42 rfl (lv_at hl 0 rfl) ?_
            refine zs_get C hK S 0 0 (Cn := RX8) (T := TX8) (N := 33) (ci := 8) rfl rfl (by decide) zn_X8_readNumber_X8 (List.mem_of_getElem? (i := 3) rfl) rfl dX8_readNumber_43 ?_
            refine lv_aload_n hx hb dX8_readNumber_46 rfl (lv_at hl 0 rfl) ?_
            refine zs_get C hK S 0 2 (Cn := RX8) (T := TX8) (N := 33) (ci := 8) rfl rfl (by decide) zn_X8_readNumber_X8 (List.mem_of_getElem? (i := 1) rfl) rfl dX8_readNumber_47 ?_
            obtain ⟨h18, hF⟩ := zs_ckS hF
            refine zs_iald C hK S 1 rfl h18 dX8_readNumber_50 ?_
            refine lv_iadd hx hb dX8_readNumber_51 ?_
            refine lv_bipush (v := (48 : Int32)) hx hb dX8_readNumber_52 (by decide) ?_
            refine lv_isub hx hb dX8_readNumber_54 ?_
            exact j55 Md ((((10 : Int32) * x1) + (Md 1 ((Md 0 2)).toNatClampNeg)) - (48 : Int32)) _ _ _ S (lv_sub hl [0] rfl) hF
          · have hF := zs_f hF c17
            refine lv_iload_n hx hb dX8_readNumber_34 rfl (lv_at hl 1 rfl) ?_
            refine lv_goto (tgt := 55) hx hb dX8_readNumber_35 (by decide) ?_
            exact j55 Md x1 _ _ _ S (lv_sub hl [0] rfl) hF
  refine lv_iconst (v := (0 : Int32)) hx hb dX8_readNumber_0 (by decide) ?_
  refine lv_istore_n (lv' := [(1, .int (0 : Int32)), (0, .ref (aMd 0))]) hx hb dX8_readNumber_1 rfl hl (by decide) rfl (fun ls hl => ?_)
  exact j2 1000 Md (0 : Int32) _ _ _ S (lv_sub hl [1, 0] rfl) hF

theorem zd_X8_readNumber : yX8_readNumber.cls = RX8 ∧ yX8_readNumber.cls ≠ "java/lang/invoke/MethodHandle" ∧ yX8_readNumber.cls ≠ "java/lang/invoke/VarHandle" ∧ (parseMethodDescriptor yX8_readNumber.desc).map (fun d => d.parameters.length) = some 0 := by decide +kernel
theorem zd_X8_readWord : yX8_readWord.cls = RX8 ∧ yX8_readWord.cls ≠ "java/lang/invoke/MethodHandle" ∧ yX8_readWord.cls ≠ "java/lang/invoke/VarHandle" ∧ (parseMethodDescriptor yX8_readWord.desc).map (fun d => d.parameters.length) = some 0 := by decide +kernel
abbrev RMX8_reads : Room := { frames := 3, cells := 0, slots := 0, locals := 67 }
theorem zn_X8_reads_X8 : ∀ w ∈ wsX80, w ∈ wsX8_reads := zs_inl wsX80 [35, 36, 37, 38, 39, 40, 41, 42, 43, 44, 45, 46, 47, 48, 49, 50, 51, 52, 53, 54, 55, 56, 57, 58, 59, 60, 61, 62, 63, 64, 65, 66, 67] (by decide +kernel)
set_option maxRecDepth 100000 in
set_option maxHeartbeats 4000000 in
theorem c_X8_reads (l : Launch) (G : GG) (aMd : Ad) (Md : Ob) (mt : Int64) (sz : Nat) (Md_ : Ob) (hF : F_X8_reads Md = some Md_) : Met l yX8_reads wsX8_reads RMX8_reads (va_Pc [.ref (aMd 0)] (zs_pre G (wX8 G aMd Md mt) sz)) (zs_Qv G (wX8 G aMd Md_ mt) (va_A (wX8 G aMd Md mt) sz)) 0 0 (va_A (wX8 G aMd Md mt) sz) := by
  refine zs_met (cc := cX8_reads) (maxL := 1) (ret := none) (own := RX8) (Qc := zs_Qv G (wX8 G aMd Md_ mt)) (by decide) rfl rfl (Nat.le_of_ble_eq_true rfl) ?_
  intro p e s m args below meth c C A hK hA S _ _ ls hl
  have hl : lv_has ls 1 [(0, .ref (aMd 0))] := hl
  have hx := C.1.1
  have hb := C.1.2.1
  unfold F_X8_reads at hF
  have j150 : ∀ (Md : Ob) (y0 : Int32) (y1 : Int32) (H : Heap) (locs : List Loc) (ls : Array Slot), zs_S G A s.heap H locs (wX8 G aMd Md mt) → lv_has ls 1 [] → F_X8_reads_150 Md y0 y1 = some Md_ → W p l e RMX8_reads s m args below meth c H locs 0 0 (MQ below (zs_Qv G (wX8 G aMd Md_ mt) A) args s 0 0 A) (F0 m 150 ls [.int y0, .int y1, .ref (aMd 0)]) := by
    intro Md y0 y1 H locs ls S hl hF
    unfold F_X8_reads_150 at hF
    refine lv_iadd hx hb dX8_reads_150 ?_
    obtain ⟨Mdw1, e2⟩ : ∃ q : Ob, q = zs_up Md 0 2 (y1 + y0) := ⟨_, rfl⟩
    have hF := zs_letS hF e2
    refine zs_put C hK S 0 2 (ws' := wX8 G aMd Mdw1 mt) (Cn := RX8) (T := TX8) (N := 33) (ci := 8) rfl rfl (by decide) zn_X8_reads_X8 tyX8_ok nmX8 (List.mem_of_getElem? (i := 1) rfl) rfl rfl rfl (Nat.le_of_ble_eq_true rfl) (by rw [e2]; rfl) dX8_reads_151 (fun H locs S => ?_)
    have e3 := zs_s1 hF
    exact zs_vretE C S (by rw [e3]) dX8_reads_154
  have j129 : ∀ (Md : Ob) (y0 : Int32) (H : Heap) (locs : List Loc) (ls : Array Slot), zs_S G A s.heap H locs (wX8 G aMd Md mt) → lv_has ls 1 [(0, .ref (aMd 0))] → F_X8_reads_129 Md y0 = some Md_ → W p l e RMX8_reads s m args below meth c H locs 0 0 (MQ below (zs_Qv G (wX8 G aMd Md_ mt) A) args s 0 0 A) (F0 m 129 ls [.int y0, .ref (aMd 0)]) := by
    intro Md y0 H locs ls S hl hF
    unfold F_X8_reads_129 at hF
    obtain ⟨Mdw4, e5⟩ : ∃ q : Ob, q = zs_up Md 0 4 y0 := ⟨_, rfl⟩
    have hF := zs_letS hF e5
    refine zs_put C hK S 0 4 (ws' := wX8 G aMd Mdw4 mt) (Cn := RX8) (T := TX8) (N := 33) (ci := 8) rfl rfl (by decide) zn_X8_reads_X8 tyX8_ok nmX8 (List.mem_of_getElem? (i := 5) rfl) rfl rfl rfl (Nat.le_of_ble_eq_true rfl) (by rw [e5]; rfl) dX8_reads_129 (fun H locs S => ?_)
    refine lv_aload_n hx hb dX8_reads_132 rfl (lv_at hl 0 rfl) ?_
    refine lv_dup hx hb dX8_reads_133 rfl ?_
    refine zs_get C hK S 0 2 (Cn := RX8) (T := TX8) (N := 33) (ci := 8) rfl rfl (by decide) zn_X8_reads_X8 (List.mem_of_getElem? (i := 1) rfl) rfl dX8_reads_134 ?_
    refine lv_aload_n hx hb dX8_reads_137 rfl (lv_at hl 0 rfl) ?_
    refine zs_get C hK S 0 4 (Cn := RX8) (T := TX8) (N := 33) (ci := 8) rfl rfl (by decide) zn_X8_reads_X8 (List.mem_of_getElem? (i := 5) rfl) rfl dX8_reads_138 ?_
    refine lv_iconst (v := (3 : Int32)) hx hb dX8_reads_141 (by decide) ?_
    refine lv_icmp_ne (tgt := 149) hx hb dX8_reads_142 (by decide) (fun c6 => ?_) (fun c6 => ?_)
    · have hF := zs_f hF c6
      refine lv_iconst (v := (0 : Int32)) hx hb dX8_reads_149 (by decide) ?_
      exact j150 Mdw4 (0 : Int32) (Mdw4 0 2) _ _ _ S (lv_sub hl [] rfl) hF
    · have hF := zs_t hF c6
      refine lv_iconst (v := (1 : Int32)) hx hb dX8_reads_145 (by decide) ?_
      refine lv_goto (tgt := 150) hx hb dX8_reads_146 (by decide) ?_
      exact j150 Mdw4 (1 : Int32) (Mdw4 0 2) _ _ _ S (lv_sub hl [] rfl) hF
  have j38 : ∀ (Md : Ob) (H : Heap) (locs : List Loc) (ls : Array Slot), zs_S G A s.heap H locs (wX8 G aMd Md mt) → lv_has ls 1 [(0, .ref (aMd 0))] → F_X8_reads_38 Md = some Md_ → W p l e RMX8_reads s m args below meth c H locs 0 0 (MQ below (zs_Qv G (wX8 G aMd Md_ mt) A) args s 0 0 A) (F0 m 38 ls []) := by
    intro Md H locs ls S hl hF
    unfold F_X8_reads_38 at hF
    refine lv_aload_n hx hb dX8_reads_38 rfl (lv_at hl 0 rfl) ?_
    refine lv_aload_n hx hb dX8_reads_39 rfl (lv_at hl 0 rfl) ?_
    refine zs_get C hK S 0 2 (Cn := RX8) (T := TX8) (N := 33) (ci := 8) rfl rfl (by decide) zn_X8_reads_X8 (List.mem_of_getElem? (i := 1) rfl) rfl dX8_reads_40 ?_
    obtain ⟨Mdw7, e8⟩ : ∃ q : Ob, q = zs_up Md 0 3 (Md 0 2) := ⟨_, rfl⟩
    have hF := zs_letS hF e8
    refine zs_put C hK S 0 3 (ws' := wX8 G aMd Mdw7 mt) (Cn := RX8) (T := TX8) (N := 33) (ci := 8) rfl rfl (by decide) zn_X8_reads_X8 tyX8_ok nmX8 (List.mem_of_getElem? (i := 4) rfl) rfl rfl rfl (Nat.le_of_ble_eq_true rfl) (by rw [e8]; rfl) dX8_reads_43 (fun H locs S => ?_)
    refine lv_aload_n hx hb dX8_reads_46 rfl (lv_at hl 0 rfl) ?_
    refine zs_get C hK S 0 2 (Cn := RX8) (T := TX8) (N := 33) (ci := 8) rfl rfl (by decide) zn_X8_reads_X8 (List.mem_of_getElem? (i := 1) rfl) rfl dX8_reads_47 ?_
    refine lv_aload_n hx hb dX8_reads_50 rfl (lv_at hl 0 rfl) ?_
    refine zs_get C hK S 0 1 (Cn := RX8) (T := TX8) (N := 33) (ci := 8) rfl rfl (by decide) zn_X8_reads_X8 (List.mem_of_getElem? (i := 2) rfl) rfl dX8_reads_51 ?_
    refine lv_icmp_ne (tgt := 65) hx hb dX8_reads_54 (by decide) (fun c9 => ?_) (fun c9 => ?_)
    · have hF := zs_f hF c9
      refine lv_aload_n hx hb dX8_reads_65 rfl (lv_at hl 0 rfl) ?_
      refine zs_get C hK S 0 0 (Cn := RX8) (T := TX8) (N := 33) (ci := 8) rfl rfl (by decide) zn_X8_reads_X8 (List.mem_of_getElem? (i := 3) rfl) rfl dX8_reads_66 ?_
      refine lv_aload_n hx hb dX8_reads_69 rfl (lv_at hl 0 rfl) ?_
      refine zs_get C hK S 0 2 (Cn := RX8) (T := TX8) (N := 33) (ci := 8) rfl rfl (by decide) zn_X8_reads_X8 (List.mem_of_getElem? (i := 1) rfl) rfl dX8_reads_70 ?_
      obtain ⟨h10, hF⟩ := zs_ckS hF
      refine zs_iald C hK S 1 rfl h10 dX8_reads_73 ?_
      obtain ⟨r11, f12, hF⟩ := zs_bdS hF
      refine zs_calliP S hA (zs_runS C hK hA S [.int (Mdw7 1 ((Mdw7 0 2)).toNatClampNeg)] [] [] 1 (c_X8_isLetter l G ((Mdw7 1 ((Mdw7 0 2)).toNatClampNeg)) H.size r11 f12) gX8_reads_X8_isLetter rfl rfl rfl zd_X8_isLetter ⟨Nat.le_of_ble_eq_true rfl, Nat.le_of_ble_eq_true rfl⟩ rfl rfl rfl hl rfl (Nat.le_of_ble_eq_true rfl) dX8_reads_74 ⟨Nat.le_of_ble_eq_true rfl, Nat.le_of_ble_eq_true rfl⟩) (fun H locs S => ?_)
      refine lv_if_eq (tgt := 87) hx hb dX8_reads_77 (by decide) (fun c13 => ?_) (fun c13 => ?_)
      · have hF := zs_t hF c13
        refine lv_aload_n hx hb dX8_reads_87 rfl (lv_at hl 0 rfl) ?_
        refine zs_get C hK S 0 0 (Cn := RX8) (T := TX8) (N := 33) (ci := 8) rfl rfl (by decide) zn_X8_reads_X8 (List.mem_of_getElem? (i := 3) rfl) rfl dX8_reads_88 ?_
        refine lv_aload_n hx hb dX8_reads_91 rfl (lv_at hl 0 rfl) ?_
        refine zs_get C hK S 0 2 (Cn := RX8) (T := TX8) (N := 33) (ci := 8) rfl rfl (by decide) zn_X8_reads_X8 (List.mem_of_getElem? (i := 1) rfl) rfl dX8_reads_92 ?_
        obtain ⟨h14, hF⟩ := zs_ckS hF
        refine zs_iald C hK S 1 rfl h14 dX8_reads_95 ?_
        obtain ⟨r15, f16, hF⟩ := zs_bdS hF
        refine zs_calliP S hA (zs_runS C hK hA S [.int (Mdw7 1 ((Mdw7 0 2)).toNatClampNeg)] [] [] 1 (c_X8_isFigure l G ((Mdw7 1 ((Mdw7 0 2)).toNatClampNeg)) H.size r15 f16) gX8_reads_X8_isFigure rfl rfl rfl zd_X8_isFigure ⟨Nat.le_of_ble_eq_true rfl, Nat.le_of_ble_eq_true rfl⟩ rfl rfl rfl hl rfl (Nat.le_of_ble_eq_true rfl) dX8_reads_96 ⟨Nat.le_of_ble_eq_true rfl, Nat.le_of_ble_eq_true rfl⟩) (fun H locs S => ?_)
        refine lv_if_eq (tgt := 109) hx hb dX8_reads_99 (by decide) (fun c17 => ?_) (fun c17 => ?_)
        · have hF := zs_t hF c17
          refine lv_aload_n hx hb dX8_reads_109 rfl (lv_at hl 0 rfl) ?_
          refine lv_aload_n hx hb dX8_reads_110 rfl (lv_at hl 0 rfl) ?_
          refine zs_get C hK S 0 0 (Cn := RX8) (T := TX8) (N := 33) (ci := 8) rfl rfl (by decide) zn_X8_reads_X8 (List.mem_of_getElem? (i := 3) rfl) rfl dX8_reads_111 ?_
          refine lv_aload_n hx hb dX8_reads_114 rfl (lv_at hl 0 rfl) ?_
          refine zs_get C hK S 0 2 (Cn := RX8) (T := TX8) (N := 33) (ci := 8) rfl rfl (by decide) zn_X8_reads_X8 (List.mem_of_getElem? (i := 1) rfl) rfl dX8_reads_115 ?_
          obtain ⟨h18, hF⟩ := zs_ckS hF
          refine zs_iald C hK S 1 rfl h18 dX8_reads_118 ?_
          refine lv_bipush (v := (59 : Int32)) hx hb dX8_reads_119 (by decide) ?_
          refine lv_icmp_ne (tgt := 128) hx hb dX8_reads_121 (by decide) (fun c19 => ?_) (fun c19 => ?_)
          · have hF := zs_f hF c19
            refine lv_iconst (v := (4 : Int32)) hx hb dX8_reads_128 (by decide) ?_
            exact j129 Mdw7 (4 : Int32) _ _ _ S (lv_sub hl [0] rfl) hF
          · have hF := zs_t hF c19
            refine lv_iconst (v := (3 : Int32)) hx hb dX8_reads_124 (by decide) ?_
            refine lv_goto (tgt := 129) hx hb dX8_reads_125 (by decide) ?_
            exact j129 Mdw7 (3 : Int32) _ _ _ S (lv_sub hl [0] rfl) hF
        · have hF := zs_f hF c17
          refine lv_aload_n hx hb dX8_reads_102 rfl (lv_at hl 0 rfl) ?_
          obtain ⟨Mdw20, f21, hF⟩ := zs_bdS hF
          refine zs_callv (wr := ([] : va_W)) (ws' := wX8 G aMd Mdw20 mt) S hA [0, 1, 2, 3, 4, 5, 6, 7, 8, 9, 10, 11, 12, 13, 14, 15, 16, 17] [] [0, 1, 2, 3, 4, 5, 6, 7, 8, 9, 10, 11, 12, 13, 14, 15, 16, 17] (zs_runV C hK hA S [] [] [0, 1, 2, 3, 4, 5, 6, 7, 8, 9, 10, 11, 12, 13, 14, 15, 16, 17] 0 0 (c_X8_readNumber l G aMd Mdw7 mt H.size Mdw20 f21) gX8_reads_X8_readNumber rfl rfl rfl zd_X8_readNumber ⟨Nat.le_of_ble_eq_true rfl, Nat.le_of_ble_eq_true rfl⟩ rfl rfl rfl rfl rfl hl rfl (Nat.le_of_ble_eq_true rfl) dX8_reads_103 ⟨Nat.le_of_ble_eq_true rfl, Nat.le_of_ble_eq_true rfl⟩) rfl rfl rfl (by decide) rfl rfl (fun H locs S => ?_)
          refine lv_goto (tgt := 154) hx hb dX8_reads_106 (by decide) ?_
          have e22 := zs_s1 hF
          exact zs_vretE C S (by rw [e22]) dX8_reads_154
      · have hF := zs_f hF c13
        refine lv_aload_n hx hb dX8_reads_80 rfl (lv_at hl 0 rfl) ?_
        obtain ⟨Mdw23, f24, hF⟩ := zs_bdS hF
        refine zs_callv (wr := ([] : va_W)) (ws' := wX8 G aMd Mdw23 mt) S hA [0, 1, 2, 3, 4, 5, 6, 7, 8, 9, 10, 11, 12, 13, 14, 15, 16, 17] [] [0, 1, 2, 3, 4, 5, 6, 7, 8, 9, 10, 11, 12, 13, 14, 15, 16, 17] (zs_runV C hK hA S [] [] [0, 1, 2, 3, 4, 5, 6, 7, 8, 9, 10, 11, 12, 13, 14, 15, 16, 17] 0 0 (c_X8_readWord l G aMd Mdw7 mt H.size Mdw23 f24) gX8_reads_X8_readWord rfl rfl rfl zd_X8_readWord ⟨Nat.le_of_ble_eq_true rfl, Nat.le_of_ble_eq_true rfl⟩ rfl rfl rfl rfl rfl hl rfl (Nat.le_of_ble_eq_true rfl) dX8_reads_81 ⟨Nat.le_of_ble_eq_true rfl, Nat.le_of_ble_eq_true rfl⟩) rfl rfl rfl (by decide) rfl rfl (fun H locs S => ?_)
        refine lv_goto (tgt := 154) hx hb dX8_reads_84 (by decide) ?_
        have e25 := zs_s1 hF
        exact zs_vretE C S (by rw [e25]) dX8_reads_154
    · have hF := zs_t hF c9
      refine lv_aload_n hx hb dX8_reads_57 rfl (lv_at hl 0 rfl) ?_
      refine lv_iconst (v := (0 : Int32)) hx hb dX8_reads_58 (by decide) ?_
      obtain ⟨Mdw26, e27⟩ : ∃ q : Ob, q = zs_up Mdw7 0 4 (0 : Int32) := ⟨_, rfl⟩
      have hF := zs_letS hF e27
      refine zs_put C hK S 0 4 (ws' := wX8 G aMd Mdw26 mt) (Cn := RX8) (T := TX8) (N := 33) (ci := 8) rfl rfl (by decide) zn_X8_reads_X8 tyX8_ok nmX8 (List.mem_of_getElem? (i := 5) rfl) rfl rfl rfl (Nat.le_of_ble_eq_true rfl) (by rw [e27]; rfl) dX8_reads_59 (fun H locs S => ?_)
      refine lv_goto (tgt := 154) hx hb dX8_reads_62 (by decide) ?_
      have e28 := zs_s1 hF
      exact zs_vretE C S (by rw [e28]) dX8_reads_154
  have j0 : ∀ (n0 : Nat) (Md : Ob) (H : Heap) (locs : List Loc) (ls : Array Slot), zs_S G A s.heap H locs (wX8 G aMd Md mt) → lv_has ls 1 [(0, .ref (aMd 0))] → F_X8_reads_0 n0 Md = some Md_ → W p l e RMX8_reads s m args below meth c H locs 0 0 (MQ below (zs_Qv G (wX8 G aMd Md_ mt) A) args s 0 0 A) (F0 m 0 ls []) := by
    intro n0
    induction n0 with
    | zero => intro Md H locs ls _ _ hF; rw [F_X8_reads_0_z] at hF; cases hF
    | succ n0 ih0 =>
      intro Md H locs ls S hl hF
      rw [F_X8_reads_0_n] at hF
      unfold F_X8_reads_0_s at hF
      refine lv_aload_n hx hb dX8_reads_0 rfl (lv_at hl 0 rfl) ?_
      refine zs_get C hK S 0 2 (Cn := RX8) (T := TX8) (N := 33) (ci := 8) rfl rfl (by decide) zn_X8_reads_X8 (List.mem_of_getElem? (i := 1) rfl) rfl dX8_reads_1 ?_
      refine lv_aload_n hx hb dX8_reads_4 rfl (lv_at hl 0 rfl) ?_
      refine zs_get C hK S 0 1 (Cn := RX8) (T := TX8) (N := 33) (ci := 8) rfl rfl (by decide) zn_X8_reads_X8 (List.mem_of_getElem? (i := 2) rfl) rfl dX8_reads_5 ?_
      refine lv_icmp_ge (tgt := 38) hx hb dX8_reads_8 (by decide) (fun c29 => ?_) (fun c29 => ?_)
      · have hF := zs_t hF c29
        exact j38 Md _ _ _ S (lv_sub hl [0] rfl) hF
      · have hF := zs_f hF c29
        refine lv_aload_n hx hb dX8_reads_11 rfl (lv_at hl 0 rfl) ?_
        refine zs_get C hK S 0 0 (Cn := RX8) (T := TX8) (N := 33) (ci := 8) rfl rfl (by decide) zn_X8_reads_X8 (List.mem_of_getElem? (i := 3) rfl) rfl dX8_reads_12 ?_
        refine lv_aload_n hx hb dX8_reads_15 rfl (lv_at hl 0 rfl) ?_
        refine zs_get C hK S 0 2 (Cn := RX8) (T := TX8) (N := 33) (ci := 8) rfl rfl (by decide) zn_X8_reads_X8 (List.mem_of_getElem? (i := 1) rfl) rfl dX8_reads_16 ?_
        obtain ⟨h30, hF⟩ := zs_ckS hF
        refine zs_iald C hK S 1 rfl h30 dX8_reads_19 ?_
        refine lv_bipush (v := (32 : Int32)) hx hb dX8_reads_20 (by decide) ?_
        refine lv_icmp_ne (tgt := 38) hx hb dX8_reads_22 (by decide) (fun c31 => ?_) (fun c31 => ?_)
        · have hF := zs_f hF c31
          exact j38 Md _ _ _ S (lv_sub hl [0] rfl) hF
        · have hF := zs_t hF c31
          refine lv_aload_n hx hb dX8_reads_25 rfl (lv_at hl 0 rfl) ?_
          refine lv_dup hx hb dX8_reads_26 rfl ?_
          refine zs_get C hK S 0 2 (Cn := RX8) (T := TX8) (N := 33) (ci := 8) rfl rfl (by decide) zn_X8_reads_X8 (List.mem_of_getElem? (i := 1) rfl) rfl dX8_reads_27 ?_
          refine lv_iconst (v := (1 : Int32)) hx hb dX8_reads_30 (by decide) ?_
          refine lv_iadd hx hb dX8_reads_31 ?_
          obtain ⟨Mdw32, e33⟩ : ∃ q : Ob, q = zs_up Md 0 2 ((Md 0 2) + (1 : Int32)) := ⟨_, rfl⟩
          have hF := zs_letS hF e33
          refine zs_put C hK S 0 2 (ws' := wX8 G aMd Mdw32 mt) (Cn := RX8) (T := TX8) (N := 33) (ci := 8) rfl rfl (by decide) zn_X8_reads_X8 tyX8_ok nmX8 (List.mem_of_getElem? (i := 1) rfl) rfl rfl rfl (Nat.le_of_ble_eq_true rfl) (by rw [e33]; rfl) dX8_reads_32 (fun H locs S => ?_)
          refine lv_goto (tgt := 0) hx hb dX8_reads_35 (by decide) ?_
          exact ih0 Mdw32 _ _ _ S (lv_sub hl [0] rfl) hF
  exact j0 1000 Md _ _ _ S (lv_sub hl [0] rfl) hF

theorem zd_X8_reads : yX8_reads.cls = RX8 ∧ yX8_reads.cls ≠ "java/lang/invoke/MethodHandle" ∧ yX8_reads.cls ≠ "java/lang/invoke/VarHandle" ∧ (parseMethodDescriptor yX8_reads.desc).map (fun d => d.parameters.length) = some 0 := by decide +kernel
abbrev RMX8_number : Room := { frames := 4, cells := 0, slots := 0, locals := 87 }
theorem zn_X8_number_X8 : ∀ w ∈ wsX80, w ∈ wsX8_number := zs_inl wsX80 [39, 40, 41, 42, 43, 44, 45, 46, 47, 48, 49, 50, 51, 52, 53, 54, 55, 56, 57, 58, 59, 60, 61, 62, 63, 64, 65, 66, 67, 68, 69, 70, 71] (by decide +kernel)
set_option maxRecDepth 100000 in
set_option maxHeartbeats 4000000 in
theorem c_X8_number (l : Launch) (G : GG) (aMd : Ad) (Md : Ob) (mt : Int64) (u1 : Int32) (u2 : Int32) (sz : Nat) (rr : Int32) (Md_ : Ob) (hF : F_X8_number Md u1 u2 = some (rr, Md_)) : Met l yX8_number wsX8_number RMX8_number (va_Pc [.ref (aMd 0), .int u1, .int u2] (zs_pre G (wX8 G aMd Md mt) sz)) (zs_Qi G (wX8 G aMd Md_ mt) rr (va_A (wX8 G aMd Md mt) sz)) 0 0 (va_A (wX8 G aMd Md mt) sz) := by
  refine zs_met (cc := cX8_number) (maxL := 3) (ret := (some .int)) (own := RX8) (Qc := zs_Qi G (wX8 G aMd Md_ mt) rr) (by decide) rfl rfl (Nat.le_of_ble_eq_true rfl) ?_
  intro p e s m args below meth c C A hK hA S _ _ ls hl
  have hl : lv_has ls 3 [(0, .ref (aMd 0)), (1, .int u1), (2, .int u2)] := hl
  have hx := C.1.1
  have hb := C.1.2.1
  unfold F_X8_number at hF
  refine lv_aload_n hx hb dX8_number_0 rfl (lv_at hl 0 rfl) ?_
  obtain ⟨Mdw1, f2, hF⟩ := zs_bdS hF
  refine zs_callv (wr := ([] : va_W)) (ws' := wX8 G aMd Mdw1 mt) S hA [0, 1, 2, 3, 4, 5, 6, 7, 8, 9, 10, 11, 12, 13, 14, 15, 16, 17] [] [0, 1, 2, 3, 4, 5, 6, 7, 8, 9, 10, 11, 12, 13, 14, 15, 16, 17] (zs_runV C hK hA S [] [] [0, 1, 2, 3, 4, 5, 6, 7, 8, 9, 10, 11, 12, 13, 14, 15, 16, 17] 0 0 (c_X8_reads l G aMd Md mt s.heap.size Mdw1 f2) gX8_number_X8_reads rfl rfl rfl zd_X8_reads ⟨Nat.le_of_ble_eq_true rfl, Nat.le_of_ble_eq_true rfl⟩ rfl rfl rfl rfl rfl hl rfl (Nat.le_of_ble_eq_true rfl) dX8_number_1 ⟨Nat.le_of_ble_eq_true rfl, Nat.le_of_ble_eq_true rfl⟩) rfl rfl rfl (by decide) rfl rfl (fun H locs S => ?_)
  refine lv_aload_n hx hb dX8_number_4 rfl (lv_at hl 0 rfl) ?_
  refine zs_get C hK S 0 4 (Cn := RX8) (T := TX8) (N := 33) (ci := 8) rfl rfl (by decide) zn_X8_number_X8 (List.mem_of_getElem? (i := 1) rfl) rfl dX8_number_5 ?_
  refine lv_iconst (v := (2 : Int32)) hx hb dX8_number_8 (by decide) ?_
  refine lv_icmp_ne (tgt := 34) hx hb dX8_number_9 (by decide) (fun c3 => ?_) (fun c3 => ?_)
  · have hF := zs_f hF c3
    refine lv_iconst (v := (-1 : Int32)) hx hb dX8_number_34 (by decide) ?_
    obtain ⟨e4, e5⟩ := zs_s2 hF
    exact zs_iretE C S e4 (by rw [e5]) dX8_number_35
  · have hF := zs_t hF c3
    refine lv_aload_n hx hb dX8_number_12 rfl (lv_at hl 0 rfl) ?_
    refine zs_get C hK S 0 5 (Cn := RX8) (T := TX8) (N := 33) (ci := 8) rfl rfl (by decide) zn_X8_number_X8 (List.mem_of_getElem? (i := 2) rfl) rfl dX8_number_13 ?_
    refine lv_i2l (v := (((Mdw1 0 5)).toInt64)) hx hb dX8_number_16 rfl ?_
    refine lv_iload_n hx hb dX8_number_17 rfl (lv_at hl 1 rfl) ?_
    refine lv_i2l (v := ((u1).toInt64)) hx hb dX8_number_18 rfl ?_
    refine lv_iload_n hx hb dX8_number_19 rfl (lv_at hl 2 rfl) ?_
    refine lv_i2l (v := ((u2).toInt64)) hx hb dX8_number_20 rfl ?_
    obtain ⟨r6, f7, hF⟩ := zs_bdS hF
    refine zs_calliP S hA (zs_runS C hK hA S [.long (((Mdw1 0 5)).toInt64), .long ((u1).toInt64), .long ((u2).toInt64)] [] [] 3 (c_X8_in l G ((((Mdw1 0 5)).toInt64)) (((u1).toInt64)) (((u2).toInt64)) H.size r6 f7) gX8_number_X8_in rfl rfl rfl zd_X8_in ⟨Nat.le_of_ble_eq_true rfl, Nat.le_of_ble_eq_true rfl⟩ rfl rfl rfl hl rfl (Nat.le_of_ble_eq_true rfl) dX8_number_21 ⟨Nat.le_of_ble_eq_true rfl, Nat.le_of_ble_eq_true rfl⟩) (fun H locs S => ?_)
    refine lv_if_eq (tgt := 34) hx hb dX8_number_24 (by decide) (fun c8 => ?_) (fun c8 => ?_)
    · have hF := zs_t hF c8
      refine lv_iconst (v := (-1 : Int32)) hx hb dX8_number_34 (by decide) ?_
      obtain ⟨e9, e10⟩ := zs_s2 hF
      exact zs_iretE C S e9 (by rw [e10]) dX8_number_35
    · have hF := zs_f hF c8
      refine lv_aload_n hx hb dX8_number_27 rfl (lv_at hl 0 rfl) ?_
      refine zs_get C hK S 0 5 (Cn := RX8) (T := TX8) (N := 33) (ci := 8) rfl rfl (by decide) zn_X8_number_X8 (List.mem_of_getElem? (i := 2) rfl) rfl dX8_number_28 ?_
      refine lv_goto (tgt := 35) hx hb dX8_number_31 (by decide) ?_
      obtain ⟨e11, e12⟩ := zs_s2 hF
      exact zs_iretE C S e11 (by rw [e12]) dX8_number_35

abbrev RMX8_seen_parts : Room := { frames := 0, cells := 0, slots := 0, locals := 0 }
set_option maxRecDepth 100000 in
set_option maxHeartbeats 4000000 in
theorem c_X8_seen_parts (l : Launch) (G : GG) (aMd : Ad) (Md : Ob) (mt : Int64) (u2 : Int32) (sz : Nat) (rr : Int32) (hF : F_X8_seen_parts Md u2 = some rr) : Met l yX8_seen wsX8_seen RMX8_seen_parts (va_Pc [.ref (aMd 0), .ref (aMd 8), .int u2] (zs_pre G (wX8 G aMd Md mt) sz)) (zs_Qi G (wX8 G aMd Md mt) rr (va_A (wX8 G aMd Md mt) sz)) 0 0 (va_A (wX8 G aMd Md mt) sz) := by
  refine zs_met (cc := cX8_seen) (maxL := 5) (ret := (some .int)) (own := RX8) (Qc := zs_Qi G (wX8 G aMd Md mt) rr) (by decide) rfl rfl (Nat.le_of_ble_eq_true rfl) ?_
  intro p e s m args below meth c C A hK hA S _ _ ls hl
  have hl : lv_has ls 5 [(0, .ref (aMd 0)), (1, .ref (aMd 8)), (2, .int u2)] := hl
  have hx := C.1.1
  have hb := C.1.2.1
  unfold F_X8_seen_parts at hF
  have j5 : ∀ (n5 : Nat) (x2 : Int32) (x3 : Int32) (x4 : Int32) (H : Heap) (locs : List Loc) (ls : Array Slot), zs_S G A s.heap H locs (wX8 G aMd Md mt) → lv_has ls 5 [(1, .ref (aMd 8)), (2, .int x2), (3, .int x3), (4, .int x4)] → F_X8_seen_parts_5 Md n5 x2 x3 x4 = some rr → W p l e RMX8_seen_parts s m args below meth c H locs 0 0 (MQ below (zs_Qi G (wX8 G aMd Md mt) rr A) args s 0 0 A) (F0 m 5 ls []) := by
    intro n5
    induction n5 with
    | zero => intro x2 x3 x4 H locs ls _ _ hF; rw [F_X8_seen_parts_5_z] at hF; cases hF
    | succ n5 ih5 =>
      intro x2 x3 x4 H locs ls S hl hF
      rw [F_X8_seen_parts_5_n] at hF
      unfold F_X8_seen_parts_5_s at hF
      refine lv_iload hx hb dX8_seen_5 (lv_at hl 3 rfl) ?_
      refine lv_bipush (v := (6 : Int32)) hx hb dX8_seen_7 (by decide) ?_
      refine lv_icmp_ge (tgt := 30) hx hb dX8_seen_9 (by decide) (fun c1 => ?_) (fun c1 => ?_)
      · have hF := zs_t hF c1
        refine lv_iload_n hx hb dX8_seen_30 rfl (lv_at hl 2 rfl) ?_
        have e2 := zs_s1 hF
        exact zs_iretE C S e2 rfl dX8_seen_31
      · have hF := zs_f hF c1
        refine lv_iload_n hx hb dX8_seen_12 rfl (lv_at hl 2 rfl) ?_
        refine lv_aload_n hx hb dX8_seen_13 rfl (lv_at hl 0 rfl) ?_
        refine lv_bipush (v := (6 : Int32)) hx hb dX8_seen_14 (by decide) ?_
        refine lv_iload_n hx hb dX8_seen_16 rfl (lv_at hl 1 rfl) ?_
        refine lv_imul hx hb dX8_seen_17 ?_
        refine lv_iload hx hb dX8_seen_18 (lv_at hl 3 rfl) ?_
        refine lv_iadd hx hb dX8_seen_20 ?_
        obtain ⟨h3, hF⟩ := zs_ckS hF
        refine zs_iald C hK S 8 rfl h3 dX8_seen_21 ?_
        refine lv_iadd hx hb dX8_seen_22 ?_
        refine lv_topi (fun z4 e5 => ?_)
        have hF := zs_letS hF e5
        refine lv_istore_n (lv' := [(3, .int z4), (1, .ref (aMd 8)), (2, .int x2), (4, .int x4)]) hx hb dX8_seen_23 rfl hl (by decide) rfl (fun ls hl => ?_)
        obtain ⟨z6, e7⟩ : ∃ q : Int32, q = x4 + (1 : Int32) := ⟨_, rfl⟩
        have hF := zs_letS hF e7
        refine lv_iinc (v := z6) (lv' := [(4, .int z6), (3, .int z4), (1, .ref (aMd 8)), (2, .int x2)]) hx hb dX8_seen_24 hl (k := 3) rfl (by rw [e7]; rfl) (by decide) rfl (fun ls hl => ?_)
        refine lv_goto (tgt := 5) hx hb dX8_seen_27 (by decide) ?_
        exact ih5 x2 z4 z6 _ _ _ S (lv_sub hl [2, 3, 1, 0] rfl) hF
  refine lv_iconst (v := (0 : Int32)) hx hb dX8_seen_0 (by decide) ?_
  refine lv_istore_n (lv' := [(3, .int (0 : Int32)), (0, .ref (aMd 0)), (1, .ref (aMd 8)), (2, .int u2)]) hx hb dX8_seen_1 rfl hl (by decide) rfl (fun ls hl => ?_)
  refine lv_iconst (v := (0 : Int32)) hx hb dX8_seen_2 (by decide) ?_
  refine lv_istore (lv' := [(4, .int (0 : Int32)), (3, .int (0 : Int32)), (0, .ref (aMd 0)), (1, .ref (aMd 8)), (2, .int u2)]) hx hb dX8_seen_3 hl (by decide) rfl (fun ls hl => ?_)
  exact j5 1000 u2 (0 : Int32) (0 : Int32) _ _ _ S (lv_sub hl [3, 4, 1, 0] rfl) hF

abbrev RMX8_seen_readParts : Room := { frames := 0, cells := 0, slots := 0, locals := 0 }
set_option maxRecDepth 100000 in
set_option maxHeartbeats 4000000 in
theorem c_X8_seen_readParts (l : Launch) (G : GG) (aMd : Ad) (Md : Ob) (mt : Int64) (u2 : Int32) (sz : Nat) (rr : Int32) (hF : F_X8_seen_readParts Md u2 = some rr) : Met l yX8_seen wsX8_seen RMX8_seen_readParts (va_Pc [.ref (aMd 0), .ref (aMd 3), .int u2] (zs_pre G (wX8 G aMd Md mt) sz)) (zs_Qi G (wX8 G aMd Md mt) rr (va_A (wX8 G aMd Md mt) sz)) 0 0 (va_A (wX8 G aMd Md mt) sz) := by
  refine zs_met (cc := cX8_seen) (maxL := 5) (ret := (some .int)) (own := RX8) (Qc := zs_Qi G (wX8 G aMd Md mt) rr) (by decide) rfl rfl (Nat.le_of_ble_eq_true rfl) ?_
  intro p e s m args below meth c C A hK hA S _ _ ls hl
  have hl : lv_has ls 5 [(0, .ref (aMd 0)), (1, .ref (aMd 3)), (2, .int u2)] := hl
  have hx := C.1.1
  have hb := C.1.2.1
  unfold F_X8_seen_readParts at hF
  have j5 : ∀ (n5 : Nat) (x2 : Int32) (x3 : Int32) (x4 : Int32) (H : Heap) (locs : List Loc) (ls : Array Slot), zs_S G A s.heap H locs (wX8 G aMd Md mt) → lv_has ls 5 [(1, .ref (aMd 3)), (2, .int x2), (3, .int x3), (4, .int x4)] → F_X8_seen_readParts_5 Md n5 x2 x3 x4 = some rr → W p l e RMX8_seen_readParts s m args below meth c H locs 0 0 (MQ below (zs_Qi G (wX8 G aMd Md mt) rr A) args s 0 0 A) (F0 m 5 ls []) := by
    intro n5
    induction n5 with
    | zero => intro x2 x3 x4 H locs ls _ _ hF; rw [F_X8_seen_readParts_5_z] at hF; cases hF
    | succ n5 ih5 =>
      intro x2 x3 x4 H locs ls S hl hF
      rw [F_X8_seen_readParts_5_n] at hF
      unfold F_X8_seen_readParts_5_s at hF
      refine lv_iload hx hb dX8_seen_5 (lv_at hl 3 rfl) ?_
      refine lv_bipush (v := (6 : Int32)) hx hb dX8_seen_7 (by decide) ?_
      refine lv_icmp_ge (tgt := 30) hx hb dX8_seen_9 (by decide) (fun c1 => ?_) (fun c1 => ?_)
      · have hF := zs_t hF c1
        refine lv_iload_n hx hb dX8_seen_30 rfl (lv_at hl 2 rfl) ?_
        have e2 := zs_s1 hF
        exact zs_iretE C S e2 rfl dX8_seen_31
      · have hF := zs_f hF c1
        refine lv_iload_n hx hb dX8_seen_12 rfl (lv_at hl 2 rfl) ?_
        refine lv_aload_n hx hb dX8_seen_13 rfl (lv_at hl 0 rfl) ?_
        refine lv_bipush (v := (6 : Int32)) hx hb dX8_seen_14 (by decide) ?_
        refine lv_iload_n hx hb dX8_seen_16 rfl (lv_at hl 1 rfl) ?_
        refine lv_imul hx hb dX8_seen_17 ?_
        refine lv_iload hx hb dX8_seen_18 (lv_at hl 3 rfl) ?_
        refine lv_iadd hx hb dX8_seen_20 ?_
        obtain ⟨h3, hF⟩ := zs_ckS hF
        refine zs_iald C hK S 3 rfl h3 dX8_seen_21 ?_
        refine lv_iadd hx hb dX8_seen_22 ?_
        refine lv_topi (fun z4 e5 => ?_)
        have hF := zs_letS hF e5
        refine lv_istore_n (lv' := [(3, .int z4), (1, .ref (aMd 3)), (2, .int x2), (4, .int x4)]) hx hb dX8_seen_23 rfl hl (by decide) rfl (fun ls hl => ?_)
        obtain ⟨z6, e7⟩ : ∃ q : Int32, q = x4 + (1 : Int32) := ⟨_, rfl⟩
        have hF := zs_letS hF e7
        refine lv_iinc (v := z6) (lv' := [(4, .int z6), (3, .int z4), (1, .ref (aMd 3)), (2, .int x2)]) hx hb dX8_seen_24 hl (k := 3) rfl (by rw [e7]; rfl) (by decide) rfl (fun ls hl => ?_)
        refine lv_goto (tgt := 5) hx hb dX8_seen_27 (by decide) ?_
        exact ih5 x2 z4 z6 _ _ _ S (lv_sub hl [2, 3, 1, 0] rfl) hF
  refine lv_iconst (v := (0 : Int32)) hx hb dX8_seen_0 (by decide) ?_
  refine lv_istore_n (lv' := [(3, .int (0 : Int32)), (0, .ref (aMd 0)), (1, .ref (aMd 3)), (2, .int u2)]) hx hb dX8_seen_1 rfl hl (by decide) rfl (fun ls hl => ?_)
  refine lv_iconst (v := (0 : Int32)) hx hb dX8_seen_2 (by decide) ?_
  refine lv_istore (lv' := [(4, .int (0 : Int32)), (3, .int (0 : Int32)), (0, .ref (aMd 0)), (1, .ref (aMd 3)), (2, .int u2)]) hx hb dX8_seen_3 hl (by decide) rfl (fun ls hl => ?_)
  exact j5 1000 u2 (0 : Int32) (0 : Int32) _ _ _ S (lv_sub hl [3, 4, 1, 0] rfl) hF

theorem zd_X8_number : yX8_number.cls = RX8 ∧ yX8_number.cls ≠ "java/lang/invoke/MethodHandle" ∧ yX8_number.cls ≠ "java/lang/invoke/VarHandle" ∧ (parseMethodDescriptor yX8_number.desc).map (fun d => d.parameters.length) = some 2 := by decide +kernel
abbrev RMX8_readWall : Room := { frames := 5, cells := 0, slots := 0, locals := 109 }
theorem zn_X8_readWall_X8 : ∀ w ∈ wsX80, w ∈ wsX8_readWall := zs_inl wsX80 [45, 46, 47, 48, 49, 50, 51, 52, 53, 54, 55, 56, 57, 58, 59, 60, 61, 62, 63, 64, 65, 66, 67, 68, 69, 70, 71, 72, 73, 74, 75, 76, 77] (by decide +kernel)
set_option maxRecDepth 100000 in
set_option maxHeartbeats 4000000 in
theorem c_X8_readWall (l : Launch) (G : GG) (aMd : Ad) (Md : Ob) (mt : Int64) (sz : Nat) (rr : Int32) (Md_ : Ob) (hF : F_X8_readWall Md = some (rr, Md_)) : Met l yX8_readWall wsX8_readWall RMX8_readWall (va_Pc [.ref (aMd 0)] (zs_pre G (wX8 G aMd Md mt) sz)) (zs_Qi G (wX8 G aMd Md_ mt) rr (va_A (wX8 G aMd Md mt) sz)) 0 0 (va_A (wX8 G aMd Md mt) sz) := by
  refine zs_met (cc := cX8_readWall) (maxL := 3) (ret := (some .boolean)) (own := RX8) (Qc := zs_Qi G (wX8 G aMd Md_ mt) rr) (by decide) rfl rfl (Nat.le_of_ble_eq_true rfl) ?_
  intro p e s m args below meth c C A hK hA S _ _ ls hl
  have hl : lv_has ls 3 [(0, .ref (aMd 0))] := hl
  have hx := C.1.1
  have hb := C.1.2.1
  unfold F_X8_readWall at hF
  have j87 : ∀ (Md : Ob) (x2 : Int32) (y0 : Int32) (y1 : Int32) (H : Heap) (locs : List Loc) (ls : Array Slot), zs_S G A s.heap H locs (wX8 G aMd Md mt) → lv_has ls 3 [(2, .int x2)] → F_X8_readWall_87 Md x2 y0 y1 = some (rr, Md_) → W p l e RMX8_readWall s m args below meth c H locs 0 0 (MQ below (zs_Qi G (wX8 G aMd Md_ mt) rr A) args s 0 0 A) (F0 m 87 ls [.int y0, .int y1, .ref (aMd 0)]) := by
    intro Md x2 y0 y1 H locs ls S hl hF
    unfold F_X8_readWall_87 at hF
    refine lv_iadd hx hb dX8_readWall_87 ?_
    obtain ⟨Mdw1, e2⟩ : ∃ q : Ob, q = zs_up Md 0 6 (y1 + y0) := ⟨_, rfl⟩
    have hF := zs_letS hF e2
    refine zs_put C hK S 0 6 (ws' := wX8 G aMd Mdw1 mt) (Cn := RX8) (T := TX8) (N := 33) (ci := 8) rfl rfl (by decide) zn_X8_readWall_X8 tyX8_ok nmX8 (List.mem_of_getElem? (i := 2) rfl) rfl rfl rfl (Nat.le_of_ble_eq_true rfl) (by rw [e2]; rfl) dX8_readWall_88 (fun H locs S => ?_)
    refine lv_iload_n hx hb dX8_readWall_91 rfl (lv_at hl 0 rfl) ?_
    refine lv_if_lt (tgt := 99) hx hb dX8_readWall_92 (by decide) (fun c3 => ?_) (fun c3 => ?_)
    · have hF := zs_t hF c3
      refine lv_iconst (v := (0 : Int32)) hx hb dX8_readWall_99 (by decide) ?_
      obtain ⟨e4, e5⟩ := zs_s2 hF
      exact zs_zretE C S rfl e4 (by rw [e5]) dX8_readWall_100
    · have hF := zs_f hF c3
      refine lv_iconst (v := (1 : Int32)) hx hb dX8_readWall_95 (by decide) ?_
      refine lv_goto (tgt := 100) hx hb dX8_readWall_96 (by decide) ?_
      obtain ⟨e6, e7⟩ := zs_s2 hF
      exact zs_zretE C S rfl e6 (by rw [e7]) dX8_readWall_100
  have j23 : ∀ (Md : Ob) (x1 : Int32) (y0 : Int32) (H : Heap) (locs : List Loc) (ls : Array Slot), zs_S G A s.heap H locs (wX8 G aMd Md mt) → lv_has ls 3 [(0, .ref (aMd 0)), (1, .int x1)] → F_X8_readWall_23 Md x1 y0 = some (rr, Md_) → W p l e RMX8_readWall s m args below meth c H locs 0 0 (MQ below (zs_Qi G (wX8 G aMd Md_ mt) rr A) args s 0 0 A) (F0 m 23 ls [.int y0]) := by
    intro Md x1 y0 H locs ls S hl hF
    unfold F_X8_readWall_23 at hF
    refine lv_istore_n (lv' := [(2, .int y0), (0, .ref (aMd 0)), (1, .int x1)]) hx hb dX8_readWall_23 rfl hl (by decide) rfl (fun ls hl => ?_)
    refine lv_aload_n hx hb dX8_readWall_24 rfl (lv_at hl 1 rfl) ?_
    refine zs_get C hK S 0 8 (Cn := RX8) (T := TX8) (N := 33) (ci := 8) rfl rfl (by decide) zn_X8_readWall_X8 (List.mem_of_getElem? (i := 1) rfl) rfl dX8_readWall_25 ?_
    refine lv_aload_n hx hb dX8_readWall_28 rfl (lv_at hl 1 rfl) ?_
    refine zs_get C hK S 0 6 (Cn := RX8) (T := TX8) (N := 33) (ci := 8) rfl rfl (by decide) zn_X8_readWall_X8 (List.mem_of_getElem? (i := 2) rfl) rfl dX8_readWall_29 ?_
    refine lv_iload_n hx hb dX8_readWall_32 rfl (lv_at hl 2 rfl) ?_
    obtain ⟨h8, hF⟩ := zs_ckS hF
    obtain ⟨Mdw9, e10⟩ : ∃ q : Ob, q = zs_up Md 2 ((Md 0 6)).toNatClampNeg x1 := ⟨_, rfl⟩
    have hF := zs_letS hF e10
    refine zs_iast C hK S 2 (ws' := wX8 G aMd Mdw9 mt) rfl h8 (by rw [e10]; rfl) dX8_readWall_33 (fun H locs S => ?_)
    refine lv_aload_n hx hb dX8_readWall_34 rfl (lv_at hl 1 rfl) ?_
    refine zs_get C hK S 0 8 (Cn := RX8) (T := TX8) (N := 33) (ci := 8) rfl rfl (by decide) zn_X8_readWall_X8 (List.mem_of_getElem? (i := 1) rfl) rfl dX8_readWall_35 ?_
    refine lv_bipush (v := (6 : Int32)) hx hb dX8_readWall_38 (by decide) ?_
    refine lv_aload_n hx hb dX8_readWall_40 rfl (lv_at hl 1 rfl) ?_
    refine zs_get C hK S 0 6 (Cn := RX8) (T := TX8) (N := 33) (ci := 8) rfl rfl (by decide) zn_X8_readWall_X8 (List.mem_of_getElem? (i := 2) rfl) rfl dX8_readWall_41 ?_
    refine lv_iadd hx hb dX8_readWall_44 ?_
    refine lv_iload_n hx hb dX8_readWall_45 rfl (lv_at hl 0 rfl) ?_
    obtain ⟨h11, hF⟩ := zs_ckS hF
    obtain ⟨Mdw12, e13⟩ : ∃ q : Ob, q = zs_up Mdw9 2 (((6 : Int32) + (Mdw9 0 6))).toNatClampNeg y0 := ⟨_, rfl⟩
    have hF := zs_letS hF e13
    refine zs_iast C hK S 2 (ws' := wX8 G aMd Mdw12 mt) rfl h11 (by rw [e13]; rfl) dX8_readWall_46 (fun H locs S => ?_)
    refine lv_aload_n hx hb dX8_readWall_47 rfl (lv_at hl 1 rfl) ?_
    refine zs_get C hK S 0 8 (Cn := RX8) (T := TX8) (N := 33) (ci := 8) rfl rfl (by decide) zn_X8_readWall_X8 (List.mem_of_getElem? (i := 1) rfl) rfl dX8_readWall_48 ?_
    refine lv_bipush (v := (12 : Int32)) hx hb dX8_readWall_51 (by decide) ?_
    refine lv_aload_n hx hb dX8_readWall_53 rfl (lv_at hl 1 rfl) ?_
    refine zs_get C hK S 0 6 (Cn := RX8) (T := TX8) (N := 33) (ci := 8) rfl rfl (by decide) zn_X8_readWall_X8 (List.mem_of_getElem? (i := 2) rfl) rfl dX8_readWall_54 ?_
    refine lv_iadd hx hb dX8_readWall_57 ?_
    refine lv_iconst (v := (0 : Int32)) hx hb dX8_readWall_58 (by decide) ?_
    obtain ⟨h14, hF⟩ := zs_ckS hF
    obtain ⟨Mdw15, e16⟩ : ∃ q : Ob, q = zs_up Mdw12 2 (((12 : Int32) + (Mdw12 0 6))).toNatClampNeg (0 : Int32) := ⟨_, rfl⟩
    have hF := zs_letS hF e16
    refine zs_iast C hK S 2 (ws' := wX8 G aMd Mdw15 mt) rfl h14 (by rw [e16]; rfl) dX8_readWall_59 (fun H locs S => ?_)
    refine lv_aload_n hx hb dX8_readWall_60 rfl (lv_at hl 1 rfl) ?_
    refine zs_get C hK S 0 8 (Cn := RX8) (T := TX8) (N := 33) (ci := 8) rfl rfl (by decide) zn_X8_readWall_X8 (List.mem_of_getElem? (i := 1) rfl) rfl dX8_readWall_61 ?_
    refine lv_bipush (v := (18 : Int32)) hx hb dX8_readWall_64 (by decide) ?_
    refine lv_aload_n hx hb dX8_readWall_66 rfl (lv_at hl 1 rfl) ?_
    refine zs_get C hK S 0 6 (Cn := RX8) (T := TX8) (N := 33) (ci := 8) rfl rfl (by decide) zn_X8_readWall_X8 (List.mem_of_getElem? (i := 2) rfl) rfl dX8_readWall_67 ?_
    refine lv_iadd hx hb dX8_readWall_70 ?_
    refine lv_iconst (v := (0 : Int32)) hx hb dX8_readWall_71 (by decide) ?_
    obtain ⟨h17, hF⟩ := zs_ckS hF
    obtain ⟨Mdw18, e19⟩ : ∃ q : Ob, q = zs_up Mdw15 2 (((18 : Int32) + (Mdw15 0 6))).toNatClampNeg (0 : Int32) := ⟨_, rfl⟩
    have hF := zs_letS hF e19
    refine zs_iast C hK S 2 (ws' := wX8 G aMd Mdw18 mt) rfl h17 (by rw [e19]; rfl) dX8_readWall_72 (fun H locs S => ?_)
    refine lv_aload_n hx hb dX8_readWall_73 rfl (lv_at hl 1 rfl) ?_
    refine lv_dup hx hb dX8_readWall_74 rfl ?_
    refine zs_get C hK S 0 6 (Cn := RX8) (T := TX8) (N := 33) (ci := 8) rfl rfl (by decide) zn_X8_readWall_X8 (List.mem_of_getElem? (i := 2) rfl) rfl dX8_readWall_75 ?_
    refine lv_iload_n hx hb dX8_readWall_78 rfl (lv_at hl 0 rfl) ?_
    refine lv_if_ge (tgt := 86) hx hb dX8_readWall_79 (by decide) (fun c20 => ?_) (fun c20 => ?_)
    · have hF := zs_t hF c20
      refine lv_iconst (v := (1 : Int32)) hx hb dX8_readWall_86 (by decide) ?_
      exact j87 Mdw18 y0 (1 : Int32) (Mdw18 0 6) _ _ _ S (lv_sub hl [0] rfl) hF
    · have hF := zs_f hF c20
      refine lv_iconst (v := (0 : Int32)) hx hb dX8_readWall_82 (by decide) ?_
      refine lv_goto (tgt := 87) hx hb dX8_readWall_83 (by decide) ?_
      exact j87 Mdw18 y0 (0 : Int32) (Mdw18 0 6) _ _ _ S (lv_sub hl [0] rfl) hF
  refine lv_aload_n hx hb dX8_readWall_0 rfl (lv_at hl 0 rfl) ?_
  refine lv_iconst (v := (0 : Int32)) hx hb dX8_readWall_1 (by decide) ?_
  refine lv_bipush (v := (99 : Int32)) hx hb dX8_readWall_2 (by decide) ?_
  obtain ⟨r21, Mdw22, f23, hF⟩ := zs_b2S hF
  refine zs_calli (wr := ([] : va_W)) (ws' := wX8 G aMd Mdw22 mt) S hA [0, 1, 2, 3, 4, 5, 6, 7, 8, 9, 10, 11, 12, 13, 14, 15, 16, 17] [] [0, 1, 2, 3, 4, 5, 6, 7, 8, 9, 10, 11, 12, 13, 14, 15, 16, 17] (zs_runV C hK hA S [.int (0 : Int32), .int (99 : Int32)] [] [0, 1, 2, 3, 4, 5, 6, 7, 8, 9, 10, 11, 12, 13, 14, 15, 16, 17] 0 2 (c_X8_number l G aMd Md mt ((0 : Int32)) ((99 : Int32)) s.heap.size r21 Mdw22 f23) gX8_readWall_X8_number rfl rfl rfl zd_X8_number ⟨Nat.le_of_ble_eq_true rfl, Nat.le_of_ble_eq_true rfl⟩ rfl rfl rfl rfl rfl hl rfl (Nat.le_of_ble_eq_true rfl) dX8_readWall_4 ⟨Nat.le_of_ble_eq_true rfl, Nat.le_of_ble_eq_true rfl⟩) rfl rfl rfl (by decide) rfl rfl (fun H locs S => ?_)
  refine lv_istore_n (lv' := [(1, .int r21), (0, .ref (aMd 0))]) hx hb dX8_readWall_7 rfl hl (by decide) rfl (fun ls hl => ?_)
  refine lv_iload_n hx hb dX8_readWall_8 rfl (lv_at hl 0 rfl) ?_
  refine lv_if_ge (tgt := 16) hx hb dX8_readWall_9 (by decide) (fun c24 => ?_) (fun c24 => ?_)
  · have hF := zs_t hF c24
    refine lv_aload_n hx hb dX8_readWall_16 rfl (lv_at hl 1 rfl) ?_
    refine lv_iconst (v := (0 : Int32)) hx hb dX8_readWall_17 (by decide) ?_
    refine lv_bipush (v := (9 : Int32)) hx hb dX8_readWall_18 (by decide) ?_
    obtain ⟨r25, Mdw26, f27, hF⟩ := zs_b2S hF
    refine zs_calli (wr := ([] : va_W)) (ws' := wX8 G aMd Mdw26 mt) S hA [0, 1, 2, 3, 4, 5, 6, 7, 8, 9, 10, 11, 12, 13, 14, 15, 16, 17] [] [0, 1, 2, 3, 4, 5, 6, 7, 8, 9, 10, 11, 12, 13, 14, 15, 16, 17] (zs_runV C hK hA S [.int (0 : Int32), .int (9 : Int32)] [] [0, 1, 2, 3, 4, 5, 6, 7, 8, 9, 10, 11, 12, 13, 14, 15, 16, 17] 0 2 (c_X8_number l G aMd Mdw22 mt ((0 : Int32)) ((9 : Int32)) H.size r25 Mdw26 f27) gX8_readWall_X8_number rfl rfl rfl zd_X8_number ⟨Nat.le_of_ble_eq_true rfl, Nat.le_of_ble_eq_true rfl⟩ rfl rfl rfl rfl rfl hl rfl (Nat.le_of_ble_eq_true rfl) dX8_readWall_20 ⟨Nat.le_of_ble_eq_true rfl, Nat.le_of_ble_eq_true rfl⟩) rfl rfl rfl (by decide) rfl rfl (fun H locs S => ?_)
    exact j23 Mdw26 r21 r25 _ _ _ S (lv_sub hl [1, 0] rfl) hF
  · have hF := zs_f hF c24
    refine lv_iconst (v := (-1 : Int32)) hx hb dX8_readWall_12 (by decide) ?_
    refine lv_goto (tgt := 23) hx hb dX8_readWall_13 (by decide) ?_
    exact j23 Mdw22 r21 (-1 : Int32) _ _ _ S (lv_sub hl [1, 0] rfl) hF

theorem zd_X8_seen : yX8_seen.cls = RX8 ∧ yX8_seen.cls ≠ "java/lang/invoke/MethodHandle" ∧ yX8_seen.cls ≠ "java/lang/invoke/VarHandle" ∧ (parseMethodDescriptor yX8_seen.desc).map (fun d => d.parameters.length) = some 2 := by decide +kernel
abbrev RMX8_readSees : Room := { frames := 5, cells := 0, slots := 0, locals := 109 }
theorem zn_X8_readSees_X8 : ∀ w ∈ wsX80, w ∈ wsX8_readSees := zs_inl wsX80 [49, 50, 51, 52, 53, 54, 55, 56, 57, 58, 59, 60, 61, 62, 63, 64, 65, 66, 67, 68, 69, 70, 71, 72, 73, 74, 75, 76, 77, 78, 79, 80, 81] (by decide +kernel)
set_option maxRecDepth 100000 in
set_option maxHeartbeats 4000000 in
theorem c_X8_readSees (l : Launch) (G : GG) (aMd : Ad) (Md : Ob) (mt : Int64) (sz : Nat) (rr : Int32) (Md_ : Ob) (hF : F_X8_readSees Md = some (rr, Md_)) : Met l yX8_readSees wsX8_readSees RMX8_readSees (va_Pc [.ref (aMd 0)] (zs_pre G (wX8 G aMd Md mt) sz)) (zs_Qi G (wX8 G aMd Md_ mt) rr (va_A (wX8 G aMd Md mt) sz)) 0 0 (va_A (wX8 G aMd Md mt) sz) := by
  refine zs_met (cc := cX8_readSees) (maxL := 5) (ret := (some .boolean)) (own := RX8) (Qc := zs_Qi G (wX8 G aMd Md_ mt) rr) (by decide) rfl rfl (Nat.le_of_ble_eq_true rfl) ?_
  intro p e s m args below meth c C A hK hA S _ _ ls hl
  have hl : lv_has ls 5 [(0, .ref (aMd 0))] := hl
  have hx := C.1.1
  have hb := C.1.2.1
  unfold F_X8_readSees at hF
  have j120 : ∀ (Md : Ob) (x1 : Int32) (x2 : Int32) (x4 : Int32) (y0 : Int32) (y1 : Int32) (y2 : Int32) (H : Heap) (locs : List Loc) (ls : Array Slot), zs_S G A s.heap H locs (wX8 G aMd Md mt) → lv_has ls 5 [(0, .ref (aMd 0)), (1, .int x1), (2, .int x2), (4, .int x4)] → F_X8_readSees_120 Md x1 x2 x4 y0 y1 y2 = some (rr, Md_) → W p l e RMX8_readSees s m args below meth c H locs 0 0 (MQ below (zs_Qi G (wX8 G aMd Md_ mt) rr A) args s 0 0 A) (F0 m 120 ls [.int y0, .int y1, .int y2, .ref (aMd 3)]) := by
    intro Md x1 x2 x4 y0 y1 y2 H locs ls S hl hF
    unfold F_X8_readSees_120 at hF
    refine lv_iadd hx hb dX8_readSees_120 ?_
    obtain ⟨h1, hF⟩ := zs_ckS hF
    obtain ⟨Mdw2, e3⟩ : ∃ q : Ob, q = zs_up Md 3 (y2).toNatClampNeg (y1 + y0) := ⟨_, rfl⟩
    have hF := zs_letS hF e3
    refine zs_iast C hK S 3 (ws' := wX8 G aMd Mdw2 mt) rfl h1 (by rw [e3]; rfl) dX8_readSees_121 (fun H locs S => ?_)
    refine lv_aload_n hx hb dX8_readSees_122 rfl (lv_at hl 0 rfl) ?_
    refine zs_get C hK S 0 9 (Cn := RX8) (T := TX8) (N := 33) (ci := 8) rfl rfl (by decide) zn_X8_readSees_X8 (List.mem_of_getElem? (i := 2) rfl) rfl dX8_readSees_123 ?_
    refine lv_bipush (v := (6 : Int32)) hx hb dX8_readSees_126 (by decide) ?_
    refine lv_iload_n hx hb dX8_readSees_128 rfl (lv_at hl 2 rfl) ?_
    refine lv_imul hx hb dX8_readSees_129 ?_
    refine lv_iload_n hx hb dX8_readSees_130 rfl (lv_at hl 1 rfl) ?_
    refine lv_iadd hx hb dX8_readSees_131 ?_
    refine lv_aload_n hx hb dX8_readSees_132 rfl (lv_at hl 0 rfl) ?_
    refine zs_get C hK S 0 9 (Cn := RX8) (T := TX8) (N := 33) (ci := 8) rfl rfl (by decide) zn_X8_readSees_X8 (List.mem_of_getElem? (i := 2) rfl) rfl dX8_readSees_133 ?_
    refine lv_bipush (v := (6 : Int32)) hx hb dX8_readSees_136 (by decide) ?_
    refine lv_iload_n hx hb dX8_readSees_138 rfl (lv_at hl 1 rfl) ?_
    refine lv_imul hx hb dX8_readSees_139 ?_
    refine lv_iload_n hx hb dX8_readSees_140 rfl (lv_at hl 2 rfl) ?_
    refine lv_iadd hx hb dX8_readSees_141 ?_
    obtain ⟨h4, hF⟩ := zs_ckS hF
    refine zs_iald C hK S 3 rfl h4 dX8_readSees_142 ?_
    obtain ⟨h5, hF⟩ := zs_ckS hF
    obtain ⟨Mdw6, e7⟩ : ∃ q : Ob, q = zs_up Mdw2 3 ((((6 : Int32) * x2) + x1)).toNatClampNeg (Mdw2 3 ((((6 : Int32) * x1) + x2)).toNatClampNeg) := ⟨_, rfl⟩
    have hF := zs_letS hF e7
    refine zs_iast C hK S 3 (ws' := wX8 G aMd Mdw6 mt) rfl h5 (by rw [e7]; rfl) dX8_readSees_143 (fun H locs S => ?_)
    refine lv_iload hx hb dX8_readSees_144 (lv_at hl 3 rfl) ?_
    refine lv_if_lt (tgt := 153) hx hb dX8_readSees_146 (by decide) (fun c8 => ?_) (fun c8 => ?_)
    · have hF := zs_t hF c8
      refine lv_iconst (v := (0 : Int32)) hx hb dX8_readSees_153 (by decide) ?_
      obtain ⟨e9, e10⟩ := zs_s2 hF
      exact zs_zretE C S rfl e9 (by rw [e10]) dX8_readSees_154
    · have hF := zs_f hF c8
      refine lv_iconst (v := (1 : Int32)) hx hb dX8_readSees_149 (by decide) ?_
      refine lv_goto (tgt := 154) hx hb dX8_readSees_150 (by decide) ?_
      obtain ⟨e11, e12⟩ := zs_s2 hF
      exact zs_zretE C S rfl e11 (by rw [e12]) dX8_readSees_154
  have j85 : ∀ (Md : Ob) (x1 : Int32) (x2 : Int32) (y0 : Int32) (H : Heap) (locs : List Loc) (ls : Array Slot), zs_S G A s.heap H locs (wX8 G aMd Md mt) → lv_has ls 5 [(0, .ref (aMd 0)), (1, .int x1), (2, .int x2)] → F_X8_readSees_85 Md x1 x2 y0 = some (rr, Md_) → W p l e RMX8_readSees s m args below meth c H locs 0 0 (MQ below (zs_Qi G (wX8 G aMd Md_ mt) rr A) args s 0 0 A) (F0 m 85 ls [.int y0]) := by
    intro Md x1 x2 y0 H locs ls S hl hF
    unfold F_X8_readSees_85 at hF
    refine lv_istore_n (lv' := [(3, .int y0), (0, .ref (aMd 0)), (1, .int x1), (2, .int x2)]) hx hb dX8_readSees_85 rfl hl (by decide) rfl (fun ls hl => ?_)
    refine lv_aload_n hx hb dX8_readSees_86 rfl (lv_at hl 1 rfl) ?_
    refine lv_iconst (v := (1 : Int32)) hx hb dX8_readSees_87 (by decide) ?_
    refine lv_bipush (v := (10 : Int32)) hx hb dX8_readSees_88 (by decide) ?_
    refine lv_iload_n hx hb dX8_readSees_90 rfl (lv_at hl 0 rfl) ?_
    refine lv_isub hx hb dX8_readSees_91 ?_
    obtain ⟨r13, Mdw14, f15, hF⟩ := zs_b2S hF
    refine zs_calli (wr := ([] : va_W)) (ws' := wX8 G aMd Mdw14 mt) S hA [0, 1, 2, 3, 4, 5, 6, 7, 8, 9, 10, 11, 12, 13, 14, 15, 16, 17] [] [0, 1, 2, 3, 4, 5, 6, 7, 8, 9, 10, 11, 12, 13, 14, 15, 16, 17] (zs_runV C hK hA S [.int (1 : Int32), .int ((10 : Int32) - y0)] [] [0, 1, 2, 3, 4, 5, 6, 7, 8, 9, 10, 11, 12, 13, 14, 15, 16, 17] 0 2 (c_X8_number l G aMd Md mt ((1 : Int32)) (((10 : Int32) - y0)) H.size r13 Mdw14 f15) gX8_readSees_X8_number rfl rfl rfl zd_X8_number ⟨Nat.le_of_ble_eq_true rfl, Nat.le_of_ble_eq_true rfl⟩ rfl rfl rfl rfl rfl hl rfl (Nat.le_of_ble_eq_true rfl) dX8_readSees_92 ⟨Nat.le_of_ble_eq_true rfl, Nat.le_of_ble_eq_true rfl⟩) rfl rfl rfl (by decide) rfl rfl (fun H locs S => ?_)
    refine lv_istore (lv' := [(4, .int r13), (3, .int y0), (0, .ref (aMd 0)), (1, .int x1), (2, .int x2)]) hx hb dX8_readSees_95 hl (by decide) rfl (fun ls hl => ?_)
    refine lv_aload_n hx hb dX8_readSees_97 rfl (lv_at hl 2 rfl) ?_
    refine zs_get C hK S 0 9 (Cn := RX8) (T := TX8) (N := 33) (ci := 8) rfl rfl (by decide) zn_X8_readSees_X8 (List.mem_of_getElem? (i := 2) rfl) rfl dX8_readSees_98 ?_
    refine lv_bipush (v := (6 : Int32)) hx hb dX8_readSees_101 (by decide) ?_
    refine lv_iload_n hx hb dX8_readSees_103 rfl (lv_at hl 3 rfl) ?_
    refine lv_imul hx hb dX8_readSees_104 ?_
    refine lv_iload_n hx hb dX8_readSees_105 rfl (lv_at hl 4 rfl) ?_
    refine lv_iadd hx hb dX8_readSees_106 ?_
    refine lv_dup2_11 hx hb dX8_readSees_107 rfl rfl ?_
    obtain ⟨h16, hF⟩ := zs_ckS hF
    refine zs_iald C hK S 3 rfl h16 dX8_readSees_108 ?_
    refine lv_iload hx hb dX8_readSees_109 (lv_at hl 0 rfl) ?_
    refine lv_if_ge (tgt := 118) hx hb dX8_readSees_111 (by decide) (fun c17 => ?_) (fun c17 => ?_)
    · have hF := zs_t hF c17
      refine lv_iload hx hb dX8_readSees_118 (lv_at hl 0 rfl) ?_
      exact j120 Mdw14 x1 x2 r13 r13 (Mdw14 3 ((((6 : Int32) * x1) + x2)).toNatClampNeg) (((6 : Int32) * x1) + x2) _ _ _ S (lv_sub hl [2, 3, 4, 0] rfl) hF
    · have hF := zs_f hF c17
      refine lv_iconst (v := (0 : Int32)) hx hb dX8_readSees_114 (by decide) ?_
      refine lv_goto (tgt := 120) hx hb dX8_readSees_115 (by decide) ?_
      exact j120 Mdw14 x1 x2 r13 (0 : Int32) (Mdw14 3 ((((6 : Int32) * x1) + x2)).toNatClampNeg) (((6 : Int32) * x1) + x2) _ _ _ S (lv_sub hl [2, 3, 4, 0] rfl) hF
  have j31 : ∀ (Md : Ob) (x1 : Int32) (y0 : Int32) (H : Heap) (locs : List Loc) (ls : Array Slot), zs_S G A s.heap H locs (wX8 G aMd Md mt) → lv_has ls 5 [(0, .ref (aMd 0)), (1, .int x1)] → F_X8_readSees_31 Md x1 y0 = some (rr, Md_) → W p l e RMX8_readSees s m args below meth c H locs 0 0 (MQ below (zs_Qi G (wX8 G aMd Md_ mt) rr A) args s 0 0 A) (F0 m 31 ls [.int y0]) := by
    intro Md x1 y0 H locs ls S hl hF
    unfold F_X8_readSees_31 at hF
    refine lv_istore_n (lv' := [(2, .int y0), (0, .ref (aMd 0)), (1, .int x1)]) hx hb dX8_readSees_31 rfl hl (by decide) rfl (fun ls hl => ?_)
    refine lv_iload_n hx hb dX8_readSees_32 rfl (lv_at hl 0 rfl) ?_
    refine lv_if_lt (tgt := 41) hx hb dX8_readSees_33 (by decide) (fun c18 => ?_) (fun c18 => ?_)
    · have hF := zs_t hF c18
      refine lv_iconst (v := (0 : Int32)) hx hb dX8_readSees_41 (by decide) ?_
      obtain ⟨e19, e20⟩ := zs_s2 hF
      exact zs_zretE C S rfl e19 (by rw [e20]) dX8_readSees_42
    · have hF := zs_f hF c18
      refine lv_iload_n hx hb dX8_readSees_36 rfl (lv_at hl 0 rfl) ?_
      refine lv_iload_n hx hb dX8_readSees_37 rfl (lv_at hl 2 rfl) ?_
      refine lv_icmp_ne (tgt := 43) hx hb dX8_readSees_38 (by decide) (fun c21 => ?_) (fun c21 => ?_)
      · have hF := zs_f hF c21
        refine lv_aload_n hx hb dX8_readSees_43 rfl (lv_at hl 1 rfl) ?_
        refine lv_aload_n hx hb dX8_readSees_44 rfl (lv_at hl 1 rfl) ?_
        refine zs_get C hK S 0 9 (Cn := RX8) (T := TX8) (N := 33) (ci := 8) rfl rfl (by decide) zn_X8_readSees_X8 (List.mem_of_getElem? (i := 2) rfl) rfl dX8_readSees_45 ?_
        refine lv_iload_n hx hb dX8_readSees_48 rfl (lv_at hl 2 rfl) ?_
        obtain ⟨r22, f23, hF⟩ := zs_bdS hF
        refine zs_calli (wr := ([] : va_W)) (ws' := wX8 G aMd Md mt) S hA [0, 1, 2, 3, 4, 5, 6, 7, 8, 9, 10, 11, 12, 13, 14, 15, 16, 17] [] [0, 1, 2, 3, 4, 5, 6, 7, 8, 9, 10, 11, 12, 13, 14, 15, 16, 17] (zs_runV C hK hA S [.ref (aMd 3), .int x1] [] [0, 1, 2, 3, 4, 5, 6, 7, 8, 9, 10, 11, 12, 13, 14, 15, 16, 17] 0 2 (c_X8_seen_readParts l G aMd Md mt x1 H.size r22 f23) gX8_readSees_X8_seen rfl rfl rfl zd_X8_seen ⟨Nat.le_of_ble_eq_true rfl, Nat.le_of_ble_eq_true rfl⟩ rfl rfl rfl rfl rfl hl rfl (Nat.le_of_ble_eq_true rfl) dX8_readSees_49 ⟨Nat.le_of_ble_eq_true rfl, Nat.le_of_ble_eq_true rfl⟩) rfl rfl rfl (by decide) rfl rfl (fun H locs S => ?_)
        refine lv_aload_n hx hb dX8_readSees_52 rfl (lv_at hl 1 rfl) ?_
        refine lv_aload_n hx hb dX8_readSees_53 rfl (lv_at hl 1 rfl) ?_
        refine zs_get C hK S 0 9 (Cn := RX8) (T := TX8) (N := 33) (ci := 8) rfl rfl (by decide) zn_X8_readSees_X8 (List.mem_of_getElem? (i := 2) rfl) rfl dX8_readSees_54 ?_
        refine lv_iload_n hx hb dX8_readSees_57 rfl (lv_at hl 0 rfl) ?_
        obtain ⟨r24, f25, hF⟩ := zs_bdS hF
        refine zs_calli (wr := ([] : va_W)) (ws' := wX8 G aMd Md mt) S hA [0, 1, 2, 3, 4, 5, 6, 7, 8, 9, 10, 11, 12, 13, 14, 15, 16, 17] [] [0, 1, 2, 3, 4, 5, 6, 7, 8, 9, 10, 11, 12, 13, 14, 15, 16, 17] (zs_runV C hK hA S [.ref (aMd 3), .int y0] [.int r22] [0, 1, 2, 3, 4, 5, 6, 7, 8, 9, 10, 11, 12, 13, 14, 15, 16, 17] 0 2 (c_X8_seen_readParts l G aMd Md mt y0 H.size r24 f25) gX8_readSees_X8_seen rfl rfl rfl zd_X8_seen ⟨Nat.le_of_ble_eq_true rfl, Nat.le_of_ble_eq_true rfl⟩ rfl rfl rfl rfl rfl hl rfl (Nat.le_of_ble_eq_true rfl) dX8_readSees_58 ⟨Nat.le_of_ble_eq_true rfl, Nat.le_of_ble_eq_true rfl⟩) rfl rfl rfl (by decide) rfl rfl (fun H locs S => ?_)
        refine lv_icmp_le (tgt := 76) hx hb dX8_readSees_61 (by decide) (fun c26 => ?_) (fun c26 => ?_)
        · have hF := zs_t hF c26
          refine lv_aload_n hx hb dX8_readSees_76 rfl (lv_at hl 1 rfl) ?_
          refine lv_aload_n hx hb dX8_readSees_77 rfl (lv_at hl 1 rfl) ?_
          refine zs_get C hK S 0 9 (Cn := RX8) (T := TX8) (N := 33) (ci := 8) rfl rfl (by decide) zn_X8_readSees_X8 (List.mem_of_getElem? (i := 2) rfl) rfl dX8_readSees_78 ?_
          refine lv_iload_n hx hb dX8_readSees_81 rfl (lv_at hl 0 rfl) ?_
          obtain ⟨r27, f28, hF⟩ := zs_bdS hF
          refine zs_calli (wr := ([] : va_W)) (ws' := wX8 G aMd Md mt) S hA [0, 1, 2, 3, 4, 5, 6, 7, 8, 9, 10, 11, 12, 13, 14, 15, 16, 17] [] [0, 1, 2, 3, 4, 5, 6, 7, 8, 9, 10, 11, 12, 13, 14, 15, 16, 17] (zs_runV C hK hA S [.ref (aMd 3), .int y0] [] [0, 1, 2, 3, 4, 5, 6, 7, 8, 9, 10, 11, 12, 13, 14, 15, 16, 17] 0 2 (c_X8_seen_readParts l G aMd Md mt y0 H.size r27 f28) gX8_readSees_X8_seen rfl rfl rfl zd_X8_seen ⟨Nat.le_of_ble_eq_true rfl, Nat.le_of_ble_eq_true rfl⟩ rfl rfl rfl rfl rfl hl rfl (Nat.le_of_ble_eq_true rfl) dX8_readSees_82 ⟨Nat.le_of_ble_eq_true rfl, Nat.le_of_ble_eq_true rfl⟩) rfl rfl rfl (by decide) rfl rfl (fun H locs S => ?_)
          exact j85 Md x1 y0 r27 _ _ _ S (lv_sub hl [1, 2, 0] rfl) hF
        · have hF := zs_f hF c26
          refine lv_aload_n hx hb dX8_readSees_64 rfl (lv_at hl 1 rfl) ?_
          refine lv_aload_n hx hb dX8_readSees_65 rfl (lv_at hl 1 rfl) ?_
          refine zs_get C hK S 0 9 (Cn := RX8) (T := TX8) (N := 33) (ci := 8) rfl rfl (by decide) zn_X8_readSees_X8 (List.mem_of_getElem? (i := 2) rfl) rfl dX8_readSees_66 ?_
          refine lv_iload_n hx hb dX8_readSees_69 rfl (lv_at hl 2 rfl) ?_
          obtain ⟨r29, f30, hF⟩ := zs_bdS hF
          refine zs_calli (wr := ([] : va_W)) (ws' := wX8 G aMd Md mt) S hA [0, 1, 2, 3, 4, 5, 6, 7, 8, 9, 10, 11, 12, 13, 14, 15, 16, 17] [] [0, 1, 2, 3, 4, 5, 6, 7, 8, 9, 10, 11, 12, 13, 14, 15, 16, 17] (zs_runV C hK hA S [.ref (aMd 3), .int x1] [] [0, 1, 2, 3, 4, 5, 6, 7, 8, 9, 10, 11, 12, 13, 14, 15, 16, 17] 0 2 (c_X8_seen_readParts l G aMd Md mt x1 H.size r29 f30) gX8_readSees_X8_seen rfl rfl rfl zd_X8_seen ⟨Nat.le_of_ble_eq_true rfl, Nat.le_of_ble_eq_true rfl⟩ rfl rfl rfl rfl rfl hl rfl (Nat.le_of_ble_eq_true rfl) dX8_readSees_70 ⟨Nat.le_of_ble_eq_true rfl, Nat.le_of_ble_eq_true rfl⟩) rfl rfl rfl (by decide) rfl rfl (fun H locs S => ?_)
          refine lv_goto (tgt := 85) hx hb dX8_readSees_73 (by decide) ?_
          exact j85 Md x1 y0 r29 _ _ _ S (lv_sub hl [1, 2, 0] rfl) hF
      · have hF := zs_t hF c21
        refine lv_iconst (v := (0 : Int32)) hx hb dX8_readSees_41 (by decide) ?_
        obtain ⟨e31, e32⟩ := zs_s2 hF
        exact zs_zretE C S rfl e31 (by rw [e32]) dX8_readSees_42
  refine lv_aload_n hx hb dX8_readSees_0 rfl (lv_at hl 0 rfl) ?_
  refine lv_iconst (v := (0 : Int32)) hx hb dX8_readSees_1 (by decide) ?_
  refine lv_aload_n hx hb dX8_readSees_2 rfl (lv_at hl 0 rfl) ?_
  refine zs_get C hK S 0 6 (Cn := RX8) (T := TX8) (N := 33) (ci := 8) rfl rfl (by decide) zn_X8_readSees_X8 (List.mem_of_getElem? (i := 1) rfl) rfl dX8_readSees_3 ?_
  refine lv_iconst (v := (1 : Int32)) hx hb dX8_readSees_6 (by decide) ?_
  refine lv_isub hx hb dX8_readSees_7 ?_
  obtain ⟨r33, Mdw34, f35, hF⟩ := zs_b2S hF
  refine zs_calli (wr := ([] : va_W)) (ws' := wX8 G aMd Mdw34 mt) S hA [0, 1, 2, 3, 4, 5, 6, 7, 8, 9, 10, 11, 12, 13, 14, 15, 16, 17] [] [0, 1, 2, 3, 4, 5, 6, 7, 8, 9, 10, 11, 12, 13, 14, 15, 16, 17] (zs_runV C hK hA S [.int (0 : Int32), .int ((Md 0 6) - (1 : Int32))] [] [0, 1, 2, 3, 4, 5, 6, 7, 8, 9, 10, 11, 12, 13, 14, 15, 16, 17] 0 2 (c_X8_number l G aMd Md mt ((0 : Int32)) (((Md 0 6) - (1 : Int32))) s.heap.size r33 Mdw34 f35) gX8_readSees_X8_number rfl rfl rfl zd_X8_number ⟨Nat.le_of_ble_eq_true rfl, Nat.le_of_ble_eq_true rfl⟩ rfl rfl rfl rfl rfl hl rfl (Nat.le_of_ble_eq_true rfl) dX8_readSees_8 ⟨Nat.le_of_ble_eq_true rfl, Nat.le_of_ble_eq_true rfl⟩) rfl rfl rfl (by decide) rfl rfl (fun H locs S => ?_)
  refine lv_istore_n (lv' := [(1, .int r33), (0, .ref (aMd 0))]) hx hb dX8_readSees_11 rfl hl (by decide) rfl (fun ls hl => ?_)
  refine lv_iload_n hx hb dX8_readSees_12 rfl (lv_at hl 0 rfl) ?_
  refine lv_if_ge (tgt := 20) hx hb dX8_readSees_13 (by decide) (fun c36 => ?_) (fun c36 => ?_)
  · have hF := zs_t hF c36
    refine lv_aload_n hx hb dX8_readSees_20 rfl (lv_at hl 1 rfl) ?_
    refine lv_iconst (v := (0 : Int32)) hx hb dX8_readSees_21 (by decide) ?_
    refine lv_aload_n hx hb dX8_readSees_22 rfl (lv_at hl 1 rfl) ?_
    refine zs_get C hK S 0 6 (Cn := RX8) (T := TX8) (N := 33) (ci := 8) rfl rfl (by decide) zn_X8_readSees_X8 (List.mem_of_getElem? (i := 1) rfl) rfl dX8_readSees_23 ?_
    refine lv_iconst (v := (1 : Int32)) hx hb dX8_readSees_26 (by decide) ?_
    refine lv_isub hx hb dX8_readSees_27 ?_
    obtain ⟨r37, Mdw38, f39, hF⟩ := zs_b2S hF
    refine zs_calli (wr := ([] : va_W)) (ws' := wX8 G aMd Mdw38 mt) S hA [0, 1, 2, 3, 4, 5, 6, 7, 8, 9, 10, 11, 12, 13, 14, 15, 16, 17] [] [0, 1, 2, 3, 4, 5, 6, 7, 8, 9, 10, 11, 12, 13, 14, 15, 16, 17] (zs_runV C hK hA S [.int (0 : Int32), .int ((Mdw34 0 6) - (1 : Int32))] [] [0, 1, 2, 3, 4, 5, 6, 7, 8, 9, 10, 11, 12, 13, 14, 15, 16, 17] 0 2 (c_X8_number l G aMd Mdw34 mt ((0 : Int32)) (((Mdw34 0 6) - (1 : Int32))) H.size r37 Mdw38 f39) gX8_readSees_X8_number rfl rfl rfl zd_X8_number ⟨Nat.le_of_ble_eq_true rfl, Nat.le_of_ble_eq_true rfl⟩ rfl rfl rfl rfl rfl hl rfl (Nat.le_of_ble_eq_true rfl) dX8_readSees_28 ⟨Nat.le_of_ble_eq_true rfl, Nat.le_of_ble_eq_true rfl⟩) rfl rfl rfl (by decide) rfl rfl (fun H locs S => ?_)
    exact j31 Mdw38 r33 r37 _ _ _ S (lv_sub hl [1, 0] rfl) hF
  · have hF := zs_f hF c36
    refine lv_iconst (v := (-1 : Int32)) hx hb dX8_readSees_16 (by decide) ?_
    refine lv_goto (tgt := 31) hx hb dX8_readSees_17 (by decide) ?_
    exact j31 Mdw34 r33 (-1 : Int32) _ _ _ S (lv_sub hl [1, 0] rfl) hF

abbrev RMX8_readWork : Room := { frames := 5, cells := 0, slots := 0, locals := 109 }
theorem zn_X8_readWork_X8 : ∀ w ∈ wsX80, w ∈ wsX8_readWork := zs_inl wsX80 [45, 46, 47, 48, 49, 50, 51, 52, 53, 54, 55, 56, 57, 58, 59, 60, 61, 62, 63, 64, 65, 66, 67, 68, 69, 70, 71, 72, 73, 74, 75, 76, 77] (by decide +kernel)
set_option maxRecDepth 100000 in
set_option maxHeartbeats 4000000 in
theorem c_X8_readWork (l : Launch) (G : GG) (aMd : Ad) (Md : Ob) (mt : Int64) (sz : Nat) (rr : Int32) (Md_ : Ob) (hF : F_X8_readWork Md = some (rr, Md_)) : Met l yX8_readWork wsX8_readWork RMX8_readWork (va_Pc [.ref (aMd 0)] (zs_pre G (wX8 G aMd Md mt) sz)) (zs_Qi G (wX8 G aMd Md_ mt) rr (va_A (wX8 G aMd Md mt) sz)) 0 0 (va_A (wX8 G aMd Md mt) sz) := by
  refine zs_met (cc := cX8_readWork) (maxL := 5) (ret := (some .boolean)) (own := RX8) (Qc := zs_Qi G (wX8 G aMd Md_ mt) rr) (by decide) rfl rfl (Nat.le_of_ble_eq_true rfl) ?_
  intro p e s m args below meth c C A hK hA S _ _ ls hl
  have hl : lv_has ls 5 [(0, .ref (aMd 0))] := hl
  have hx := C.1.1
  have hb := C.1.2.1
  unfold F_X8_readWork at hF
  have j92 : ∀ (Md : Ob) (x4 : Int32) (H : Heap) (locs : List Loc) (ls : Array Slot), zs_S G A s.heap H locs (wX8 G aMd Md mt) → lv_has ls 5 [(4, .int x4)] → F_X8_readWork_92 Md x4 = some (rr, Md_) → W p l e RMX8_readWork s m args below meth c H locs 0 0 (MQ below (zs_Qi G (wX8 G aMd Md_ mt) rr A) args s 0 0 A) (F0 m 92 ls []) := by
    intro Md x4 H locs ls S hl hF
    unfold F_X8_readWork_92 at hF
    refine lv_iload hx hb dX8_readWork_92 (lv_at hl 0 rfl) ?_
    refine lv_if_lt (tgt := 101) hx hb dX8_readWork_94 (by decide) (fun c1 => ?_) (fun c1 => ?_)
    · have hF := zs_t hF c1
      refine lv_iconst (v := (0 : Int32)) hx hb dX8_readWork_101 (by decide) ?_
      obtain ⟨e2, e3⟩ := zs_s2 hF
      exact zs_zretE C S rfl e2 (by rw [e3]) dX8_readWork_102
    · have hF := zs_f hF c1
      refine lv_iconst (v := (1 : Int32)) hx hb dX8_readWork_97 (by decide) ?_
      refine lv_goto (tgt := 102) hx hb dX8_readWork_98 (by decide) ?_
      obtain ⟨e4, e5⟩ := zs_s2 hF
      exact zs_zretE C S rfl e4 (by rw [e5]) dX8_readWork_102
  have j59 : ∀ (Md : Ob) (x1 : Int32) (x2 : Int32) (x3 : Int32) (y0 : Int32) (H : Heap) (locs : List Loc) (ls : Array Slot), zs_S G A s.heap H locs (wX8 G aMd Md mt) → lv_has ls 5 [(0, .ref (aMd 0)), (1, .int x1), (2, .int x2), (3, .int x3)] → F_X8_readWork_59 Md x1 x2 x3 y0 = some (rr, Md_) → W p l e RMX8_readWork s m args below meth c H locs 0 0 (MQ below (zs_Qi G (wX8 G aMd Md_ mt) rr A) args s 0 0 A) (F0 m 59 ls [.int y0]) := by
    intro Md x1 x2 x3 y0 H locs ls S hl hF
    unfold F_X8_readWork_59 at hF
    refine lv_istore (lv' := [(4, .int y0), (0, .ref (aMd 0)), (1, .int x1), (2, .int x2), (3, .int x3)]) hx hb dX8_readWork_59 hl (by decide) rfl (fun ls hl => ?_)
    refine lv_iload hx hb dX8_readWork_61 (lv_at hl 0 rfl) ?_
    refine lv_if_lt (tgt := 92) hx hb dX8_readWork_63 (by decide) (fun c6 => ?_) (fun c6 => ?_)
    · have hF := zs_t hF c6
      exact j92 Md y0 _ _ _ S (lv_sub hl [0] rfl) hF
    · have hF := zs_f hF c6
      refine lv_aload_n hx hb dX8_readWork_66 rfl (lv_at hl 1 rfl) ?_
      refine zs_get C hK S 0 8 (Cn := RX8) (T := TX8) (N := 33) (ci := 8) rfl rfl (by decide) zn_X8_readWork_X8 (List.mem_of_getElem? (i := 2) rfl) rfl dX8_readWork_67 ?_
      refine lv_bipush (v := (12 : Int32)) hx hb dX8_readWork_70 (by decide) ?_
      refine lv_iload_n hx hb dX8_readWork_72 rfl (lv_at hl 2 rfl) ?_
      refine lv_iadd hx hb dX8_readWork_73 ?_
      refine lv_iload_n hx hb dX8_readWork_74 rfl (lv_at hl 3 rfl) ?_
      obtain ⟨h7, hF⟩ := zs_ckS hF
      obtain ⟨Mdw8, e9⟩ : ∃ q : Ob, q = zs_up Md 2 (((12 : Int32) + x1)).toNatClampNeg x2 := ⟨_, rfl⟩
      have hF := zs_letS hF e9
      refine zs_iast C hK S 2 (ws' := wX8 G aMd Mdw8 mt) rfl h7 (by rw [e9]; rfl) dX8_readWork_75 (fun H locs S => ?_)
      refine lv_aload_n hx hb dX8_readWork_76 rfl (lv_at hl 1 rfl) ?_
      refine zs_get C hK S 0 8 (Cn := RX8) (T := TX8) (N := 33) (ci := 8) rfl rfl (by decide) zn_X8_readWork_X8 (List.mem_of_getElem? (i := 2) rfl) rfl dX8_readWork_77 ?_
      refine lv_bipush (v := (18 : Int32)) hx hb dX8_readWork_80 (by decide) ?_
      refine lv_iload_n hx hb dX8_readWork_82 rfl (lv_at hl 2 rfl) ?_
      refine lv_iadd hx hb dX8_readWork_83 ?_
      refine lv_iload_n hx hb dX8_readWork_84 rfl (lv_at hl 4 rfl) ?_
      refine lv_bipush (v := (16 : Int32)) hx hb dX8_readWork_85 (by decide) ?_
      refine lv_iload hx hb dX8_readWork_87 (lv_at hl 0 rfl) ?_
      refine lv_imul hx hb dX8_readWork_89 ?_
      refine lv_iadd hx hb dX8_readWork_90 ?_
      obtain ⟨h10, hF⟩ := zs_ckS hF
      obtain ⟨Mdw11, e12⟩ : ∃ q : Ob, q = zs_up Mdw8 2 (((18 : Int32) + x1)).toNatClampNeg (x3 + ((16 : Int32) * y0)) := ⟨_, rfl⟩
      have hF := zs_letS hF e12
      refine zs_iast C hK S 2 (ws' := wX8 G aMd Mdw11 mt) rfl h10 (by rw [e12]; rfl) dX8_readWork_91 (fun H locs S => ?_)
      exact j92 Mdw11 y0 _ _ _ S (lv_sub hl [0] rfl) hF
  have j43 : ∀ (Md : Ob) (x1 : Int32) (x2 : Int32) (y0 : Int32) (H : Heap) (locs : List Loc) (ls : Array Slot), zs_S G A s.heap H locs (wX8 G aMd Md mt) → lv_has ls 5 [(0, .ref (aMd 0)), (1, .int x1), (2, .int x2)] → F_X8_readWork_43 Md x1 x2 y0 = some (rr, Md_) → W p l e RMX8_readWork s m args below meth c H locs 0 0 (MQ below (zs_Qi G (wX8 G aMd Md_ mt) rr A) args s 0 0 A) (F0 m 43 ls [.int y0]) := by
    intro Md x1 x2 y0 H locs ls S hl hF
    unfold F_X8_readWork_43 at hF
    refine lv_istore_n (lv' := [(3, .int y0), (0, .ref (aMd 0)), (1, .int x1), (2, .int x2)]) hx hb dX8_readWork_43 rfl hl (by decide) rfl (fun ls hl => ?_)
    refine lv_iload_n hx hb dX8_readWork_44 rfl (lv_at hl 0 rfl) ?_
    refine lv_if_ge (tgt := 52) hx hb dX8_readWork_45 (by decide) (fun c13 => ?_) (fun c13 => ?_)
    · have hF := zs_t hF c13
      refine lv_aload_n hx hb dX8_readWork_52 rfl (lv_at hl 1 rfl) ?_
      refine lv_iconst (v := (0 : Int32)) hx hb dX8_readWork_53 (by decide) ?_
      refine lv_bipush (v := (15 : Int32)) hx hb dX8_readWork_54 (by decide) ?_
      obtain ⟨r14, Mdw15, f16, hF⟩ := zs_b2S hF
      refine zs_calli (wr := ([] : va_W)) (ws' := wX8 G aMd Mdw15 mt) S hA [0, 1, 2, 3, 4, 5, 6, 7, 8, 9, 10, 11, 12, 13, 14, 15, 16, 17] [] [0, 1, 2, 3, 4, 5, 6, 7, 8, 9, 10, 11, 12, 13, 14, 15, 16, 17] (zs_runV C hK hA S [.int (0 : Int32), .int (15 : Int32)] [] [0, 1, 2, 3, 4, 5, 6, 7, 8, 9, 10, 11, 12, 13, 14, 15, 16, 17] 0 2 (c_X8_number l G aMd Md mt ((0 : Int32)) ((15 : Int32)) H.size r14 Mdw15 f16) gX8_readWork_X8_number rfl rfl rfl zd_X8_number ⟨Nat.le_of_ble_eq_true rfl, Nat.le_of_ble_eq_true rfl⟩ rfl rfl rfl rfl rfl hl rfl (Nat.le_of_ble_eq_true rfl) dX8_readWork_56 ⟨Nat.le_of_ble_eq_true rfl, Nat.le_of_ble_eq_true rfl⟩) rfl rfl rfl (by decide) rfl rfl (fun H locs S => ?_)
      exact j59 Mdw15 x1 x2 y0 r14 _ _ _ S (lv_sub hl [1, 2, 3, 0] rfl) hF
    · have hF := zs_f hF c13
      refine lv_iconst (v := (-1 : Int32)) hx hb dX8_readWork_48 (by decide) ?_
      refine lv_goto (tgt := 59) hx hb dX8_readWork_49 (by decide) ?_
      exact j59 Md x1 x2 y0 (-1 : Int32) _ _ _ S (lv_sub hl [1, 2, 3, 0] rfl) hF
  have j27 : ∀ (Md : Ob) (x1 : Int32) (y0 : Int32) (H : Heap) (locs : List Loc) (ls : Array Slot), zs_S G A s.heap H locs (wX8 G aMd Md mt) → lv_has ls 5 [(0, .ref (aMd 0)), (1, .int x1)] → F_X8_readWork_27 Md x1 y0 = some (rr, Md_) → W p l e RMX8_readWork s m args below meth c H locs 0 0 (MQ below (zs_Qi G (wX8 G aMd Md_ mt) rr A) args s 0 0 A) (F0 m 27 ls [.int y0]) := by
    intro Md x1 y0 H locs ls S hl hF
    unfold F_X8_readWork_27 at hF
    refine lv_istore_n (lv' := [(2, .int y0), (0, .ref (aMd 0)), (1, .int x1)]) hx hb dX8_readWork_27 rfl hl (by decide) rfl (fun ls hl => ?_)
    refine lv_iload_n hx hb dX8_readWork_28 rfl (lv_at hl 0 rfl) ?_
    refine lv_if_ge (tgt := 36) hx hb dX8_readWork_29 (by decide) (fun c17 => ?_) (fun c17 => ?_)
    · have hF := zs_t hF c17
      refine lv_aload_n hx hb dX8_readWork_36 rfl (lv_at hl 1 rfl) ?_
      refine lv_iconst (v := (0 : Int32)) hx hb dX8_readWork_37 (by decide) ?_
      refine lv_bipush (v := (15 : Int32)) hx hb dX8_readWork_38 (by decide) ?_
      obtain ⟨r18, Mdw19, f20, hF⟩ := zs_b2S hF
      refine zs_calli (wr := ([] : va_W)) (ws' := wX8 G aMd Mdw19 mt) S hA [0, 1, 2, 3, 4, 5, 6, 7, 8, 9, 10, 11, 12, 13, 14, 15, 16, 17] [] [0, 1, 2, 3, 4, 5, 6, 7, 8, 9, 10, 11, 12, 13, 14, 15, 16, 17] (zs_runV C hK hA S [.int (0 : Int32), .int (15 : Int32)] [] [0, 1, 2, 3, 4, 5, 6, 7, 8, 9, 10, 11, 12, 13, 14, 15, 16, 17] 0 2 (c_X8_number l G aMd Md mt ((0 : Int32)) ((15 : Int32)) H.size r18 Mdw19 f20) gX8_readWork_X8_number rfl rfl rfl zd_X8_number ⟨Nat.le_of_ble_eq_true rfl, Nat.le_of_ble_eq_true rfl⟩ rfl rfl rfl rfl rfl hl rfl (Nat.le_of_ble_eq_true rfl) dX8_readWork_40 ⟨Nat.le_of_ble_eq_true rfl, Nat.le_of_ble_eq_true rfl⟩) rfl rfl rfl (by decide) rfl rfl (fun H locs S => ?_)
      exact j43 Mdw19 x1 y0 r18 _ _ _ S (lv_sub hl [1, 2, 0] rfl) hF
    · have hF := zs_f hF c17
      refine lv_iconst (v := (-1 : Int32)) hx hb dX8_readWork_32 (by decide) ?_
      refine lv_goto (tgt := 43) hx hb dX8_readWork_33 (by decide) ?_
      exact j43 Md x1 y0 (-1 : Int32) _ _ _ S (lv_sub hl [1, 2, 0] rfl) hF
  refine lv_aload_n hx hb dX8_readWork_0 rfl (lv_at hl 0 rfl) ?_
  refine lv_iconst (v := (0 : Int32)) hx hb dX8_readWork_1 (by decide) ?_
  refine lv_aload_n hx hb dX8_readWork_2 rfl (lv_at hl 0 rfl) ?_
  refine zs_get C hK S 0 6 (Cn := RX8) (T := TX8) (N := 33) (ci := 8) rfl rfl (by decide) zn_X8_readWork_X8 (List.mem_of_getElem? (i := 1) rfl) rfl dX8_readWork_3 ?_
  refine lv_iconst (v := (1 : Int32)) hx hb dX8_readWork_6 (by decide) ?_
  refine lv_isub hx hb dX8_readWork_7 ?_
  obtain ⟨r21, Mdw22, f23, hF⟩ := zs_b2S hF
  refine zs_calli (wr := ([] : va_W)) (ws' := wX8 G aMd Mdw22 mt) S hA [0, 1, 2, 3, 4, 5, 6, 7, 8, 9, 10, 11, 12, 13, 14, 15, 16, 17] [] [0, 1, 2, 3, 4, 5, 6, 7, 8, 9, 10, 11, 12, 13, 14, 15, 16, 17] (zs_runV C hK hA S [.int (0 : Int32), .int ((Md 0 6) - (1 : Int32))] [] [0, 1, 2, 3, 4, 5, 6, 7, 8, 9, 10, 11, 12, 13, 14, 15, 16, 17] 0 2 (c_X8_number l G aMd Md mt ((0 : Int32)) (((Md 0 6) - (1 : Int32))) s.heap.size r21 Mdw22 f23) gX8_readWork_X8_number rfl rfl rfl zd_X8_number ⟨Nat.le_of_ble_eq_true rfl, Nat.le_of_ble_eq_true rfl⟩ rfl rfl rfl rfl rfl hl rfl (Nat.le_of_ble_eq_true rfl) dX8_readWork_8 ⟨Nat.le_of_ble_eq_true rfl, Nat.le_of_ble_eq_true rfl⟩) rfl rfl rfl (by decide) rfl rfl (fun H locs S => ?_)
  refine lv_istore_n (lv' := [(1, .int r21), (0, .ref (aMd 0))]) hx hb dX8_readWork_11 rfl hl (by decide) rfl (fun ls hl => ?_)
  refine lv_iload_n hx hb dX8_readWork_12 rfl (lv_at hl 0 rfl) ?_
  refine lv_if_ge (tgt := 20) hx hb dX8_readWork_13 (by decide) (fun c24 => ?_) (fun c24 => ?_)
  · have hF := zs_t hF c24
    refine lv_aload_n hx hb dX8_readWork_20 rfl (lv_at hl 1 rfl) ?_
    refine lv_iconst (v := (0 : Int32)) hx hb dX8_readWork_21 (by decide) ?_
    refine lv_bipush (v := (20 : Int32)) hx hb dX8_readWork_22 (by decide) ?_
    obtain ⟨r25, Mdw26, f27, hF⟩ := zs_b2S hF
    refine zs_calli (wr := ([] : va_W)) (ws' := wX8 G aMd Mdw26 mt) S hA [0, 1, 2, 3, 4, 5, 6, 7, 8, 9, 10, 11, 12, 13, 14, 15, 16, 17] [] [0, 1, 2, 3, 4, 5, 6, 7, 8, 9, 10, 11, 12, 13, 14, 15, 16, 17] (zs_runV C hK hA S [.int (0 : Int32), .int (20 : Int32)] [] [0, 1, 2, 3, 4, 5, 6, 7, 8, 9, 10, 11, 12, 13, 14, 15, 16, 17] 0 2 (c_X8_number l G aMd Mdw22 mt ((0 : Int32)) ((20 : Int32)) H.size r25 Mdw26 f27) gX8_readWork_X8_number rfl rfl rfl zd_X8_number ⟨Nat.le_of_ble_eq_true rfl, Nat.le_of_ble_eq_true rfl⟩ rfl rfl rfl rfl rfl hl rfl (Nat.le_of_ble_eq_true rfl) dX8_readWork_24 ⟨Nat.le_of_ble_eq_true rfl, Nat.le_of_ble_eq_true rfl⟩) rfl rfl rfl (by decide) rfl rfl (fun H locs S => ?_)
    exact j27 Mdw26 r21 r25 _ _ _ S (lv_sub hl [1, 0] rfl) hF
  · have hF := zs_f hF c24
    refine lv_iconst (v := (-1 : Int32)) hx hb dX8_readWork_16 (by decide) ?_
    refine lv_goto (tgt := 27) hx hb dX8_readWork_17 (by decide) ?_
    exact j27 Mdw22 r21 (-1 : Int32) _ _ _ S (lv_sub hl [1, 0] rfl) hF

theorem zd_X8_readSees : yX8_readSees.cls = RX8 ∧ yX8_readSees.cls ≠ "java/lang/invoke/MethodHandle" ∧ yX8_readSees.cls ≠ "java/lang/invoke/VarHandle" ∧ (parseMethodDescriptor yX8_readSees.desc).map (fun d => d.parameters.length) = some 0 := by decide +kernel
theorem zd_X8_readWall : yX8_readWall.cls = RX8 ∧ yX8_readWall.cls ≠ "java/lang/invoke/MethodHandle" ∧ yX8_readWall.cls ≠ "java/lang/invoke/VarHandle" ∧ (parseMethodDescriptor yX8_readWall.desc).map (fun d => d.parameters.length) = some 0 := by decide +kernel
theorem zd_X8_readWork : yX8_readWork.cls = RX8 ∧ yX8_readWork.cls ≠ "java/lang/invoke/MethodHandle" ∧ yX8_readWork.cls ≠ "java/lang/invoke/VarHandle" ∧ (parseMethodDescriptor yX8_readWork.desc).map (fun d => d.parameters.length) = some 0 := by decide +kernel
abbrev RMX8_readItem : Room := { frames := 6, cells := 0, slots := 0, locals := 133 }
theorem zn_X8_readItem_X8 : ∀ w ∈ wsX80, w ∈ wsX8_readItem := zs_inl wsX80 [63, 64, 65, 66, 67, 68, 69, 70, 71, 72, 73, 74, 75, 76, 77, 78, 79, 80, 81, 82, 83, 84, 85, 86, 87, 88, 89, 90, 91, 92, 93, 94, 95] (by decide +kernel)
set_option maxRecDepth 100000 in
set_option maxHeartbeats 4000000 in
theorem c_X8_readItem (l : Launch) (G : GG) (aMd : Ad) (Md : Ob) (mt : Int64) (sz : Nat) (rr : Int32) (Md_ : Ob) (hF : F_X8_readItem Md = some (rr, Md_)) : Met l yX8_readItem wsX8_readItem RMX8_readItem (va_Pc [.ref (aMd 0)] (zs_pre G (wX8 G aMd Md mt) sz)) (zs_Qi G (wX8 G aMd Md_ mt) rr (va_A (wX8 G aMd Md mt) sz)) 0 0 (va_A (wX8 G aMd Md mt) sz) := by
  refine zs_met (cc := cX8_readItem) (maxL := 3) (ret := (some .boolean)) (own := RX8) (Qc := zs_Qi G (wX8 G aMd Md_ mt) rr) (by decide) rfl rfl (Nat.le_of_ble_eq_true rfl) ?_
  intro p e s m args below meth c C A hK hA S _ _ ls hl
  have hl : lv_has ls 3 [(0, .ref (aMd 0))] := hl
  have hx := C.1.1
  have hb := C.1.2.1
  unfold F_X8_readItem at hF
  have j110 : ∀ (Md : Ob) (x2 : Int32) (H : Heap) (locs : List Loc) (ls : Array Slot), zs_S G A s.heap H locs (wX8 G aMd Md mt) → lv_has ls 3 [(0, .ref (aMd 0)), (2, .int x2)] → F_X8_readItem_110 Md x2 = some (rr, Md_) → W p l e RMX8_readItem s m args below meth c H locs 0 0 (MQ below (zs_Qi G (wX8 G aMd Md_ mt) rr A) args s 0 0 A) (F0 m 110 ls []) := by
    intro Md x2 H locs ls S hl hF
    unfold F_X8_readItem_110 at hF
    refine lv_iload_n hx hb dX8_readItem_110 rfl (lv_at hl 1 rfl) ?_
    refine lv_if_ne (tgt := 116) hx hb dX8_readItem_111 (by decide) (fun c1 => ?_) (fun c1 => ?_)
    · have hF := zs_f hF c1
      refine lv_aload_n hx hb dX8_readItem_116 rfl (lv_at hl 0 rfl) ?_
      obtain ⟨Mdw2, f3, hF⟩ := zs_bdS hF
      refine zs_callv (wr := ([] : va_W)) (ws' := wX8 G aMd Mdw2 mt) S hA [0, 1, 2, 3, 4, 5, 6, 7, 8, 9, 10, 11, 12, 13, 14, 15, 16, 17] [] [0, 1, 2, 3, 4, 5, 6, 7, 8, 9, 10, 11, 12, 13, 14, 15, 16, 17] (zs_runV C hK hA S [] [] [0, 1, 2, 3, 4, 5, 6, 7, 8, 9, 10, 11, 12, 13, 14, 15, 16, 17] 0 0 (c_X8_reads l G aMd Md mt H.size Mdw2 f3) gX8_readItem_X8_reads rfl rfl rfl zd_X8_reads ⟨Nat.le_of_ble_eq_true rfl, Nat.le_of_ble_eq_true rfl⟩ rfl rfl rfl rfl rfl hl rfl (Nat.le_of_ble_eq_true rfl) dX8_readItem_117 ⟨Nat.le_of_ble_eq_true rfl, Nat.le_of_ble_eq_true rfl⟩) rfl rfl rfl (by decide) rfl rfl (fun H locs S => ?_)
      refine lv_aload_n hx hb dX8_readItem_120 rfl (lv_at hl 0 rfl) ?_
      refine zs_get C hK S 0 4 (Cn := RX8) (T := TX8) (N := 33) (ci := 8) rfl rfl (by decide) zn_X8_readItem_X8 (List.mem_of_getElem? (i := 2) rfl) rfl dX8_readItem_121 ?_
      refine lv_iconst (v := (3 : Int32)) hx hb dX8_readItem_124 (by decide) ?_
      refine lv_icmp_ne (tgt := 132) hx hb dX8_readItem_125 (by decide) (fun c4 => ?_) (fun c4 => ?_)
      · have hF := zs_f hF c4
        refine lv_iconst (v := (0 : Int32)) hx hb dX8_readItem_132 (by decide) ?_
        obtain ⟨e5, e6⟩ := zs_s2 hF
        exact zs_zretE C S rfl e5 (by rw [e6]) dX8_readItem_133
      · have hF := zs_t hF c4
        refine lv_iconst (v := (1 : Int32)) hx hb dX8_readItem_128 (by decide) ?_
        refine lv_goto (tgt := 133) hx hb dX8_readItem_129 (by decide) ?_
        obtain ⟨e7, e8⟩ := zs_s2 hF
        exact zs_zretE C S rfl e7 (by rw [e8]) dX8_readItem_133
    · have hF := zs_t hF c1
      refine lv_iconst (v := (0 : Int32)) hx hb dX8_readItem_114 (by decide) ?_
      obtain ⟨e9, e10⟩ := zs_s2 hF
      exact zs_zretE C S rfl e9 (by rw [e10]) dX8_readItem_115
  have j109 : ∀ (Md : Ob) (y0 : Int32) (H : Heap) (locs : List Loc) (ls : Array Slot), zs_S G A s.heap H locs (wX8 G aMd Md mt) → lv_has ls 3 [(0, .ref (aMd 0))] → F_X8_readItem_109 Md y0 = some (rr, Md_) → W p l e RMX8_readItem s m args below meth c H locs 0 0 (MQ below (zs_Qi G (wX8 G aMd Md_ mt) rr A) args s 0 0 A) (F0 m 109 ls [.int y0]) := by
    intro Md y0 H locs ls S hl hF
    unfold F_X8_readItem_109 at hF
    refine lv_istore_n (lv' := [(2, .int y0), (0, .ref (aMd 0))]) hx hb dX8_readItem_109 rfl hl (by decide) rfl (fun ls hl => ?_)
    exact j110 Md y0 _ _ _ S (lv_sub hl [1, 0] rfl) hF
  have j80 : ∀ (Md : Ob) (x1 : Int32) (y0 : Int32) (H : Heap) (locs : List Loc) (ls : Array Slot), zs_S G A s.heap H locs (wX8 G aMd Md mt) → lv_has ls 3 [(0, .ref (aMd 0)), (1, .int x1)] → F_X8_readItem_80 Md x1 y0 = some (rr, Md_) → W p l e RMX8_readItem s m args below meth c H locs 0 0 (MQ below (zs_Qi G (wX8 G aMd Md_ mt) rr A) args s 0 0 A) (F0 m 80 ls [.int y0]) := by
    intro Md x1 y0 H locs ls S hl hF
    unfold F_X8_readItem_80 at hF
    refine lv_istore_n (lv' := [(2, .int y0), (0, .ref (aMd 0)), (1, .int x1)]) hx hb dX8_readItem_80 rfl hl (by decide) rfl (fun ls hl => ?_)
    refine lv_iload_n hx hb dX8_readItem_81 rfl (lv_at hl 2 rfl) ?_
    refine lv_iconst (v := (3 : Int32)) hx hb dX8_readItem_82 (by decide) ?_
    refine lv_icmp_ne (tgt := 110) hx hb dX8_readItem_83 (by decide) (fun c11 => ?_) (fun c11 => ?_)
    · have hF := zs_f hF c11
      exact j110 Md y0 _ _ _ S (lv_sub hl [1, 0] rfl) hF
    · have hF := zs_t hF c11
      refine lv_aload_n hx hb dX8_readItem_86 rfl (lv_at hl 1 rfl) ?_
      refine lv_aload_n hx hb dX8_readItem_87 rfl (lv_at hl 1 rfl) ?_
      refine lv_iconst (v := (0 : Int32)) hx hb dX8_readItem_88 (by decide) ?_
      refine lv_bipush (v := (99 : Int32)) hx hb dX8_readItem_89 (by decide) ?_
      obtain ⟨r12, Mdw13, f14, hF⟩ := zs_b2S hF
      refine zs_calli (wr := ([] : va_W)) (ws' := wX8 G aMd Mdw13 mt) S hA [0, 1, 2, 3, 4, 5, 6, 7, 8, 9, 10, 11, 12, 13, 14, 15, 16, 17] [] [0, 1, 2, 3, 4, 5, 6, 7, 8, 9, 10, 11, 12, 13, 14, 15, 16, 17] (zs_runV C hK hA S [.int (0 : Int32), .int (99 : Int32)] [.ref (aMd 0)] [0, 1, 2, 3, 4, 5, 6, 7, 8, 9, 10, 11, 12, 13, 14, 15, 16, 17] 0 2 (c_X8_number l G aMd Md mt ((0 : Int32)) ((99 : Int32)) H.size r12 Mdw13 f14) gX8_readItem_X8_number rfl rfl rfl zd_X8_number ⟨Nat.le_of_ble_eq_true rfl, Nat.le_of_ble_eq_true rfl⟩ rfl rfl rfl rfl rfl hl rfl (Nat.le_of_ble_eq_true rfl) dX8_readItem_91 ⟨Nat.le_of_ble_eq_true rfl, Nat.le_of_ble_eq_true rfl⟩) rfl rfl rfl (by decide) rfl rfl (fun H locs S => ?_)
      obtain ⟨Mdw15, e16⟩ : ∃ q : Ob, q = zs_up Mdw13 0 7 r12 := ⟨_, rfl⟩
      have hF := zs_letS hF e16
      refine zs_put C hK S 0 7 (ws' := wX8 G aMd Mdw15 mt) (Cn := RX8) (T := TX8) (N := 33) (ci := 8) rfl rfl (by decide) zn_X8_readItem_X8 tyX8_ok nmX8 (List.mem_of_getElem? (i := 4) rfl) rfl rfl rfl (Nat.le_of_ble_eq_true rfl) (by rw [e16]; rfl) dX8_readItem_94 (fun H locs S => ?_)
      refine lv_aload_n hx hb dX8_readItem_97 rfl (lv_at hl 1 rfl) ?_
      refine zs_get C hK S 0 7 (Cn := RX8) (T := TX8) (N := 33) (ci := 8) rfl rfl (by decide) zn_X8_readItem_X8 (List.mem_of_getElem? (i := 4) rfl) rfl dX8_readItem_98 ?_
      refine lv_if_lt (tgt := 108) hx hb dX8_readItem_101 (by decide) (fun c17 => ?_) (fun c17 => ?_)
      · have hF := zs_t hF c17
        refine lv_iconst (v := (0 : Int32)) hx hb dX8_readItem_108 (by decide) ?_
        exact j109 Mdw15 (0 : Int32) _ _ _ S (lv_sub hl [1] rfl) hF
      · have hF := zs_f hF c17
        refine lv_iconst (v := (1 : Int32)) hx hb dX8_readItem_104 (by decide) ?_
        refine lv_goto (tgt := 109) hx hb dX8_readItem_105 (by decide) ?_
        exact j109 Mdw15 (1 : Int32) _ _ _ S (lv_sub hl [1] rfl) hF
  have j79 : ∀ (Md : Ob) (x1 : Int32) (H : Heap) (locs : List Loc) (ls : Array Slot), zs_S G A s.heap H locs (wX8 G aMd Md mt) → lv_has ls 3 [(0, .ref (aMd 0)), (1, .int x1)] → F_X8_readItem_79 Md x1 = some (rr, Md_) → W p l e RMX8_readItem s m args below meth c H locs 0 0 (MQ below (zs_Qi G (wX8 G aMd Md_ mt) rr A) args s 0 0 A) (F0 m 79 ls []) := by
    intro Md x1 H locs ls S hl hF
    unfold F_X8_readItem_79 at hF
    refine lv_iconst (v := (0 : Int32)) hx hb dX8_readItem_79 (by decide) ?_
    exact j80 Md x1 (0 : Int32) _ _ _ S (lv_sub hl [0, 1] rfl) hF
  have j40 : ∀ (Md : Ob) (x1 : Int32) (H : Heap) (locs : List Loc) (ls : Array Slot), zs_S G A s.heap H locs (wX8 G aMd Md mt) → lv_has ls 3 [(0, .ref (aMd 0)), (1, .int x1)] → F_X8_readItem_40 Md x1 = some (rr, Md_) → W p l e RMX8_readItem s m args below meth c H locs 0 0 (MQ below (zs_Qi G (wX8 G aMd Md_ mt) rr A) args s 0 0 A) (F0 m 40 ls []) := by
    intro Md x1 H locs ls S hl hF
    unfold F_X8_readItem_40 at hF
    refine lv_iload_n hx hb dX8_readItem_40 rfl (lv_at hl 1 rfl) ?_
    refine lv_if_ne (tgt := 51) hx hb dX8_readItem_41 (by decide) (fun c18 => ?_) (fun c18 => ?_)
    · have hF := zs_f hF c18
      refine lv_iload_n hx hb dX8_readItem_51 rfl (lv_at hl 1 rfl) ?_
      refine lv_iconst (v := (1 : Int32)) hx hb dX8_readItem_52 (by decide) ?_
      refine lv_icmp_ne (tgt := 63) hx hb dX8_readItem_53 (by decide) (fun c19 => ?_) (fun c19 => ?_)
      · have hF := zs_f hF c19
        refine lv_iload_n hx hb dX8_readItem_63 rfl (lv_at hl 1 rfl) ?_
        refine lv_iconst (v := (2 : Int32)) hx hb dX8_readItem_64 (by decide) ?_
        refine lv_icmp_ne (tgt := 79) hx hb dX8_readItem_65 (by decide) (fun c20 => ?_) (fun c20 => ?_)
        · have hF := zs_f hF c20
          exact j79 Md x1 _ _ _ S (lv_sub hl [0, 1] rfl) hF
        · have hF := zs_t hF c20
          refine lv_aload_n hx hb dX8_readItem_68 rfl (lv_at hl 0 rfl) ?_
          obtain ⟨r21, Mdw22, f23, hF⟩ := zs_b2S hF
          refine zs_calli (wr := ([] : va_W)) (ws' := wX8 G aMd Mdw22 mt) S hA [0, 1, 2, 3, 4, 5, 6, 7, 8, 9, 10, 11, 12, 13, 14, 15, 16, 17] [] [0, 1, 2, 3, 4, 5, 6, 7, 8, 9, 10, 11, 12, 13, 14, 15, 16, 17] (zs_runV C hK hA S [] [] [0, 1, 2, 3, 4, 5, 6, 7, 8, 9, 10, 11, 12, 13, 14, 15, 16, 17] 0 0 (c_X8_readWork l G aMd Md mt H.size r21 Mdw22 f23) gX8_readItem_X8_readWork rfl rfl rfl zd_X8_readWork ⟨Nat.le_of_ble_eq_true rfl, Nat.le_of_ble_eq_true rfl⟩ rfl rfl rfl rfl rfl hl rfl (Nat.le_of_ble_eq_true rfl) dX8_readItem_69 ⟨Nat.le_of_ble_eq_true rfl, Nat.le_of_ble_eq_true rfl⟩) rfl rfl rfl (by decide) rfl rfl (fun H locs S => ?_)
          refine lv_if_eq (tgt := 79) hx hb dX8_readItem_72 (by decide) (fun c24 => ?_) (fun c24 => ?_)
          · have hF := zs_t hF c24
            exact j79 Mdw22 x1 _ _ _ S (lv_sub hl [0, 1] rfl) hF
          · have hF := zs_f hF c24
            refine lv_iconst (v := (1 : Int32)) hx hb dX8_readItem_75 (by decide) ?_
            refine lv_goto (tgt := 80) hx hb dX8_readItem_76 (by decide) ?_
            exact j80 Mdw22 x1 (1 : Int32) _ _ _ S (lv_sub hl [0, 1] rfl) hF
      · have hF := zs_t hF c19
        refine lv_aload_n hx hb dX8_readItem_56 rfl (lv_at hl 0 rfl) ?_
        obtain ⟨r25, Mdw26, f27, hF⟩ := zs_b2S hF
        refine zs_calli (wr := ([] : va_W)) (ws' := wX8 G aMd Mdw26 mt) S hA [0, 1, 2, 3, 4, 5, 6, 7, 8, 9, 10, 11, 12, 13, 14, 15, 16, 17] [] [0, 1, 2, 3, 4, 5, 6, 7, 8, 9, 10, 11, 12, 13, 14, 15, 16, 17] (zs_runV C hK hA S [] [] [0, 1, 2, 3, 4, 5, 6, 7, 8, 9, 10, 11, 12, 13, 14, 15, 16, 17] 0 0 (c_X8_readSees l G aMd Md mt H.size r25 Mdw26 f27) gX8_readItem_X8_readSees rfl rfl rfl zd_X8_readSees ⟨Nat.le_of_ble_eq_true rfl, Nat.le_of_ble_eq_true rfl⟩ rfl rfl rfl rfl rfl hl rfl (Nat.le_of_ble_eq_true rfl) dX8_readItem_57 ⟨Nat.le_of_ble_eq_true rfl, Nat.le_of_ble_eq_true rfl⟩) rfl rfl rfl (by decide) rfl rfl (fun H locs S => ?_)
        refine lv_goto (tgt := 80) hx hb dX8_readItem_60 (by decide) ?_
        exact j80 Mdw26 x1 r25 _ _ _ S (lv_sub hl [0, 1] rfl) hF
    · have hF := zs_t hF c18
      refine lv_aload_n hx hb dX8_readItem_44 rfl (lv_at hl 0 rfl) ?_
      obtain ⟨r28, Mdw29, f30, hF⟩ := zs_b2S hF
      refine zs_calli (wr := ([] : va_W)) (ws' := wX8 G aMd Mdw29 mt) S hA [0, 1, 2, 3, 4, 5, 6, 7, 8, 9, 10, 11, 12, 13, 14, 15, 16, 17] [] [0, 1, 2, 3, 4, 5, 6, 7, 8, 9, 10, 11, 12, 13, 14, 15, 16, 17] (zs_runV C hK hA S [] [] [0, 1, 2, 3, 4, 5, 6, 7, 8, 9, 10, 11, 12, 13, 14, 15, 16, 17] 0 0 (c_X8_readWall l G aMd Md mt H.size r28 Mdw29 f30) gX8_readItem_X8_readWall rfl rfl rfl zd_X8_readWall ⟨Nat.le_of_ble_eq_true rfl, Nat.le_of_ble_eq_true rfl⟩ rfl rfl rfl rfl rfl hl rfl (Nat.le_of_ble_eq_true rfl) dX8_readItem_45 ⟨Nat.le_of_ble_eq_true rfl, Nat.le_of_ble_eq_true rfl⟩) rfl rfl rfl (by decide) rfl rfl (fun H locs S => ?_)
      refine lv_goto (tgt := 80) hx hb dX8_readItem_48 (by decide) ?_
      exact j80 Mdw29 x1 r28 _ _ _ S (lv_sub hl [0, 1] rfl) hF
  have j26 : ∀ (Md : Ob) (x1 : Int32) (H : Heap) (locs : List Loc) (ls : Array Slot), zs_S G A s.heap H locs (wX8 G aMd Md mt) → lv_has ls 3 [(0, .ref (aMd 0)), (1, .int x1)] → F_X8_readItem_26 Md x1 = some (rr, Md_) → W p l e RMX8_readItem s m args below meth c H locs 0 0 (MQ below (zs_Qi G (wX8 G aMd Md_ mt) rr A) args s 0 0 A) (F0 m 26 ls []) := by
    intro Md x1 H locs ls S hl hF
    unfold F_X8_readItem_26 at hF
    refine lv_iload_n hx hb dX8_readItem_26 rfl (lv_at hl 1 rfl) ?_
    refine lv_iconst (v := (3 : Int32)) hx hb dX8_readItem_27 (by decide) ?_
    refine lv_icmp_ne (tgt := 40) hx hb dX8_readItem_28 (by decide) (fun c31 => ?_) (fun c31 => ?_)
    · have hF := zs_f hF c31
      exact j40 Md x1 _ _ _ S (lv_sub hl [0, 1] rfl) hF
    · have hF := zs_t hF c31
      refine lv_aload_n hx hb dX8_readItem_31 rfl (lv_at hl 0 rfl) ?_
      refine zs_get C hK S 0 7 (Cn := RX8) (T := TX8) (N := 33) (ci := 8) rfl rfl (by decide) zn_X8_readItem_X8 (List.mem_of_getElem? (i := 4) rfl) rfl dX8_readItem_32 ?_
      refine lv_if_lt (tgt := 40) hx hb dX8_readItem_35 (by decide) (fun c32 => ?_) (fun c32 => ?_)
      · have hF := zs_t hF c32
        exact j40 Md x1 _ _ _ S (lv_sub hl [0, 1] rfl) hF
      · have hF := zs_f hF c32
        refine lv_iconst (v := (0 : Int32)) hx hb dX8_readItem_38 (by decide) ?_
        obtain ⟨e33, e34⟩ := zs_s2 hF
        exact zs_zretE C S rfl e33 (by rw [e34]) dX8_readItem_39
  refine lv_aload_n hx hb dX8_readItem_0 rfl (lv_at hl 0 rfl) ?_
  refine zs_get C hK S 0 5 (Cn := RX8) (T := TX8) (N := 33) (ci := 8) rfl rfl (by decide) zn_X8_readItem_X8 (List.mem_of_getElem? (i := 1) rfl) rfl dX8_readItem_1 ?_
  refine lv_topi (fun z35 e36 => ?_)
  have hF := zs_letS hF e36
  refine lv_istore_n (lv' := [(1, .int z35), (0, .ref (aMd 0))]) hx hb dX8_readItem_4 rfl hl (by decide) rfl (fun ls hl => ?_)
  refine lv_aload_n hx hb dX8_readItem_5 rfl (lv_at hl 1 rfl) ?_
  refine zs_get C hK S 0 4 (Cn := RX8) (T := TX8) (N := 33) (ci := 8) rfl rfl (by decide) zn_X8_readItem_X8 (List.mem_of_getElem? (i := 2) rfl) rfl dX8_readItem_6 ?_
  refine lv_iconst (v := (1 : Int32)) hx hb dX8_readItem_9 (by decide) ?_
  refine lv_icmp_ne (tgt := 38) hx hb dX8_readItem_10 (by decide) (fun c37 => ?_) (fun c37 => ?_)
  · have hF := zs_f hF c37
    refine lv_iconst (v := (0 : Int32)) hx hb dX8_readItem_38 (by decide) ?_
    obtain ⟨e38, e39⟩ := zs_s2 hF
    exact zs_zretE C S rfl e38 (by rw [e39]) dX8_readItem_39
  · have hF := zs_t hF c37
    refine lv_iload_n hx hb dX8_readItem_13 rfl (lv_at hl 0 rfl) ?_
    refine lv_if_ne (tgt := 26) hx hb dX8_readItem_14 (by decide) (fun c40 => ?_) (fun c40 => ?_)
    · have hF := zs_f hF c40
      exact j26 Md z35 _ _ _ S (lv_sub hl [1, 0] rfl) hF
    · have hF := zs_t hF c40
      refine lv_aload_n hx hb dX8_readItem_17 rfl (lv_at hl 1 rfl) ?_
      refine zs_get C hK S 0 6 (Cn := RX8) (T := TX8) (N := 33) (ci := 8) rfl rfl (by decide) zn_X8_readItem_X8 (List.mem_of_getElem? (i := 3) rfl) rfl dX8_readItem_18 ?_
      refine lv_bipush (v := (6 : Int32)) hx hb dX8_readItem_21 (by decide) ?_
      refine lv_icmp_eq (tgt := 38) hx hb dX8_readItem_23 (by decide) (fun c41 => ?_) (fun c41 => ?_)
      · have hF := zs_t hF c41
        refine lv_iconst (v := (0 : Int32)) hx hb dX8_readItem_38 (by decide) ?_
        obtain ⟨e42, e43⟩ := zs_s2 hF
        exact zs_zretE C S rfl e42 (by rw [e43]) dX8_readItem_39
      · have hF := zs_f hF c41
        exact j26 Md z35 _ _ _ S (lv_sub hl [1, 0] rfl) hF

abbrev RMX8_takes : Room := { frames := 0, cells := 0, slots := 0, locals := 0 }
theorem zn_X8_takes_X8 : ∀ w ∈ wsX80, w ∈ wsX8_takes := zs_inl wsX80 [20, 21, 22, 23, 24, 25, 26, 27, 28, 29, 30, 31, 32, 33, 34, 35, 36, 37, 38, 39, 40, 41, 42, 43, 44, 45, 46, 47, 48, 49, 50, 51, 52] (by decide +kernel)
set_option maxRecDepth 100000 in
set_option maxHeartbeats 4000000 in
theorem c_X8_takes (l : Launch) (G : GG) (aMd : Ad) (Md : Ob) (mt : Int64) (sz : Nat) (Md_ : Ob) (hF : F_X8_takes Md = some Md_) : Met l yX8_takes wsX8_takes RMX8_takes (va_Pc [.ref (aMd 0)] (zs_pre G (wX8 G aMd Md mt) sz)) (zs_Qv G (wX8 G aMd Md_ mt) (va_A (wX8 G aMd Md mt) sz)) 0 0 (va_A (wX8 G aMd Md mt) sz) := by
  refine zs_met (cc := cX8_takes) (maxL := 2) (ret := none) (own := RX8) (Qc := zs_Qv G (wX8 G aMd Md_ mt)) (by decide) rfl rfl (Nat.le_of_ble_eq_true rfl) ?_
  intro p e s m args below meth c C A hK hA S _ _ ls hl
  have hl : lv_has ls 2 [(0, .ref (aMd 0))] := hl
  have hx := C.1.1
  have hb := C.1.2.1
  unfold F_X8_takes at hF
  have j145 : ∀ (Md : Ob) (H : Heap) (locs : List Loc) (ls : Array Slot), zs_S G A s.heap H locs (wX8 G aMd Md mt) → lv_has ls 2 [(0, .ref (aMd 0))] → F_X8_takes_145 Md = some Md_ → W p l e RMX8_takes s m args below meth c H locs 0 0 (MQ below (zs_Qv G (wX8 G aMd Md_ mt) A) args s 0 0 A) (F0 m 145 ls []) := by
    intro Md H locs ls S hl hF
    unfold F_X8_takes_145 at hF
    refine lv_aload_n hx hb dX8_takes_145 rfl (lv_at hl 0 rfl) ?_
    refine lv_iconst (v := (0 : Int32)) hx hb dX8_takes_146 (by decide) ?_
    obtain ⟨Mdw1, e2⟩ : ∃ q : Ob, q = zs_up Md 0 18 (0 : Int32) := ⟨_, rfl⟩
    have hF := zs_letS hF e2
    refine zs_put C hK S 0 18 (ws' := wX8 G aMd Mdw1 mt) (Cn := RX8) (T := TX8) (N := 33) (ci := 8) rfl rfl (by decide) zn_X8_takes_X8 tyX8_ok nmX8 (List.mem_of_getElem? (i := 13) rfl) rfl rfl rfl (Nat.le_of_ble_eq_true rfl) (by rw [e2]; rfl) dX8_takes_147 (fun H locs S => ?_)
    refine lv_aload_n hx hb dX8_takes_150 rfl (lv_at hl 0 rfl) ?_
    refine lv_iconst (v := (0 : Int32)) hx hb dX8_takes_151 (by decide) ?_
    obtain ⟨Mdw3, e4⟩ : ∃ q : Ob, q = zs_up Mdw1 0 19 (0 : Int32) := ⟨_, rfl⟩
    have hF := zs_letS hF e4
    refine zs_put C hK S 0 19 (ws' := wX8 G aMd Mdw3 mt) (Cn := RX8) (T := TX8) (N := 33) (ci := 8) rfl rfl (by decide) zn_X8_takes_X8 tyX8_ok nmX8 (List.mem_of_getElem? (i := 14) rfl) rfl rfl rfl (Nat.le_of_ble_eq_true rfl) (by rw [e4]; rfl) dX8_takes_152 (fun H locs S => ?_)
    refine lv_aload_n hx hb dX8_takes_155 rfl (lv_at hl 0 rfl) ?_
    refine lv_iconst (v := (0 : Int32)) hx hb dX8_takes_156 (by decide) ?_
    obtain ⟨Mdw5, e6⟩ : ∃ q : Ob, q = zs_up Mdw3 0 20 (0 : Int32) := ⟨_, rfl⟩
    have hF := zs_letS hF e6
    refine zs_put C hK S 0 20 (ws' := wX8 G aMd Mdw5 mt) (Cn := RX8) (T := TX8) (N := 33) (ci := 8) rfl rfl (by decide) zn_X8_takes_X8 tyX8_ok nmX8 (List.mem_of_getElem? (i := 15) rfl) rfl rfl rfl (Nat.le_of_ble_eq_true rfl) (by rw [e6]; rfl) dX8_takes_157 (fun H locs S => ?_)
    refine lv_aload_n hx hb dX8_takes_160 rfl (lv_at hl 0 rfl) ?_
    refine lv_iconst (v := (0 : Int32)) hx hb dX8_takes_161 (by decide) ?_
    obtain ⟨Mdw7, e8⟩ : ∃ q : Ob, q = zs_up Mdw5 0 21 (0 : Int32) := ⟨_, rfl⟩
    have hF := zs_letS hF e8
    refine zs_put C hK S 0 21 (ws' := wX8 G aMd Mdw7 mt) (Cn := RX8) (T := TX8) (N := 33) (ci := 8) rfl rfl (by decide) zn_X8_takes_X8 tyX8_ok nmX8 (List.mem_of_getElem? (i := 16) rfl) rfl rfl rfl (Nat.le_of_ble_eq_true rfl) (by rw [e8]; rfl) dX8_takes_162 (fun H locs S => ?_)
    refine lv_aload_n hx hb dX8_takes_165 rfl (lv_at hl 0 rfl) ?_
    refine lv_iconst (v := (0 : Int32)) hx hb dX8_takes_166 (by decide) ?_
    obtain ⟨Mdw9, e10⟩ : ∃ q : Ob, q = zs_up Mdw7 0 24 (0 : Int32) := ⟨_, rfl⟩
    have hF := zs_letS hF e10
    refine zs_put C hK S 0 24 (ws' := wX8 G aMd Mdw9 mt) (Cn := RX8) (T := TX8) (N := 33) (ci := 8) rfl rfl (by decide) zn_X8_takes_X8 tyX8_ok nmX8 (List.mem_of_getElem? (i := 17) rfl) rfl rfl rfl (Nat.le_of_ble_eq_true rfl) (by rw [e10]; rfl) dX8_takes_167 (fun H locs S => ?_)
    refine lv_aload_n hx hb dX8_takes_170 rfl (lv_at hl 0 rfl) ?_
    refine lv_iconst (v := (0 : Int32)) hx hb dX8_takes_171 (by decide) ?_
    obtain ⟨Mdw11, e12⟩ : ∃ q : Ob, q = zs_up Mdw9 0 27 (0 : Int32) := ⟨_, rfl⟩
    have hF := zs_letS hF e12
    refine zs_put C hK S 0 27 (ws' := wX8 G aMd Mdw11 mt) (Cn := RX8) (T := TX8) (N := 33) (ci := 8) rfl rfl (by decide) zn_X8_takes_X8 tyX8_ok nmX8 (List.mem_of_getElem? (i := 18) rfl) rfl rfl rfl (Nat.le_of_ble_eq_true rfl) (by rw [e12]; rfl) dX8_takes_172 (fun H locs S => ?_)
    refine lv_aload_n hx hb dX8_takes_175 rfl (lv_at hl 0 rfl) ?_
    refine zs_get C hK S 0 32 (Cn := RX8) (T := TX8) (N := 33) (ci := 8) rfl rfl (by decide) zn_X8_takes_X8 (List.mem_of_getElem? (i := 19) rfl) rfl dX8_takes_176 ?_
    refine lv_iconst (v := (0 : Int32)) hx hb dX8_takes_179 (by decide) ?_
    refine lv_iconst (v := (-1 : Int32)) hx hb dX8_takes_180 (by decide) ?_
    obtain ⟨h13, hF⟩ := zs_ckS hF
    obtain ⟨Mdw14, e15⟩ : ∃ q : Ob, q = zs_up Mdw11 17 ((0 : Int32)).toNatClampNeg (-1 : Int32) := ⟨_, rfl⟩
    have hF := zs_letS hF e15
    refine zs_iast C hK S 17 (ws' := wX8 G aMd Mdw14 mt) rfl h13 (by rw [e15]; rfl) dX8_takes_181 (fun H locs S => ?_)
    refine lv_aload_n hx hb dX8_takes_182 rfl (lv_at hl 0 rfl) ?_
    refine zs_get C hK S 0 32 (Cn := RX8) (T := TX8) (N := 33) (ci := 8) rfl rfl (by decide) zn_X8_takes_X8 (List.mem_of_getElem? (i := 19) rfl) rfl dX8_takes_183 ?_
    refine lv_bipush (v := (21 : Int32)) hx hb dX8_takes_186 (by decide) ?_
    refine lv_iconst (v := (-1 : Int32)) hx hb dX8_takes_188 (by decide) ?_
    obtain ⟨h16, hF⟩ := zs_ckS hF
    obtain ⟨Mdw17, e18⟩ : ∃ q : Ob, q = zs_up Mdw14 17 ((21 : Int32)).toNatClampNeg (-1 : Int32) := ⟨_, rfl⟩
    have hF := zs_letS hF e18
    refine zs_iast C hK S 17 (ws' := wX8 G aMd Mdw17 mt) rfl h16 (by rw [e18]; rfl) dX8_takes_189 (fun H locs S => ?_)
    have e19 := zs_s1 hF
    exact zs_vretE C S (by rw [e19]) dX8_takes_190
  have j121 : ∀ (n121 : Nat) (Md : Ob) (x1 : Int32) (H : Heap) (locs : List Loc) (ls : Array Slot), zs_S G A s.heap H locs (wX8 G aMd Md mt) → lv_has ls 2 [(0, .ref (aMd 0)), (1, .int x1)] → F_X8_takes_121 n121 Md x1 = some Md_ → W p l e RMX8_takes s m args below meth c H locs 0 0 (MQ below (zs_Qv G (wX8 G aMd Md_ mt) A) args s 0 0 A) (F0 m 121 ls []) := by
    intro n121
    induction n121 with
    | zero => intro Md x1 H locs ls _ _ hF; rw [F_X8_takes_121_z] at hF; cases hF
    | succ n121 ih121 =>
      intro Md x1 H locs ls S hl hF
      rw [F_X8_takes_121_n] at hF
      unfold F_X8_takes_121_s at hF
      refine lv_iload_n hx hb dX8_takes_121 rfl (lv_at hl 1 rfl) ?_
      refine lv_bipush (v := (36 : Int32)) hx hb dX8_takes_122 (by decide) ?_
      refine lv_icmp_ge (tgt := 145) hx hb dX8_takes_124 (by decide) (fun c20 => ?_) (fun c20 => ?_)
      · have hF := zs_t hF c20
        exact j145 Md _ _ _ S (lv_sub hl [0] rfl) hF
      · have hF := zs_f hF c20
        refine lv_aload_n hx hb dX8_takes_127 rfl (lv_at hl 0 rfl) ?_
        refine zs_get C hK S 0 16 (Cn := RX8) (T := TX8) (N := 33) (ci := 8) rfl rfl (by decide) zn_X8_takes_X8 (List.mem_of_getElem? (i := 11) rfl) rfl dX8_takes_128 ?_
        refine lv_iload_n hx hb dX8_takes_131 rfl (lv_at hl 1 rfl) ?_
        refine lv_aload_n hx hb dX8_takes_132 rfl (lv_at hl 0 rfl) ?_
        refine zs_get C hK S 0 9 (Cn := RX8) (T := TX8) (N := 33) (ci := 8) rfl rfl (by decide) zn_X8_takes_X8 (List.mem_of_getElem? (i := 12) rfl) rfl dX8_takes_133 ?_
        refine lv_iload_n hx hb dX8_takes_136 rfl (lv_at hl 1 rfl) ?_
        obtain ⟨h21, hF⟩ := zs_ckS hF
        refine zs_iald C hK S 3 rfl h21 dX8_takes_137 ?_
        obtain ⟨h22, hF⟩ := zs_ckS hF
        obtain ⟨Mdw23, e24⟩ : ∃ q : Ob, q = zs_up Md 8 (x1).toNatClampNeg (Md 3 (x1).toNatClampNeg) := ⟨_, rfl⟩
        have hF := zs_letS hF e24
        refine zs_iast C hK S 8 (ws' := wX8 G aMd Mdw23 mt) rfl h22 (by rw [e24]; rfl) dX8_takes_138 (fun H locs S => ?_)
        obtain ⟨z25, e26⟩ : ∃ q : Int32, q = x1 + (1 : Int32) := ⟨_, rfl⟩
        have hF := zs_letS hF e26
        refine lv_iinc (v := z25) (lv' := [(1, .int z25), (0, .ref (aMd 0))]) hx hb dX8_takes_139 hl (k := 1) rfl (by rw [e26]; rfl) (by decide) rfl (fun ls hl => ?_)
        refine lv_goto (tgt := 121) hx hb dX8_takes_142 (by decide) ?_
        exact ih121 Mdw23 z25 _ _ _ S (lv_sub hl [1, 0] rfl) hF
  have j119 : ∀ (Md : Ob) (H : Heap) (locs : List Loc) (ls : Array Slot), zs_S G A s.heap H locs (wX8 G aMd Md mt) → lv_has ls 2 [(0, .ref (aMd 0))] → F_X8_takes_119 Md = some Md_ → W p l e RMX8_takes s m args below meth c H locs 0 0 (MQ below (zs_Qv G (wX8 G aMd Md_ mt) A) args s 0 0 A) (F0 m 119 ls []) := by
    intro Md H locs ls S hl hF
    unfold F_X8_takes_119 at hF
    refine lv_iconst (v := (0 : Int32)) hx hb dX8_takes_119 (by decide) ?_
    refine lv_istore_n (lv' := [(1, .int (0 : Int32)), (0, .ref (aMd 0))]) hx hb dX8_takes_120 rfl hl (by decide) rfl (fun ls hl => ?_)
    exact j121 1000 Md (0 : Int32) _ _ _ S (lv_sub hl [1, 0] rfl) hF
  have j36 : ∀ (n36 : Nat) (Md : Ob) (x1 : Int32) (H : Heap) (locs : List Loc) (ls : Array Slot), zs_S G A s.heap H locs (wX8 G aMd Md mt) → lv_has ls 2 [(0, .ref (aMd 0)), (1, .int x1)] → F_X8_takes_36 n36 Md x1 = some Md_ → W p l e RMX8_takes s m args below meth c H locs 0 0 (MQ below (zs_Qv G (wX8 G aMd Md_ mt) A) args s 0 0 A) (F0 m 36 ls []) := by
    intro n36
    induction n36 with
    | zero => intro Md x1 H locs ls _ _ hF; rw [F_X8_takes_36_z] at hF; cases hF
    | succ n36 ih36 =>
      intro Md x1 H locs ls S hl hF
      rw [F_X8_takes_36_n] at hF
      unfold F_X8_takes_36_s at hF
      refine lv_iload_n hx hb dX8_takes_36 rfl (lv_at hl 1 rfl) ?_
      refine lv_aload_n hx hb dX8_takes_37 rfl (lv_at hl 0 rfl) ?_
      refine zs_get C hK S 0 10 (Cn := RX8) (T := TX8) (N := 33) (ci := 8) rfl rfl (by decide) zn_X8_takes_X8 (List.mem_of_getElem? (i := 2) rfl) rfl dX8_takes_38 ?_
      refine lv_icmp_ge (tgt := 119) hx hb dX8_takes_41 (by decide) (fun c27 => ?_) (fun c27 => ?_)
      · have hF := zs_t hF c27
        exact j119 Md _ _ _ S (lv_sub hl [0] rfl) hF
      · have hF := zs_f hF c27
        refine lv_aload_n hx hb dX8_takes_44 rfl (lv_at hl 0 rfl) ?_
        refine zs_get C hK S 0 12 (Cn := RX8) (T := TX8) (N := 33) (ci := 8) rfl rfl (by decide) zn_X8_takes_X8 (List.mem_of_getElem? (i := 5) rfl) rfl dX8_takes_45 ?_
        refine lv_iload_n hx hb dX8_takes_48 rfl (lv_at hl 1 rfl) ?_
        refine lv_aload_n hx hb dX8_takes_49 rfl (lv_at hl 0 rfl) ?_
        refine zs_get C hK S 0 8 (Cn := RX8) (T := TX8) (N := 33) (ci := 8) rfl rfl (by decide) zn_X8_takes_X8 (List.mem_of_getElem? (i := 6) rfl) rfl dX8_takes_50 ?_
        refine lv_iload_n hx hb dX8_takes_53 rfl (lv_at hl 1 rfl) ?_
        obtain ⟨h28, hF⟩ := zs_ckS hF
        refine zs_iald C hK S 2 rfl h28 dX8_takes_54 ?_
        obtain ⟨h29, hF⟩ := zs_ckS hF
        obtain ⟨Mdw30, e31⟩ : ∃ q : Ob, q = zs_up Md 4 (x1).toNatClampNeg (Md 2 (x1).toNatClampNeg) := ⟨_, rfl⟩
        have hF := zs_letS hF e31
        refine zs_iast C hK S 4 (ws' := wX8 G aMd Mdw30 mt) rfl h29 (by rw [e31]; rfl) dX8_takes_55 (fun H locs S => ?_)
        refine lv_aload_n hx hb dX8_takes_56 rfl (lv_at hl 0 rfl) ?_
        refine zs_get C hK S 0 13 (Cn := RX8) (T := TX8) (N := 33) (ci := 8) rfl rfl (by decide) zn_X8_takes_X8 (List.mem_of_getElem? (i := 7) rfl) rfl dX8_takes_57 ?_
        refine lv_iload_n hx hb dX8_takes_60 rfl (lv_at hl 1 rfl) ?_
        refine lv_aload_n hx hb dX8_takes_61 rfl (lv_at hl 0 rfl) ?_
        refine zs_get C hK S 0 8 (Cn := RX8) (T := TX8) (N := 33) (ci := 8) rfl rfl (by decide) zn_X8_takes_X8 (List.mem_of_getElem? (i := 6) rfl) rfl dX8_takes_62 ?_
        refine lv_bipush (v := (6 : Int32)) hx hb dX8_takes_65 (by decide) ?_
        refine lv_iload_n hx hb dX8_takes_67 rfl (lv_at hl 1 rfl) ?_
        refine lv_iadd hx hb dX8_takes_68 ?_
        obtain ⟨h32, hF⟩ := zs_ckS hF
        refine zs_iald C hK S 2 rfl h32 dX8_takes_69 ?_
        obtain ⟨h33, hF⟩ := zs_ckS hF
        obtain ⟨Mdw34, e35⟩ : ∃ q : Ob, q = zs_up Mdw30 5 (x1).toNatClampNeg (Mdw30 2 (((6 : Int32) + x1)).toNatClampNeg) := ⟨_, rfl⟩
        have hF := zs_letS hF e35
        refine zs_iast C hK S 5 (ws' := wX8 G aMd Mdw34 mt) rfl h33 (by rw [e35]; rfl) dX8_takes_70 (fun H locs S => ?_)
        refine lv_aload_n hx hb dX8_takes_71 rfl (lv_at hl 0 rfl) ?_
        refine zs_get C hK S 0 14 (Cn := RX8) (T := TX8) (N := 33) (ci := 8) rfl rfl (by decide) zn_X8_takes_X8 (List.mem_of_getElem? (i := 8) rfl) rfl dX8_takes_72 ?_
        refine lv_iload_n hx hb dX8_takes_75 rfl (lv_at hl 1 rfl) ?_
        refine lv_aload_n hx hb dX8_takes_76 rfl (lv_at hl 0 rfl) ?_
        refine zs_get C hK S 0 8 (Cn := RX8) (T := TX8) (N := 33) (ci := 8) rfl rfl (by decide) zn_X8_takes_X8 (List.mem_of_getElem? (i := 6) rfl) rfl dX8_takes_77 ?_
        refine lv_bipush (v := (12 : Int32)) hx hb dX8_takes_80 (by decide) ?_
        refine lv_iload_n hx hb dX8_takes_82 rfl (lv_at hl 1 rfl) ?_
        refine lv_iadd hx hb dX8_takes_83 ?_
        obtain ⟨h36, hF⟩ := zs_ckS hF
        refine zs_iald C hK S 2 rfl h36 dX8_takes_84 ?_
        obtain ⟨h37, hF⟩ := zs_ckS hF
        obtain ⟨Mdw38, e39⟩ : ∃ q : Ob, q = zs_up Mdw34 6 (x1).toNatClampNeg (Mdw34 2 (((12 : Int32) + x1)).toNatClampNeg) := ⟨_, rfl⟩
        have hF := zs_letS hF e39
        refine zs_iast C hK S 6 (ws' := wX8 G aMd Mdw38 mt) rfl h37 (by rw [e39]; rfl) dX8_takes_85 (fun H locs S => ?_)
        refine lv_aload_n hx hb dX8_takes_86 rfl (lv_at hl 0 rfl) ?_
        refine zs_get C hK S 0 15 (Cn := RX8) (T := TX8) (N := 33) (ci := 8) rfl rfl (by decide) zn_X8_takes_X8 (List.mem_of_getElem? (i := 9) rfl) rfl dX8_takes_87 ?_
        refine lv_iload_n hx hb dX8_takes_90 rfl (lv_at hl 1 rfl) ?_
        refine lv_aload_n hx hb dX8_takes_91 rfl (lv_at hl 0 rfl) ?_
        refine zs_get C hK S 0 8 (Cn := RX8) (T := TX8) (N := 33) (ci := 8) rfl rfl (by decide) zn_X8_takes_X8 (List.mem_of_getElem? (i := 6) rfl) rfl dX8_takes_92 ?_
        refine lv_bipush (v := (18 : Int32)) hx hb dX8_takes_95 (by decide) ?_
        refine lv_iload_n hx hb dX8_takes_97 rfl (lv_at hl 1 rfl) ?_
        refine lv_iadd hx hb dX8_takes_98 ?_
        obtain ⟨h40, hF⟩ := zs_ckS hF
        refine zs_iald C hK S 2 rfl h40 dX8_takes_99 ?_
        obtain ⟨h41, hF⟩ := zs_ckS hF
        obtain ⟨Mdw42, e43⟩ : ∃ q : Ob, q = zs_up Mdw38 7 (x1).toNatClampNeg (Mdw38 2 (((18 : Int32) + x1)).toNatClampNeg) := ⟨_, rfl⟩
        have hF := zs_letS hF e43
        refine zs_iast C hK S 7 (ws' := wX8 G aMd Mdw42 mt) rfl h41 (by rw [e43]; rfl) dX8_takes_100 (fun H locs S => ?_)
        refine lv_aload_n hx hb dX8_takes_101 rfl (lv_at hl 0 rfl) ?_
        refine zs_get C hK S 0 17 (Cn := RX8) (T := TX8) (N := 33) (ci := 8) rfl rfl (by decide) zn_X8_takes_X8 (List.mem_of_getElem? (i := 10) rfl) rfl dX8_takes_102 ?_
        refine lv_iload_n hx hb dX8_takes_105 rfl (lv_at hl 1 rfl) ?_
        refine lv_aload_n hx hb dX8_takes_106 rfl (lv_at hl 0 rfl) ?_
        refine zs_get C hK S 0 12 (Cn := RX8) (T := TX8) (N := 33) (ci := 8) rfl rfl (by decide) zn_X8_takes_X8 (List.mem_of_getElem? (i := 5) rfl) rfl dX8_takes_107 ?_
        refine lv_iload_n hx hb dX8_takes_110 rfl (lv_at hl 1 rfl) ?_
        obtain ⟨h44, hF⟩ := zs_ckS hF
        refine zs_iald C hK S 4 rfl h44 dX8_takes_111 ?_
        obtain ⟨h45, hF⟩ := zs_ckS hF
        obtain ⟨Mdw46, e47⟩ : ∃ q : Ob, q = zs_up Mdw42 9 (x1).toNatClampNeg (Mdw42 4 (x1).toNatClampNeg) := ⟨_, rfl⟩
        have hF := zs_letS hF e47
        refine zs_iast C hK S 9 (ws' := wX8 G aMd Mdw46 mt) rfl h45 (by rw [e47]; rfl) dX8_takes_112 (fun H locs S => ?_)
        obtain ⟨z48, e49⟩ : ∃ q : Int32, q = x1 + (1 : Int32) := ⟨_, rfl⟩
        have hF := zs_letS hF e49
        refine lv_iinc (v := z48) (lv' := [(1, .int z48), (0, .ref (aMd 0))]) hx hb dX8_takes_113 hl (k := 1) rfl (by rw [e49]; rfl) (by decide) rfl (fun ls hl => ?_)
        refine lv_goto (tgt := 36) hx hb dX8_takes_116 (by decide) ?_
        exact ih36 Mdw46 z48 _ _ _ S (lv_sub hl [1, 0] rfl) hF
  have j31 : ∀ (Md : Ob) (y0 : Int32) (H : Heap) (locs : List Loc) (ls : Array Slot), zs_S G A s.heap H locs (wX8 G aMd Md mt) → lv_has ls 2 [(0, .ref (aMd 0))] → F_X8_takes_31 Md y0 = some Md_ → W p l e RMX8_takes s m args below meth c H locs 0 0 (MQ below (zs_Qv G (wX8 G aMd Md_ mt) A) args s 0 0 A) (F0 m 31 ls [.int y0, .ref (aMd 0)]) := by
    intro Md y0 H locs ls S hl hF
    unfold F_X8_takes_31 at hF
    obtain ⟨Mdw50, e51⟩ : ∃ q : Ob, q = zs_up Md 0 11 y0 := ⟨_, rfl⟩
    have hF := zs_letS hF e51
    refine zs_put C hK S 0 11 (ws' := wX8 G aMd Mdw50 mt) (Cn := RX8) (T := TX8) (N := 33) (ci := 8) rfl rfl (by decide) zn_X8_takes_X8 tyX8_ok nmX8 (List.mem_of_getElem? (i := 4) rfl) rfl rfl rfl (Nat.le_of_ble_eq_true rfl) (by rw [e51]; rfl) dX8_takes_31 (fun H locs S => ?_)
    refine lv_iconst (v := (0 : Int32)) hx hb dX8_takes_34 (by decide) ?_
    refine lv_istore_n (lv' := [(1, .int (0 : Int32)), (0, .ref (aMd 0))]) hx hb dX8_takes_35 rfl hl (by decide) rfl (fun ls hl => ?_)
    exact j36 1000 Mdw50 (0 : Int32) _ _ _ S (lv_sub hl [1, 0] rfl) hF
  refine lv_aload_n hx hb dX8_takes_0 rfl (lv_at hl 0 rfl) ?_
  refine lv_aload_n hx hb dX8_takes_1 rfl (lv_at hl 0 rfl) ?_
  refine zs_get C hK S 0 6 (Cn := RX8) (T := TX8) (N := 33) (ci := 8) rfl rfl (by decide) zn_X8_takes_X8 (List.mem_of_getElem? (i := 1) rfl) rfl dX8_takes_2 ?_
  obtain ⟨Mdw52, e53⟩ : ∃ q : Ob, q = zs_up Md 0 10 (Md 0 6) := ⟨_, rfl⟩
  have hF := zs_letS hF e53
  refine zs_put C hK S 0 10 (ws' := wX8 G aMd Mdw52 mt) (Cn := RX8) (T := TX8) (N := 33) (ci := 8) rfl rfl (by decide) zn_X8_takes_X8 tyX8_ok nmX8 (List.mem_of_getElem? (i := 2) rfl) rfl rfl rfl (Nat.le_of_ble_eq_true rfl) (by rw [e53]; rfl) dX8_takes_5 (fun H locs S => ?_)
  refine lv_aload_n hx hb dX8_takes_8 rfl (lv_at hl 0 rfl) ?_
  refine lv_aload_n hx hb dX8_takes_9 rfl (lv_at hl 0 rfl) ?_
  refine zs_get C hK S 0 7 (Cn := RX8) (T := TX8) (N := 33) (ci := 8) rfl rfl (by decide) zn_X8_takes_X8 (List.mem_of_getElem? (i := 3) rfl) rfl dX8_takes_10 ?_
  refine lv_if_ge (tgt := 21) hx hb dX8_takes_13 (by decide) (fun c54 => ?_) (fun c54 => ?_)
  · have hF := zs_t hF c54
    refine lv_bipush (v := (10 : Int32)) hx hb dX8_takes_21 (by decide) ?_
    refine lv_aload_n hx hb dX8_takes_23 rfl (lv_at hl 0 rfl) ?_
    refine zs_get C hK S 0 7 (Cn := RX8) (T := TX8) (N := 33) (ci := 8) rfl rfl (by decide) zn_X8_takes_X8 (List.mem_of_getElem? (i := 3) rfl) rfl dX8_takes_24 ?_
    refine lv_imul hx hb dX8_takes_27 ?_
    refine lv_bipush (v := (9 : Int32)) hx hb dX8_takes_28 (by decide) ?_
    refine lv_iadd hx hb dX8_takes_30 ?_
    exact j31 Mdw52 (((10 : Int32) * (Mdw52 0 7)) + (9 : Int32)) _ _ _ S (lv_sub hl [0] rfl) hF
  · have hF := zs_f hF c54
    refine lv_bipush (v := (99 : Int32)) hx hb dX8_takes_16 (by decide) ?_
    refine lv_goto (tgt := 31) hx hb dX8_takes_18 (by decide) ?_
    exact j31 Mdw52 (99 : Int32) _ _ _ S (lv_sub hl [0] rfl) hF

theorem zd_X8_readItem : yX8_readItem.cls = RX8 ∧ yX8_readItem.cls ≠ "java/lang/invoke/MethodHandle" ∧ yX8_readItem.cls ≠ "java/lang/invoke/VarHandle" ∧ (parseMethodDescriptor yX8_readItem.desc).map (fun d => d.parameters.length) = some 0 := by decide +kernel
theorem zd_X8_takes : yX8_takes.cls = RX8 ∧ yX8_takes.cls ≠ "java/lang/invoke/MethodHandle" ∧ yX8_takes.cls ≠ "java/lang/invoke/VarHandle" ∧ (parseMethodDescriptor yX8_takes.desc).map (fun d => d.parameters.length) = some 0 := by decide +kernel
abbrev RMX8_walls : Room := { frames := 7, cells := 0, slots := 0, locals := 155 }
theorem zn_X8_walls_X8 : ∀ w ∈ wsX80, w ∈ wsX8_walls := zs_inl wsX80 [86, 87, 88, 89, 90, 91, 92, 93, 94, 95, 96, 97, 98, 99, 100, 101, 102, 103, 104, 105, 106, 107, 108, 109, 110, 111, 112, 113, 114, 115, 116, 117, 118] (by decide +kernel)
set_option maxRecDepth 100000 in
set_option maxHeartbeats 4000000 in
theorem c_X8_walls (l : Launch) (G : GG) (aMd : Ad) (Md : Ob) (mt : Int64) (sz : Nat) (rr : Int32) (Md_ : Ob) (hF : F_X8_walls Md = some (rr, Md_)) : Met l yX8_walls wsX8_walls RMX8_walls (va_Pc [.ref (aMd 0)] (zs_pre G (wX8 G aMd Md mt) sz)) (zs_Qi G (wX8 G aMd Md_ mt) rr (va_A (wX8 G aMd Md mt) sz)) 0 0 (va_A (wX8 G aMd Md mt) sz) := by
  refine zs_met (cc := cX8_walls) (maxL := 2) (ret := (some .int)) (own := RX8) (Qc := zs_Qi G (wX8 G aMd Md_ mt) rr) (by decide) rfl rfl (Nat.le_of_ble_eq_true rfl) ?_
  intro p e s m args below meth c C A hK hA S _ _ ls hl
  have hl : lv_has ls 2 [(0, .ref (aMd 0))] := hl
  have hx := C.1.1
  have hb := C.1.2.1
  unfold F_X8_walls at hF
  have j74 : ∀ (Md : Ob) (x1 : Int32) (H : Heap) (locs : List Loc) (ls : Array Slot), zs_S G A s.heap H locs (wX8 G aMd Md mt) → lv_has ls 2 [(0, .ref (aMd 0)), (1, .int x1)] → F_X8_walls_74 Md x1 = some (rr, Md_) → W p l e RMX8_walls s m args below meth c H locs 0 0 (MQ below (zs_Qi G (wX8 G aMd Md_ mt) rr A) args s 0 0 A) (F0 m 74 ls []) := by
    intro Md x1 H locs ls S hl hF
    unfold F_X8_walls_74 at hF
    refine lv_aload_n hx hb dX8_walls_74 rfl (lv_at hl 0 rfl) ?_
    obtain ⟨Mdw1, f2, hF⟩ := zs_bdS hF
    refine zs_callv (wr := ([] : va_W)) (ws' := wX8 G aMd Mdw1 mt) S hA [0, 1, 2, 3, 4, 5, 6, 7, 8, 9, 10, 11, 12, 13, 14, 15, 16, 17] [] [0, 1, 2, 3, 4, 5, 6, 7, 8, 9, 10, 11, 12, 13, 14, 15, 16, 17] (zs_runV C hK hA S [] [] [0, 1, 2, 3, 4, 5, 6, 7, 8, 9, 10, 11, 12, 13, 14, 15, 16, 17] 0 0 (c_X8_takes l G aMd Md mt H.size Mdw1 f2) gX8_walls_X8_takes rfl rfl rfl zd_X8_takes ⟨Nat.le_of_ble_eq_true rfl, Nat.le_of_ble_eq_true rfl⟩ rfl rfl rfl rfl rfl hl rfl (Nat.le_of_ble_eq_true rfl) dX8_walls_75 ⟨Nat.le_of_ble_eq_true rfl, Nat.le_of_ble_eq_true rfl⟩) rfl rfl rfl (by decide) rfl rfl (fun H locs S => ?_)
    refine lv_aload_n hx hb dX8_walls_78 rfl (lv_at hl 0 rfl) ?_
    refine lv_iconst (v := (0 : Int32)) hx hb dX8_walls_79 (by decide) ?_
    obtain ⟨Mdw3, e4⟩ : ∃ q : Ob, q = zs_up Mdw1 0 1 (0 : Int32) := ⟨_, rfl⟩
    have hF := zs_letS hF e4
    refine zs_put C hK S 0 1 (ws' := wX8 G aMd Mdw3 mt) (Cn := RX8) (T := TX8) (N := 33) (ci := 8) rfl rfl (by decide) zn_X8_walls_X8 tyX8_ok nmX8 (List.mem_of_getElem? (i := 7) rfl) rfl rfl rfl (Nat.le_of_ble_eq_true rfl) (by rw [e4]; rfl) dX8_walls_80 (fun H locs S => ?_)
    refine lv_iload_n hx hb dX8_walls_83 rfl (lv_at hl 1 rfl) ?_
    obtain ⟨e5, e6⟩ := zs_s2 hF
    exact zs_iretE C S e5 (by rw [e6]) dX8_walls_84
  have j56 : ∀ (Md : Ob) (H : Heap) (locs : List Loc) (ls : Array Slot), zs_S G A s.heap H locs (wX8 G aMd Md mt) → lv_has ls 2 [(0, .ref (aMd 0))] → F_X8_walls_56 Md = some (rr, Md_) → W p l e RMX8_walls s m args below meth c H locs 0 0 (MQ below (zs_Qi G (wX8 G aMd Md_ mt) rr A) args s 0 0 A) (F0 m 56 ls []) := by
    intro Md H locs ls S hl hF
    unfold F_X8_walls_56 at hF
    refine lv_bipush (v := (-10 : Int32)) hx hb dX8_walls_56 (by decide) ?_
    refine lv_aload_n hx hb dX8_walls_58 rfl (lv_at hl 0 rfl) ?_
    refine zs_get C hK S 0 3 (Cn := RX8) (T := TX8) (N := 33) (ci := 8) rfl rfl (by decide) zn_X8_walls_X8 (List.mem_of_getElem? (i := 6) rfl) rfl dX8_walls_59 ?_
    refine lv_isub hx hb dX8_walls_62 ?_
    obtain ⟨e7, e8⟩ := zs_s2 hF
    exact zs_iretE C S e7 (by rw [e8]) dX8_walls_63
  have j42 : ∀ (n42 : Nat) (Md : Ob) (x1 : Int32) (H : Heap) (locs : List Loc) (ls : Array Slot), zs_S G A s.heap H locs (wX8 G aMd Md mt) → lv_has ls 2 [(0, .ref (aMd 0)), (1, .int x1)] → F_X8_walls_42 n42 Md x1 = some (rr, Md_) → W p l e RMX8_walls s m args below meth c H locs 0 0 (MQ below (zs_Qi G (wX8 G aMd Md_ mt) rr A) args s 0 0 A) (F0 m 42 ls []) := by
    intro n42
    induction n42 with
    | zero => intro Md x1 H locs ls _ _ hF; rw [F_X8_walls_42_z] at hF; cases hF
    | succ n42 ih42 =>
      intro Md x1 H locs ls S hl hF
      rw [F_X8_walls_42_n] at hF
      unfold F_X8_walls_42_s at hF
      refine lv_aload_n hx hb dX8_walls_42 rfl (lv_at hl 0 rfl) ?_
      refine zs_get C hK S 0 4 (Cn := RX8) (T := TX8) (N := 33) (ci := 8) rfl rfl (by decide) zn_X8_walls_X8 (List.mem_of_getElem? (i := 5) rfl) rfl dX8_walls_43 ?_
      refine lv_if_eq (tgt := 74) hx hb dX8_walls_46 (by decide) (fun c9 => ?_) (fun c9 => ?_)
      · have hF := zs_t hF c9
        exact j74 Md x1 _ _ _ S (lv_sub hl [0, 1] rfl) hF
      · have hF := zs_f hF c9
        refine lv_aload_n hx hb dX8_walls_49 rfl (lv_at hl 0 rfl) ?_
        obtain ⟨r10, Mdw11, f12, hF⟩ := zs_b2S hF
        refine zs_calli (wr := ([] : va_W)) (ws' := wX8 G aMd Mdw11 mt) S hA [0, 1, 2, 3, 4, 5, 6, 7, 8, 9, 10, 11, 12, 13, 14, 15, 16, 17] [] [0, 1, 2, 3, 4, 5, 6, 7, 8, 9, 10, 11, 12, 13, 14, 15, 16, 17] (zs_runV C hK hA S [] [] [0, 1, 2, 3, 4, 5, 6, 7, 8, 9, 10, 11, 12, 13, 14, 15, 16, 17] 0 0 (c_X8_readItem l G aMd Md mt H.size r10 Mdw11 f12) gX8_walls_X8_readItem rfl rfl rfl zd_X8_readItem ⟨Nat.le_of_ble_eq_true rfl, Nat.le_of_ble_eq_true rfl⟩ rfl rfl rfl rfl rfl hl rfl (Nat.le_of_ble_eq_true rfl) dX8_walls_50 ⟨Nat.le_of_ble_eq_true rfl, Nat.le_of_ble_eq_true rfl⟩) rfl rfl rfl (by decide) rfl rfl (fun H locs S => ?_)
        refine lv_if_ne (tgt := 64) hx hb dX8_walls_53 (by decide) (fun c13 => ?_) (fun c13 => ?_)
        · have hF := zs_f hF c13
          obtain ⟨z14, e15⟩ : ∃ q : Int32, q = x1 + (1 : Int32) := ⟨_, rfl⟩
          have hF := zs_letS hF e15
          refine lv_iinc (v := z14) (lv' := [(1, .int z14), (0, .ref (aMd 0))]) hx hb dX8_walls_64 hl (k := 1) rfl (by rw [e15]; rfl) (by decide) rfl (fun ls hl => ?_)
          refine lv_aload_n hx hb dX8_walls_67 rfl (lv_at hl 1 rfl) ?_
          obtain ⟨Mdw16, f17, hF⟩ := zs_bdS hF
          refine zs_callv (wr := ([] : va_W)) (ws' := wX8 G aMd Mdw16 mt) S hA [0, 1, 2, 3, 4, 5, 6, 7, 8, 9, 10, 11, 12, 13, 14, 15, 16, 17] [] [0, 1, 2, 3, 4, 5, 6, 7, 8, 9, 10, 11, 12, 13, 14, 15, 16, 17] (zs_runV C hK hA S [] [] [0, 1, 2, 3, 4, 5, 6, 7, 8, 9, 10, 11, 12, 13, 14, 15, 16, 17] 0 0 (c_X8_reads l G aMd Mdw11 mt H.size Mdw16 f17) gX8_walls_X8_reads rfl rfl rfl zd_X8_reads ⟨Nat.le_of_ble_eq_true rfl, Nat.le_of_ble_eq_true rfl⟩ rfl rfl rfl rfl rfl hl rfl (Nat.le_of_ble_eq_true rfl) dX8_walls_68 ⟨Nat.le_of_ble_eq_true rfl, Nat.le_of_ble_eq_true rfl⟩) rfl rfl rfl (by decide) rfl rfl (fun H locs S => ?_)
          refine lv_goto (tgt := 42) hx hb dX8_walls_71 (by decide) ?_
          exact ih42 Mdw16 z14 _ _ _ S (lv_sub hl [1, 0] rfl) hF
        · have hF := zs_t hF c13
          exact j56 Mdw11 _ _ _ S (lv_sub hl [0] rfl) hF
  have j36 : ∀ (Md : Ob) (H : Heap) (locs : List Loc) (ls : Array Slot), zs_S G A s.heap H locs (wX8 G aMd Md mt) → lv_has ls 2 [(0, .ref (aMd 0))] → F_X8_walls_36 Md = some (rr, Md_) → W p l e RMX8_walls s m args below meth c H locs 0 0 (MQ below (zs_Qi G (wX8 G aMd Md_ mt) rr A) args s 0 0 A) (F0 m 36 ls []) := by
    intro Md H locs ls S hl hF
    unfold F_X8_walls_36 at hF
    refine lv_iconst (v := (0 : Int32)) hx hb dX8_walls_36 (by decide) ?_
    refine lv_istore_n (lv' := [(1, .int (0 : Int32)), (0, .ref (aMd 0))]) hx hb dX8_walls_37 rfl hl (by decide) rfl (fun ls hl => ?_)
    refine lv_aload_n hx hb dX8_walls_38 rfl (lv_at hl 1 rfl) ?_
    obtain ⟨Mdw18, f19, hF⟩ := zs_bdS hF
    refine zs_callv (wr := ([] : va_W)) (ws' := wX8 G aMd Mdw18 mt) S hA [0, 1, 2, 3, 4, 5, 6, 7, 8, 9, 10, 11, 12, 13, 14, 15, 16, 17] [] [0, 1, 2, 3, 4, 5, 6, 7, 8, 9, 10, 11, 12, 13, 14, 15, 16, 17] (zs_runV C hK hA S [] [] [0, 1, 2, 3, 4, 5, 6, 7, 8, 9, 10, 11, 12, 13, 14, 15, 16, 17] 0 0 (c_X8_reads l G aMd Md mt H.size Mdw18 f19) gX8_walls_X8_reads rfl rfl rfl zd_X8_reads ⟨Nat.le_of_ble_eq_true rfl, Nat.le_of_ble_eq_true rfl⟩ rfl rfl rfl rfl rfl hl rfl (Nat.le_of_ble_eq_true rfl) dX8_walls_39 ⟨Nat.le_of_ble_eq_true rfl, Nat.le_of_ble_eq_true rfl⟩) rfl rfl rfl (by decide) rfl rfl (fun H locs S => ?_)
    exact j42 1000 Mdw18 (0 : Int32) _ _ _ S (lv_sub hl [1, 0] rfl) hF
  have j17 : ∀ (n17 : Nat) (Md : Ob) (x1 : Int32) (H : Heap) (locs : List Loc) (ls : Array Slot), zs_S G A s.heap H locs (wX8 G aMd Md mt) → lv_has ls 2 [(0, .ref (aMd 0)), (1, .int x1)] → F_X8_walls_17 n17 Md x1 = some (rr, Md_) → W p l e RMX8_walls s m args below meth c H locs 0 0 (MQ below (zs_Qi G (wX8 G aMd Md_ mt) rr A) args s 0 0 A) (F0 m 17 ls []) := by
    intro n17
    induction n17 with
    | zero => intro Md x1 H locs ls _ _ hF; rw [F_X8_walls_17_z] at hF; cases hF
    | succ n17 ih17 =>
      intro Md x1 H locs ls S hl hF
      rw [F_X8_walls_17_n] at hF
      unfold F_X8_walls_17_s at hF
      refine lv_iload_n hx hb dX8_walls_17 rfl (lv_at hl 1 rfl) ?_
      refine lv_bipush (v := (36 : Int32)) hx hb dX8_walls_18 (by decide) ?_
      refine lv_icmp_ge (tgt := 36) hx hb dX8_walls_20 (by decide) (fun c20 => ?_) (fun c20 => ?_)
      · have hF := zs_t hF c20
        exact j36 Md _ _ _ S (lv_sub hl [0] rfl) hF
      · have hF := zs_f hF c20
        refine lv_aload_n hx hb dX8_walls_23 rfl (lv_at hl 0 rfl) ?_
        refine zs_get C hK S 0 9 (Cn := RX8) (T := TX8) (N := 33) (ci := 8) rfl rfl (by decide) zn_X8_walls_X8 (List.mem_of_getElem? (i := 4) rfl) rfl dX8_walls_24 ?_
        refine lv_iload_n hx hb dX8_walls_27 rfl (lv_at hl 1 rfl) ?_
        refine lv_iconst (v := (0 : Int32)) hx hb dX8_walls_28 (by decide) ?_
        obtain ⟨h21, hF⟩ := zs_ckS hF
        obtain ⟨Mdw22, e23⟩ : ∃ q : Ob, q = zs_up Md 3 (x1).toNatClampNeg (0 : Int32) := ⟨_, rfl⟩
        have hF := zs_letS hF e23
        refine zs_iast C hK S 3 (ws' := wX8 G aMd Mdw22 mt) rfl h21 (by rw [e23]; rfl) dX8_walls_29 (fun H locs S => ?_)
        obtain ⟨z24, e25⟩ : ∃ q : Int32, q = x1 + (1 : Int32) := ⟨_, rfl⟩
        have hF := zs_letS hF e25
        refine lv_iinc (v := z24) (lv' := [(1, .int z24), (0, .ref (aMd 0))]) hx hb dX8_walls_30 hl (k := 1) rfl (by rw [e25]; rfl) (by decide) rfl (fun ls hl => ?_)
        refine lv_goto (tgt := 17) hx hb dX8_walls_33 (by decide) ?_
        exact ih17 Mdw22 z24 _ _ _ S (lv_sub hl [1, 0] rfl) hF
  refine lv_aload_n hx hb dX8_walls_0 rfl (lv_at hl 0 rfl) ?_
  refine lv_iconst (v := (0 : Int32)) hx hb dX8_walls_1 (by decide) ?_
  obtain ⟨Mdw26, e27⟩ : ∃ q : Ob, q = zs_up Md 0 2 (0 : Int32) := ⟨_, rfl⟩
  have hF := zs_letS hF e27
  refine zs_put C hK S 0 2 (ws' := wX8 G aMd Mdw26 mt) (Cn := RX8) (T := TX8) (N := 33) (ci := 8) rfl rfl (by decide) zn_X8_walls_X8 tyX8_ok nmX8 (List.mem_of_getElem? (i := 1) rfl) rfl rfl rfl (Nat.le_of_ble_eq_true rfl) (by rw [e27]; rfl) dX8_walls_2 (fun H locs S => ?_)
  refine lv_aload_n hx hb dX8_walls_5 rfl (lv_at hl 0 rfl) ?_
  refine lv_iconst (v := (0 : Int32)) hx hb dX8_walls_6 (by decide) ?_
  obtain ⟨Mdw28, e29⟩ : ∃ q : Ob, q = zs_up Mdw26 0 6 (0 : Int32) := ⟨_, rfl⟩
  have hF := zs_letS hF e29
  refine zs_put C hK S 0 6 (ws' := wX8 G aMd Mdw28 mt) (Cn := RX8) (T := TX8) (N := 33) (ci := 8) rfl rfl (by decide) zn_X8_walls_X8 tyX8_ok nmX8 (List.mem_of_getElem? (i := 2) rfl) rfl rfl rfl (Nat.le_of_ble_eq_true rfl) (by rw [e29]; rfl) dX8_walls_7 (fun H locs S => ?_)
  refine lv_aload_n hx hb dX8_walls_10 rfl (lv_at hl 0 rfl) ?_
  refine lv_iconst (v := (-1 : Int32)) hx hb dX8_walls_11 (by decide) ?_
  obtain ⟨Mdw30, e31⟩ : ∃ q : Ob, q = zs_up Mdw28 0 7 (-1 : Int32) := ⟨_, rfl⟩
  have hF := zs_letS hF e31
  refine zs_put C hK S 0 7 (ws' := wX8 G aMd Mdw30 mt) (Cn := RX8) (T := TX8) (N := 33) (ci := 8) rfl rfl (by decide) zn_X8_walls_X8 tyX8_ok nmX8 (List.mem_of_getElem? (i := 3) rfl) rfl rfl rfl (Nat.le_of_ble_eq_true rfl) (by rw [e31]; rfl) dX8_walls_12 (fun H locs S => ?_)
  refine lv_iconst (v := (0 : Int32)) hx hb dX8_walls_15 (by decide) ?_
  refine lv_istore_n (lv' := [(1, .int (0 : Int32)), (0, .ref (aMd 0))]) hx hb dX8_walls_16 rfl hl (by decide) rfl (fun ls hl => ?_)
  exact j17 1000 Mdw30 (0 : Int32) _ _ _ S (lv_sub hl [1, 0] rfl) hF

