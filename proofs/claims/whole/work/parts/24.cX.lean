abbrev RMX7_isWall : Room := { frames := 0, cells := 0, slots := 0, locals := 0 }
theorem zn_X7_isWall_X6 : ∀ w ∈ wsX60, w ∈ wsX7_isWall := zs_inl wsX60 [13, 14, 15, 16, 17, 18, 19, 20, 21] (by decide +kernel)
theorem zn_X7_isWall_X7 : ∀ w ∈ wsX70, w ∈ wsX7_isWall := zs_inl wsX70 [3, 4, 5, 6, 7, 8, 9, 10, 11, 12] (by decide +kernel)
set_option maxRecDepth 100000 in
set_option maxHeartbeats 4000000 in
theorem c_X7_isWall (l : Launch) (G : GG) (aXm aTx aRd aPr aSg aAh aIm0 aIm1 aYt aYr : Ad) (Xm : Ob) (tr : Int64) (Yt : Ob) (u1 : Int32) (sz : Nat) (rr : Int32) (hF : F_X7_isWall Yt u1 = some rr) : Met l yX7_isWall wsX7_isWall RMX7_isWall (va_Pc [.ref (aXm 0), .int u1] (zs_pre G (wX7 G aXm aTx aRd aPr aSg aAh aIm0 aIm1 aYt aYr Xm tr ++ wX6 G aYt Yt) sz)) (zs_Qi G (wX7 G aXm aTx aRd aPr aSg aAh aIm0 aIm1 aYt aYr Xm tr ++ wX6 G aYt Yt) rr (va_A (wX7 G aXm aTx aRd aPr aSg aAh aIm0 aIm1 aYt aYr Xm tr ++ wX6 G aYt Yt) sz)) 0 0 (va_A (wX7 G aXm aTx aRd aPr aSg aAh aIm0 aIm1 aYt aYr Xm tr ++ wX6 G aYt Yt) sz) := by
  refine zs_met (cc := cX7_isWall) (maxL := 2) (ret := (some .boolean)) (own := RX7) (Qc := zs_Qi G (wX7 G aXm aTx aRd aPr aSg aAh aIm0 aIm1 aYt aYr Xm tr ++ wX6 G aYt Yt) rr) (by decide) rfl rfl (Nat.le_of_ble_eq_true rfl) ?_
  intro p e s m args below meth c C A hK hA S _ _ ls hl
  have hl : lv_has ls 2 [(0, .ref (aXm 0)), (1, .int u1)] := hl
  have hx := C.1.1
  have hb := C.1.2.1
  unfold F_X7_isWall at hF
  refine lv_iload_n hx hb dX7_isWall_0 rfl (lv_at hl 1 rfl) ?_
  refine lv_if_lt (tgt := 19) hx hb dX7_isWall_1 (by decide) (fun c1 => ?_) (fun c1 => ?_)
  · have hF := zs_t hF c1
    refine lv_iconst (v := (0 : Int32)) hx hb dX7_isWall_19 (by decide) ?_
    have e2 := zs_s1 hF
    exact zs_zretE C S rfl e2 rfl dX7_isWall_20
  · have hF := zs_f hF c1
    refine lv_iload_n hx hb dX7_isWall_4 rfl (lv_at hl 1 rfl) ?_
    refine lv_aload_n hx hb dX7_isWall_5 rfl (lv_at hl 0 rfl) ?_
    refine zs_get C hK S 0 6 (Cn := RX7) (T := TX7) (N := 10) (ci := 7) rfl rfl (by decide) zn_X7_isWall_X7 (List.mem_of_getElem? (i := 1) rfl) rfl dX7_isWall_6 ?_
    refine zs_get C hK S 2 0 (Cn := RX6) (T := TX6) (N := 9) (ci := 6) rfl rfl (by decide) zn_X7_isWall_X6 (List.mem_of_getElem? (i := 2) rfl) rfl dX7_isWall_9 ?_
    refine lv_icmp_ge (tgt := 19) hx hb dX7_isWall_12 (by decide) (fun c3 => ?_) (fun c3 => ?_)
    · have hF := zs_t hF c3
      refine lv_iconst (v := (0 : Int32)) hx hb dX7_isWall_19 (by decide) ?_
      have e4 := zs_s1 hF
      exact zs_zretE C S rfl e4 rfl dX7_isWall_20
    · have hF := zs_f hF c3
      refine lv_iconst (v := (1 : Int32)) hx hb dX7_isWall_15 (by decide) ?_
      refine lv_goto (tgt := 20) hx hb dX7_isWall_16 (by decide) ?_
      have e5 := zs_s1 hF
      exact zs_zretE C S rfl e5 rfl dX7_isWall_20

theorem zd_X4_append : yX4_append.cls = RX4 ∧ yX4_append.cls ≠ "java/lang/invoke/MethodHandle" ∧ yX4_append.cls ≠ "java/lang/invoke/VarHandle" ∧ (parseMethodDescriptor yX4_append.desc).map (fun d => d.parameters.length) = some 2 := by decide +kernel
theorem zd_X4_hasRoomFor : yX4_hasRoomFor.cls = RX4 ∧ yX4_hasRoomFor.cls ≠ "java/lang/invoke/MethodHandle" ∧ yX4_hasRoomFor.cls ≠ "java/lang/invoke/VarHandle" ∧ (parseMethodDescriptor yX4_hasRoomFor.desc).map (fun d => d.parameters.length) = some 1 := by decide +kernel
abbrev RMX7_type : Room := { frames := 1, cells := 0, slots := 0, locals := 24 }
theorem zn_X7_type_X4 : ∀ w ∈ wsX40, w ∈ wsX7_type := zs_inl wsX40 [24, 25] (by decide +kernel)
theorem zn_X7_type_X7 : ∀ w ∈ wsX70, w ∈ wsX7_type := zs_inl wsX70 [14, 15, 16, 17, 18, 19, 20, 21, 22, 23] (by decide +kernel)
set_option maxRecDepth 100000 in
set_option maxHeartbeats 4000000 in
theorem c_X7_type (l : Launch) (G : GG) (aXm aTx aRd aPr aSg aAh aIm0 aIm1 aYt aYr : Ad) (Xm : Ob) (tr : Int64) (Tx : Ob) (u1 : Int64) (u2 : Int32) (sz : Nat) (rr : Int32) (Tx_ : Ob) (hF : F_X7_type Tx u1 u2 = some (rr, Tx_)) : Met l yX7_type wsX7_type RMX7_type (va_Pc [.ref (aXm 0), .long u1, .int u2] (zs_pre G (wX7 G aXm aTx aRd aPr aSg aAh aIm0 aIm1 aYt aYr Xm tr ++ wX4 G aTx Tx) sz)) (zs_Qi G (wX7 G aXm aTx aRd aPr aSg aAh aIm0 aIm1 aYt aYr Xm tr ++ wX4 G aTx Tx_) rr (va_A (wX7 G aXm aTx aRd aPr aSg aAh aIm0 aIm1 aYt aYr Xm tr ++ wX4 G aTx Tx) sz)) 0 0 (va_A (wX7 G aXm aTx aRd aPr aSg aAh aIm0 aIm1 aYt aYr Xm tr ++ wX4 G aTx Tx) sz) := by
  refine zs_met (cc := cX7_type) (maxL := 4) (ret := (some .int)) (own := RX7) (Qc := zs_Qi G (wX7 G aXm aTx aRd aPr aSg aAh aIm0 aIm1 aYt aYr Xm tr ++ wX4 G aTx Tx_) rr) (by decide) rfl rfl (Nat.le_of_ble_eq_true rfl) ?_
  intro p e s m args below meth c C A hK hA S _ _ ls hl
  have hl : lv_has ls 4 [(0, .ref (aXm 0)), (1, .long u1), (3, .int u2)] := hl
  have hx := C.1.1
  have hb := C.1.2.1
  unfold F_X7_type at hF
  refine lv_iload_n hx hb dX7_type_0 rfl (lv_at hl 2 rfl) ?_
  refine lv_iconst (v := (1 : Int32)) hx hb dX7_type_1 (by decide) ?_
  refine lv_icmp_lt (tgt := 11) hx hb dX7_type_2 (by decide) (fun c1 => ?_) (fun c1 => ?_)
  · have hF := zs_t hF c1
    refine lv_iconst (v := (-1 : Int32)) hx hb dX7_type_11 (by decide) ?_
    obtain ⟨e2, e3⟩ := zs_s2 hF
    exact zs_iretE C S e2 (by rw [e3]) dX7_type_12
  · have hF := zs_f hF c1
    refine lv_iload_n hx hb dX7_type_5 rfl (lv_at hl 2 rfl) ?_
    refine lv_bipush (v := (8 : Int32)) hx hb dX7_type_6 (by decide) ?_
    refine lv_icmp_le (tgt := 13) hx hb dX7_type_8 (by decide) (fun c4 => ?_) (fun c4 => ?_)
    · have hF := zs_t hF c4
      refine lv_aload_n hx hb dX7_type_13 rfl (lv_at hl 0 rfl) ?_
      refine zs_get C hK S 0 0 (Cn := RX7) (T := TX7) (N := 10) (ci := 7) rfl rfl (by decide) zn_X7_type_X7 (List.mem_of_getElem? (i := 1) rfl) rfl dX7_type_14 ?_
      refine lv_iload_n hx hb dX7_type_17 rfl (lv_at hl 2 rfl) ?_
      obtain ⟨r5, f6, hF⟩ := zs_bdS hF
      refine zs_calli (wr := wX7 G aXm aTx aRd aPr aSg aAh aIm0 aIm1 aYt aYr Xm tr) (ws' := wX7 G aXm aTx aRd aPr aSg aAh aIm0 aIm1 aYt aYr Xm tr ++ wX4 G aTx Tx) S hA [2, 3] [0, 1] [0, 1, 2, 3] (zs_runV C hK hA S [.int u2] [] [2, 3] 2 1 (c_X4_hasRoomFor l G aTx Tx u2 s.heap.size r5 f6) gX7_type_X4_hasRoomFor rfl rfl rfl zd_X4_hasRoomFor ⟨Nat.le_of_ble_eq_true rfl, Nat.le_of_ble_eq_true rfl⟩ rfl rfl rfl rfl rfl hl rfl (Nat.le_of_ble_eq_true rfl) dX7_type_18 ⟨Nat.le_of_ble_eq_true rfl, Nat.le_of_ble_eq_true rfl⟩) rfl rfl rfl (by decide) rfl rfl (fun H locs S => ?_)
      refine lv_if_ne (tgt := 27) hx hb dX7_type_21 (by decide) (fun c7 => ?_) (fun c7 => ?_)
      · have hF := zs_f hF c7
        refine lv_aload_n hx hb dX7_type_27 rfl (lv_at hl 0 rfl) ?_
        refine zs_get C hK S 0 0 (Cn := RX7) (T := TX7) (N := 10) (ci := 7) rfl rfl (by decide) zn_X7_type_X7 (List.mem_of_getElem? (i := 1) rfl) rfl dX7_type_28 ?_
        refine lv_lload_n hx hb dX7_type_31 rfl (lv_at hl 1 rfl) ?_
        refine lv_iload_n hx hb dX7_type_32 rfl (lv_at hl 2 rfl) ?_
        obtain ⟨Txw8, f9, hF⟩ := zs_bdS hF
        refine zs_callv (wr := wX7 G aXm aTx aRd aPr aSg aAh aIm0 aIm1 aYt aYr Xm tr) (ws' := wX7 G aXm aTx aRd aPr aSg aAh aIm0 aIm1 aYt aYr Xm tr ++ wX4 G aTx Txw8) S hA [2, 3] [0, 1] [0, 1, 2, 3] (zs_runV C hK hA S [.long u1, .int u2] [] [2, 3] 2 2 (c_X4_append l G aTx Tx u1 u2 H.size Txw8 f9) gX7_type_X4_append rfl rfl rfl zd_X4_append ⟨Nat.le_of_ble_eq_true rfl, Nat.le_of_ble_eq_true rfl⟩ rfl rfl rfl rfl rfl hl rfl (Nat.le_of_ble_eq_true rfl) dX7_type_33 ⟨Nat.le_of_ble_eq_true rfl, Nat.le_of_ble_eq_true rfl⟩) rfl rfl rfl (by decide) rfl rfl (fun H locs S => ?_)
        refine lv_aload_n hx hb dX7_type_36 rfl (lv_at hl 0 rfl) ?_
        refine zs_get C hK S 0 0 (Cn := RX7) (T := TX7) (N := 10) (ci := 7) rfl rfl (by decide) zn_X7_type_X7 (List.mem_of_getElem? (i := 1) rfl) rfl dX7_type_37 ?_
        refine zs_get C hK S 2 1 (Cn := RX4) (T := TX4) (N := 2) (ci := 4) rfl rfl (by decide) zn_X7_type_X4 (List.mem_of_getElem? (i := 2) rfl) rfl dX7_type_40 ?_
        obtain ⟨e10, e11⟩ := zs_s2 hF
        exact zs_iretE C S e10 (by rw [e11]) dX7_type_43
      · have hF := zs_t hF c7
        refine lv_bipush (v := (-3 : Int32)) hx hb dX7_type_24 (by decide) ?_
        obtain ⟨e12, e13⟩ := zs_s2 hF
        exact zs_iretE C S e12 (by rw [e13]) dX7_type_26
    · have hF := zs_f hF c4
      refine lv_iconst (v := (-1 : Int32)) hx hb dX7_type_11 (by decide) ?_
      obtain ⟨e14, e15⟩ := zs_s2 hF
      exact zs_iretE C S e14 (by rw [e15]) dX7_type_12

abbrev RMX7_clear : Room := { frames := 0, cells := 0, slots := 0, locals := 0 }
theorem zn_X7_clear_X4 : ∀ w ∈ wsX40, w ∈ wsX7_clear := zs_inl wsX40 [13, 14] (by decide +kernel)
theorem zn_X7_clear_X7 : ∀ w ∈ wsX70, w ∈ wsX7_clear := zs_inl wsX70 [3, 4, 5, 6, 7, 8, 9, 10, 11, 12] (by decide +kernel)
set_option maxRecDepth 100000 in
set_option maxHeartbeats 4000000 in
theorem c_X7_clear (l : Launch) (G : GG) (aXm aTx aRd aPr aSg aAh aIm0 aIm1 aYt aYr : Ad) (Xm : Ob) (tr : Int64) (Tx : Ob) (sz : Nat) (rr : Int32) (Tx_ : Ob) (hF : F_X7_clear Tx = some (rr, Tx_)) : Met l yX7_clear wsX7_clear RMX7_clear (va_Pc [.ref (aXm 0)] (zs_pre G (wX7 G aXm aTx aRd aPr aSg aAh aIm0 aIm1 aYt aYr Xm tr ++ wX4 G aTx Tx) sz)) (zs_Qi G (wX7 G aXm aTx aRd aPr aSg aAh aIm0 aIm1 aYt aYr Xm tr ++ wX4 G aTx Tx_) rr (va_A (wX7 G aXm aTx aRd aPr aSg aAh aIm0 aIm1 aYt aYr Xm tr ++ wX4 G aTx Tx) sz)) 0 0 (va_A (wX7 G aXm aTx aRd aPr aSg aAh aIm0 aIm1 aYt aYr Xm tr ++ wX4 G aTx Tx) sz) := by
  refine zs_met (cc := cX7_clear) (maxL := 2) (ret := (some .int)) (own := RX7) (Qc := zs_Qi G (wX7 G aXm aTx aRd aPr aSg aAh aIm0 aIm1 aYt aYr Xm tr ++ wX4 G aTx Tx_) rr) (by decide) rfl rfl (Nat.le_of_ble_eq_true rfl) ?_
  intro p e s m args below meth c C A hK hA S _ _ ls hl
  have hl : lv_has ls 2 [(0, .ref (aXm 0))] := hl
  have hx := C.1.1
  have hb := C.1.2.1
  unfold F_X7_clear at hF
  refine lv_aload_n hx hb dX7_clear_0 rfl (lv_at hl 0 rfl) ?_
  refine zs_get C hK S 0 0 (Cn := RX7) (T := TX7) (N := 10) (ci := 7) rfl rfl (by decide) zn_X7_clear_X7 (List.mem_of_getElem? (i := 1) rfl) rfl dX7_clear_1 ?_
  refine zs_get C hK S 2 1 (Cn := RX4) (T := TX4) (N := 2) (ci := 4) rfl rfl (by decide) zn_X7_clear_X4 (List.mem_of_getElem? (i := 2) rfl) rfl dX7_clear_4 ?_
  refine lv_topi (fun z1 e2 => ?_)
  have hF := zs_letS hF e2
  refine lv_istore_n (lv' := [(1, .int z1), (0, .ref (aXm 0))]) hx hb dX7_clear_7 rfl hl (by decide) rfl (fun ls hl => ?_)
  refine lv_aload_n hx hb dX7_clear_8 rfl (lv_at hl 1 rfl) ?_
  refine zs_get C hK S 0 0 (Cn := RX7) (T := TX7) (N := 10) (ci := 7) rfl rfl (by decide) zn_X7_clear_X7 (List.mem_of_getElem? (i := 1) rfl) rfl dX7_clear_9 ?_
  refine lv_iconst (v := (0 : Int32)) hx hb dX7_clear_12 (by decide) ?_
  obtain ⟨Txw3, e4⟩ : ∃ q : Ob, q = zs_up Tx 0 1 (0 : Int32) := ⟨_, rfl⟩
  have hF := zs_letS hF e4
  refine zs_put C hK S 2 1 (ws' := wX7 G aXm aTx aRd aPr aSg aAh aIm0 aIm1 aYt aYr Xm tr ++ wX4 G aTx Txw3) (Cn := RX4) (T := TX4) (N := 2) (ci := 4) rfl rfl (by decide) zn_X7_clear_X4 tyX4_ok nmX4 (List.mem_of_getElem? (i := 2) rfl) rfl rfl rfl (Nat.le_of_ble_eq_true rfl) (by rw [e4]; rfl) dX7_clear_13 (fun H locs S => ?_)
  refine lv_iload_n hx hb dX7_clear_16 rfl (lv_at hl 0 rfl) ?_
  obtain ⟨e5, e6⟩ := zs_s2 hF
  exact zs_iretE C S e5 (by rw [e6]) dX7_clear_17

theorem zd_X6_dark : yX6_dark.cls = RX6 ∧ yX6_dark.cls ≠ "java/lang/invoke/MethodHandle" ∧ yX6_dark.cls ≠ "java/lang/invoke/VarHandle" ∧ (parseMethodDescriptor yX6_dark.desc).map (fun d => d.parameters.length) = some 1 := by decide +kernel
theorem zd_X7_isWall : yX7_isWall.cls = RX7 ∧ yX7_isWall.cls ≠ "java/lang/invoke/MethodHandle" ∧ yX7_isWall.cls ≠ "java/lang/invoke/VarHandle" ∧ (parseMethodDescriptor yX7_isWall.desc).map (fun d => d.parameters.length) = some 1 := by decide +kernel
abbrev RMX7_wall : Room := { frames := 1, cells := 0, slots := 0, locals := 21 }
theorem zn_X7_wall_X1 : ∀ w ∈ wsX10, w ∈ wsX7_wall := zs_inl wsX10 [34, 35, 36, 37, 38, 39, 40, 41] (by decide +kernel)
theorem zn_X7_wall_X6 : ∀ w ∈ wsX60, w ∈ wsX7_wall := zs_inl wsX60 [42, 43, 44, 45, 46, 47, 48, 49, 50] (by decide +kernel)
theorem zn_X7_wall_X7 : ∀ w ∈ wsX70, w ∈ wsX7_wall := zs_inl wsX70 [24, 25, 26, 27, 28, 29, 30, 31, 32, 33] (by decide +kernel)
set_option maxRecDepth 100000 in
set_option maxHeartbeats 4000000 in
theorem c_X7_wall (l : Launch) (G : GG) (aXm aTx aRd aPr aSg aAh aIm0 aIm1 aYt aYr : Ad) (Xm : Ob) (tr : Int64) (Pr : Ob) (Yt : Ob) (u1 : Int32) (u2 : Int32) (sz : Nat) (rr : Int32) (hF : F_X7_wall Pr Yt u1 u2 = some rr) : Met l yX7_wall wsX7_wall RMX7_wall (va_Pc [.ref (aXm 0), .int u1, .int u2] (zs_pre G (wX7 G aXm aTx aRd aPr aSg aAh aIm0 aIm1 aYt aYr Xm tr ++ wX1 G aPr Pr ++ wX6 G aYt Yt) sz)) (zs_Qi G (wX7 G aXm aTx aRd aPr aSg aAh aIm0 aIm1 aYt aYr Xm tr ++ wX1 G aPr Pr ++ wX6 G aYt Yt) rr (va_A (wX7 G aXm aTx aRd aPr aSg aAh aIm0 aIm1 aYt aYr Xm tr ++ wX1 G aPr Pr ++ wX6 G aYt Yt) sz)) 0 0 (va_A (wX7 G aXm aTx aRd aPr aSg aAh aIm0 aIm1 aYt aYr Xm tr ++ wX1 G aPr Pr ++ wX6 G aYt Yt) sz) := by
  refine zs_met (cc := cX7_wall) (maxL := 3) (ret := (some .int)) (own := RX7) (Qc := zs_Qi G (wX7 G aXm aTx aRd aPr aSg aAh aIm0 aIm1 aYt aYr Xm tr ++ wX1 G aPr Pr ++ wX6 G aYt Yt) rr) (by decide) rfl rfl (Nat.le_of_ble_eq_true rfl) ?_
  intro p e s m args below meth c C A hK hA S _ _ ls hl
  have hl : lv_has ls 3 [(0, .ref (aXm 0)), (1, .int u1), (2, .int u2)] := hl
  have hx := C.1.1
  have hb := C.1.2.1
  unfold F_X7_wall at hF
  refine lv_aload_n hx hb dX7_wall_0 rfl (lv_at hl 0 rfl) ?_
  refine lv_iload_n hx hb dX7_wall_1 rfl (lv_at hl 1 rfl) ?_
  obtain ⟨r1, f2, hF⟩ := zs_bdS hF
  refine zs_calli (wr := wX1 G aPr Pr) (ws' := wX7 G aXm aTx aRd aPr aSg aAh aIm0 aIm1 aYt aYr Xm tr ++ wX1 G aPr Pr ++ wX6 G aYt Yt) S hA [0, 1, 6, 7, 8, 9, 10, 11, 12, 13] [2, 3, 4, 5] [4, 5, 0, 1, 2, 3, 6, 7, 8, 9, 10, 11, 12, 13] (zs_runV C hK hA S [.int u1] [] [0, 1, 6, 7, 8, 9, 10, 11, 12, 13] 0 1 (c_X7_isWall l G aXm aTx aRd aPr aSg aAh aIm0 aIm1 aYt aYr Xm tr Yt u1 s.heap.size r1 f2) gX7_wall_X7_isWall rfl rfl rfl zd_X7_isWall ⟨Nat.le_of_ble_eq_true rfl, Nat.le_of_ble_eq_true rfl⟩ rfl rfl rfl rfl rfl hl rfl (Nat.le_of_ble_eq_true rfl) dX7_wall_2 ⟨Nat.le_of_ble_eq_true rfl, Nat.le_of_ble_eq_true rfl⟩) rfl rfl rfl (by decide) rfl rfl (fun H locs S => ?_)
  refine lv_if_ne (tgt := 10) hx hb dX7_wall_5 (by decide) (fun c3 => ?_) (fun c3 => ?_)
  · have hF := zs_f hF c3
    refine lv_iload_n hx hb dX7_wall_10 rfl (lv_at hl 2 rfl) ?_
    by_cases c4 : u2 = (0 : Int32)
    · have hF := zs_t hF c4
      refine lv_tableIn (off := 41) (tgt := 52) hx hb dX7_wall_11 (by rw [c4]; decide) (by rw [c4]; decide) (by rw [c4]; rfl) (by decide) ?_
      refine lv_aload_n hx hb dX7_wall_52 rfl (lv_at hl 0 rfl) ?_
      refine zs_get C hK S 0 2 (Cn := RX7) (T := TX7) (N := 10) (ci := 7) rfl rfl (by decide) zn_X7_wall_X7 (List.mem_of_getElem? (i := 1) rfl) rfl dX7_wall_53 ?_
      refine zs_get C hK S 2 5 (Cn := RX1) (T := TX1) (N := 8) (ci := 1) rfl rfl (by decide) zn_X7_wall_X1 (List.mem_of_getElem? (i := 2) rfl) rfl dX7_wall_56 ?_
      refine lv_iload_n hx hb dX7_wall_59 rfl (lv_at hl 1 rfl) ?_
      obtain ⟨h5, hF⟩ := zs_ckS hF
      refine zs_iald C hK S 3 rfl h5 dX7_wall_60 ?_
      have e6 := zs_s1 hF
      exact zs_iretE C S e6 rfl dX7_wall_61
    · have hF := zs_f hF c4
      by_cases c7 : u2 = (1 : Int32)
      · have hF := zs_t hF c7
        refine lv_tableIn (off := 51) (tgt := 62) hx hb dX7_wall_11 (by rw [c7]; decide) (by rw [c7]; decide) (by rw [c7]; rfl) (by decide) ?_
        refine lv_aload_n hx hb dX7_wall_62 rfl (lv_at hl 0 rfl) ?_
        refine zs_get C hK S 0 6 (Cn := RX7) (T := TX7) (N := 10) (ci := 7) rfl rfl (by decide) zn_X7_wall_X7 (List.mem_of_getElem? (i := 3) rfl) rfl dX7_wall_63 ?_
        refine zs_get C hK S 6 3 (Cn := RX6) (T := TX6) (N := 9) (ci := 6) rfl rfl (by decide) zn_X7_wall_X6 (List.mem_of_getElem? (i := 4) rfl) rfl dX7_wall_66 ?_
        refine lv_iload_n hx hb dX7_wall_69 rfl (lv_at hl 1 rfl) ?_
        obtain ⟨h8, hF⟩ := zs_ckS hF
        refine zs_iald C hK S 8 rfl h8 dX7_wall_70 ?_
        have e9 := zs_s1 hF
        exact zs_iretE C S e9 rfl dX7_wall_71
      · have hF := zs_f hF c7
        by_cases c10 : u2 = (2 : Int32)
        · have hF := zs_t hF c10
          refine lv_tableIn (off := 61) (tgt := 72) hx hb dX7_wall_11 (by rw [c10]; decide) (by rw [c10]; decide) (by rw [c10]; rfl) (by decide) ?_
          refine lv_aload_n hx hb dX7_wall_72 rfl (lv_at hl 0 rfl) ?_
          refine zs_get C hK S 0 6 (Cn := RX7) (T := TX7) (N := 10) (ci := 7) rfl rfl (by decide) zn_X7_wall_X7 (List.mem_of_getElem? (i := 3) rfl) rfl dX7_wall_73 ?_
          refine zs_get C hK S 6 4 (Cn := RX6) (T := TX6) (N := 9) (ci := 6) rfl rfl (by decide) zn_X7_wall_X6 (List.mem_of_getElem? (i := 5) rfl) rfl dX7_wall_76 ?_
          refine lv_iload_n hx hb dX7_wall_79 rfl (lv_at hl 1 rfl) ?_
          obtain ⟨h11, hF⟩ := zs_ckS hF
          refine zs_iald C hK S 9 rfl h11 dX7_wall_80 ?_
          have e12 := zs_s1 hF
          exact zs_iretE C S e12 rfl dX7_wall_81
        · have hF := zs_f hF c10
          by_cases c13 : u2 = (3 : Int32)
          · have hF := zs_t hF c13
            refine lv_tableIn (off := 71) (tgt := 82) hx hb dX7_wall_11 (by rw [c13]; decide) (by rw [c13]; decide) (by rw [c13]; rfl) (by decide) ?_
            refine lv_aload_n hx hb dX7_wall_82 rfl (lv_at hl 0 rfl) ?_
            refine zs_get C hK S 0 6 (Cn := RX7) (T := TX7) (N := 10) (ci := 7) rfl rfl (by decide) zn_X7_wall_X7 (List.mem_of_getElem? (i := 3) rfl) rfl dX7_wall_83 ?_
            refine zs_get C hK S 6 5 (Cn := RX6) (T := TX6) (N := 9) (ci := 6) rfl rfl (by decide) zn_X7_wall_X6 (List.mem_of_getElem? (i := 6) rfl) rfl dX7_wall_86 ?_
            refine lv_iload_n hx hb dX7_wall_89 rfl (lv_at hl 1 rfl) ?_
            obtain ⟨h14, hF⟩ := zs_ckS hF
            refine zs_iald C hK S 10 rfl h14 dX7_wall_90 ?_
            have e15 := zs_s1 hF
            exact zs_iretE C S e15 rfl dX7_wall_91
          · have hF := zs_f hF c13
            by_cases c16 : u2 = (4 : Int32)
            · have hF := zs_t hF c16
              refine lv_tableIn (off := 81) (tgt := 92) hx hb dX7_wall_11 (by rw [c16]; decide) (by rw [c16]; decide) (by rw [c16]; rfl) (by decide) ?_
              refine lv_aload_n hx hb dX7_wall_92 rfl (lv_at hl 0 rfl) ?_
              refine zs_get C hK S 0 6 (Cn := RX7) (T := TX7) (N := 10) (ci := 7) rfl rfl (by decide) zn_X7_wall_X7 (List.mem_of_getElem? (i := 3) rfl) rfl dX7_wall_93 ?_
              refine lv_iload_n hx hb dX7_wall_96 rfl (lv_at hl 1 rfl) ?_
              obtain ⟨r17, f18, hF⟩ := zs_bdS hF
              refine zs_calli (wr := wX7 G aXm aTx aRd aPr aSg aAh aIm0 aIm1 aYt aYr Xm tr ++ wX1 G aPr Pr) (ws' := wX7 G aXm aTx aRd aPr aSg aAh aIm0 aIm1 aYt aYr Xm tr ++ wX1 G aPr Pr ++ wX6 G aYt Yt) S hA [6, 7, 8, 9, 10, 11, 12, 13] [0, 1, 2, 3, 4, 5] [0, 1, 2, 3, 4, 5, 6, 7, 8, 9, 10, 11, 12, 13] (zs_runV C hK hA S [.int u1] [] [6, 7, 8, 9, 10, 11, 12, 13] 6 1 (c_X6_dark l G aYt Yt u1 H.size r17 f18) gX7_wall_X6_dark rfl rfl rfl zd_X6_dark ⟨Nat.le_of_ble_eq_true rfl, Nat.le_of_ble_eq_true rfl⟩ rfl rfl rfl rfl rfl hl rfl (Nat.le_of_ble_eq_true rfl) dX7_wall_97 ⟨Nat.le_of_ble_eq_true rfl, Nat.le_of_ble_eq_true rfl⟩) rfl rfl rfl (by decide) rfl rfl (fun H locs S => ?_)
              have e19 := zs_s1 hF
              exact zs_iretE C S e19 rfl dX7_wall_100
            · have hF := zs_f hF c16
              by_cases c20 : u2 = (5 : Int32)
              · have hF := zs_t hF c20
                refine lv_tableIn (off := 90) (tgt := 101) hx hb dX7_wall_11 (by rw [c20]; decide) (by rw [c20]; decide) (by rw [c20]; rfl) (by decide) ?_
                refine lv_aload_n hx hb dX7_wall_101 rfl (lv_at hl 0 rfl) ?_
                refine zs_get C hK S 0 2 (Cn := RX7) (T := TX7) (N := 10) (ci := 7) rfl rfl (by decide) zn_X7_wall_X7 (List.mem_of_getElem? (i := 1) rfl) rfl dX7_wall_102 ?_
                refine zs_get C hK S 2 1 (Cn := RX1) (T := TX1) (N := 8) (ci := 1) rfl rfl (by decide) zn_X7_wall_X1 (List.mem_of_getElem? (i := 7) rfl) rfl dX7_wall_105 ?_
                refine lv_iload_n hx hb dX7_wall_108 rfl (lv_at hl 1 rfl) ?_
                obtain ⟨r21, f22, hF⟩ := zs_bdS hF
                refine zs_calliP S hA (zs_runS C hK hA S [.int (Pr 0 1), .int u1] [] [] 2 (c_X7_bit l G ((Pr 0 1)) u1 H.size r21 f22) gX7_wall_X7_bit rfl rfl rfl zd_X7_bit ⟨Nat.le_of_ble_eq_true rfl, Nat.le_of_ble_eq_true rfl⟩ rfl rfl rfl hl rfl (Nat.le_of_ble_eq_true rfl) dX7_wall_109 ⟨Nat.le_of_ble_eq_true rfl, Nat.le_of_ble_eq_true rfl⟩) (fun H locs S => ?_)
                have e23 := zs_s1 hF
                exact zs_iretE C S e23 rfl dX7_wall_112
              · have hF := zs_f hF c20
                by_cases c24 : u2 = (6 : Int32)
                · have hF := zs_t hF c24
                  refine lv_tableIn (off := 102) (tgt := 113) hx hb dX7_wall_11 (by rw [c24]; decide) (by rw [c24]; decide) (by rw [c24]; rfl) (by decide) ?_
                  refine lv_aload_n hx hb dX7_wall_113 rfl (lv_at hl 0 rfl) ?_
                  refine zs_get C hK S 0 2 (Cn := RX7) (T := TX7) (N := 10) (ci := 7) rfl rfl (by decide) zn_X7_wall_X7 (List.mem_of_getElem? (i := 1) rfl) rfl dX7_wall_114 ?_
                  refine zs_get C hK S 2 2 (Cn := RX1) (T := TX1) (N := 8) (ci := 1) rfl rfl (by decide) zn_X7_wall_X1 (List.mem_of_getElem? (i := 8) rfl) rfl dX7_wall_117 ?_
                  refine lv_iload_n hx hb dX7_wall_120 rfl (lv_at hl 1 rfl) ?_
                  obtain ⟨r25, f26, hF⟩ := zs_bdS hF
                  refine zs_calliP S hA (zs_runS C hK hA S [.int (Pr 0 2), .int u1] [] [] 2 (c_X7_bit l G ((Pr 0 2)) u1 H.size r25 f26) gX7_wall_X7_bit rfl rfl rfl zd_X7_bit ⟨Nat.le_of_ble_eq_true rfl, Nat.le_of_ble_eq_true rfl⟩ rfl rfl rfl hl rfl (Nat.le_of_ble_eq_true rfl) dX7_wall_121 ⟨Nat.le_of_ble_eq_true rfl, Nat.le_of_ble_eq_true rfl⟩) (fun H locs S => ?_)
                  have e27 := zs_s1 hF
                  exact zs_iretE C S e27 rfl dX7_wall_124
                · have hF := zs_f hF c24
                  refine lv_tableOut (tgt := 125) hx hb dX7_wall_11 (zs_sw7 c4 c7 c10 c13 c16 c20 c24) (by decide) ?_
                  refine lv_iconst (v := (-1 : Int32)) hx hb dX7_wall_125 (by decide) ?_
                  have e28 := zs_s1 hF
                  exact zs_iretE C S e28 rfl dX7_wall_126
  · have hF := zs_t hF c3
    refine lv_iconst (v := (-1 : Int32)) hx hb dX7_wall_8 (by decide) ?_
    have e29 := zs_s1 hF
    exact zs_iretE C S e29 rfl dX7_wall_9

abbrev RMX7_sees : Room := { frames := 1, cells := 0, slots := 0, locals := 21 }
theorem zn_X7_sees_X6 : ∀ w ∈ wsX60, w ∈ wsX7_sees := zs_inl wsX60 [19, 20, 21, 22, 23, 24, 25, 26, 27] (by decide +kernel)
theorem zn_X7_sees_X7 : ∀ w ∈ wsX70, w ∈ wsX7_sees := zs_inl wsX70 [9, 10, 11, 12, 13, 14, 15, 16, 17, 18] (by decide +kernel)
set_option maxRecDepth 100000 in
set_option maxHeartbeats 4000000 in
theorem c_X7_sees (l : Launch) (G : GG) (aXm aTx aRd aPr aSg aAh aIm0 aIm1 aYt aYr : Ad) (Xm : Ob) (tr : Int64) (Yt : Ob) (u1 : Int32) (u2 : Int32) (sz : Nat) (rr : Int32) (hF : F_X7_sees Yt u1 u2 = some rr) : Met l yX7_sees wsX7_sees RMX7_sees (va_Pc [.ref (aXm 0), .int u1, .int u2] (zs_pre G (wX7 G aXm aTx aRd aPr aSg aAh aIm0 aIm1 aYt aYr Xm tr ++ wX6 G aYt Yt) sz)) (zs_Qi G (wX7 G aXm aTx aRd aPr aSg aAh aIm0 aIm1 aYt aYr Xm tr ++ wX6 G aYt Yt) rr (va_A (wX7 G aXm aTx aRd aPr aSg aAh aIm0 aIm1 aYt aYr Xm tr ++ wX6 G aYt Yt) sz)) 0 0 (va_A (wX7 G aXm aTx aRd aPr aSg aAh aIm0 aIm1 aYt aYr Xm tr ++ wX6 G aYt Yt) sz) := by
  refine zs_met (cc := cX7_sees) (maxL := 3) (ret := (some .int)) (own := RX7) (Qc := zs_Qi G (wX7 G aXm aTx aRd aPr aSg aAh aIm0 aIm1 aYt aYr Xm tr ++ wX6 G aYt Yt) rr) (by decide) rfl rfl (Nat.le_of_ble_eq_true rfl) ?_
  intro p e s m args below meth c C A hK hA S _ _ ls hl
  have hl : lv_has ls 3 [(0, .ref (aXm 0)), (1, .int u1), (2, .int u2)] := hl
  have hx := C.1.1
  have hb := C.1.2.1
  unfold F_X7_sees at hF
  refine lv_aload_n hx hb dX7_sees_0 rfl (lv_at hl 0 rfl) ?_
  refine lv_iload_n hx hb dX7_sees_1 rfl (lv_at hl 1 rfl) ?_
  obtain ⟨r1, f2, hF⟩ := zs_bdS hF
  refine zs_calli (wr := ([] : va_W)) (ws' := wX7 G aXm aTx aRd aPr aSg aAh aIm0 aIm1 aYt aYr Xm tr ++ wX6 G aYt Yt) S hA [0, 1, 2, 3, 4, 5, 6, 7, 8, 9] [] [0, 1, 2, 3, 4, 5, 6, 7, 8, 9] (zs_runV C hK hA S [.int u1] [] [0, 1, 2, 3, 4, 5, 6, 7, 8, 9] 0 1 (c_X7_isWall l G aXm aTx aRd aPr aSg aAh aIm0 aIm1 aYt aYr Xm tr Yt u1 s.heap.size r1 f2) gX7_sees_X7_isWall rfl rfl rfl zd_X7_isWall ⟨Nat.le_of_ble_eq_true rfl, Nat.le_of_ble_eq_true rfl⟩ rfl rfl rfl rfl rfl hl rfl (Nat.le_of_ble_eq_true rfl) dX7_sees_2 ⟨Nat.le_of_ble_eq_true rfl, Nat.le_of_ble_eq_true rfl⟩) rfl rfl rfl (by decide) rfl rfl (fun H locs S => ?_)
  refine lv_if_eq (tgt := 21) hx hb dX7_sees_5 (by decide) (fun c3 => ?_) (fun c3 => ?_)
  · have hF := zs_t hF c3
    refine lv_iconst (v := (-1 : Int32)) hx hb dX7_sees_21 (by decide) ?_
    have e4 := zs_s1 hF
    exact zs_iretE C S e4 rfl dX7_sees_22
  · have hF := zs_f hF c3
    refine lv_aload_n hx hb dX7_sees_8 rfl (lv_at hl 0 rfl) ?_
    refine lv_iload_n hx hb dX7_sees_9 rfl (lv_at hl 2 rfl) ?_
    obtain ⟨r5, f6, hF⟩ := zs_bdS hF
    refine zs_calli (wr := ([] : va_W)) (ws' := wX7 G aXm aTx aRd aPr aSg aAh aIm0 aIm1 aYt aYr Xm tr ++ wX6 G aYt Yt) S hA [0, 1, 2, 3, 4, 5, 6, 7, 8, 9] [] [0, 1, 2, 3, 4, 5, 6, 7, 8, 9] (zs_runV C hK hA S [.int u2] [] [0, 1, 2, 3, 4, 5, 6, 7, 8, 9] 0 1 (c_X7_isWall l G aXm aTx aRd aPr aSg aAh aIm0 aIm1 aYt aYr Xm tr Yt u2 H.size r5 f6) gX7_sees_X7_isWall rfl rfl rfl zd_X7_isWall ⟨Nat.le_of_ble_eq_true rfl, Nat.le_of_ble_eq_true rfl⟩ rfl rfl rfl rfl rfl hl rfl (Nat.le_of_ble_eq_true rfl) dX7_sees_10 ⟨Nat.le_of_ble_eq_true rfl, Nat.le_of_ble_eq_true rfl⟩) rfl rfl rfl (by decide) rfl rfl (fun H locs S => ?_)
    refine lv_if_eq (tgt := 21) hx hb dX7_sees_13 (by decide) (fun c7 => ?_) (fun c7 => ?_)
    · have hF := zs_t hF c7
      refine lv_iconst (v := (-1 : Int32)) hx hb dX7_sees_21 (by decide) ?_
      have e8 := zs_s1 hF
      exact zs_iretE C S e8 rfl dX7_sees_22
    · have hF := zs_f hF c7
      refine lv_iload_n hx hb dX7_sees_16 rfl (lv_at hl 1 rfl) ?_
      refine lv_iload_n hx hb dX7_sees_17 rfl (lv_at hl 2 rfl) ?_
      refine lv_icmp_ne (tgt := 23) hx hb dX7_sees_18 (by decide) (fun c9 => ?_) (fun c9 => ?_)
      · have hF := zs_f hF c9
        refine lv_aload_n hx hb dX7_sees_23 rfl (lv_at hl 0 rfl) ?_
        refine zs_get C hK S 0 6 (Cn := RX7) (T := TX7) (N := 10) (ci := 7) rfl rfl (by decide) zn_X7_sees_X7 (List.mem_of_getElem? (i := 1) rfl) rfl dX7_sees_24 ?_
        refine zs_get C hK S 2 6 (Cn := RX6) (T := TX6) (N := 9) (ci := 6) rfl rfl (by decide) zn_X7_sees_X6 (List.mem_of_getElem? (i := 2) rfl) rfl dX7_sees_27 ?_
        refine lv_iload_n hx hb dX7_sees_30 rfl (lv_at hl 1 rfl) ?_
        refine lv_bipush (v := (6 : Int32)) hx hb dX7_sees_31 (by decide) ?_
        refine lv_imul hx hb dX7_sees_33 ?_
        refine lv_iload_n hx hb dX7_sees_34 rfl (lv_at hl 2 rfl) ?_
        refine lv_iadd hx hb dX7_sees_35 ?_
        obtain ⟨h10, hF⟩ := zs_ckS hF
        refine zs_iald C hK S 7 rfl h10 dX7_sees_36 ?_
        have e11 := zs_s1 hF
        exact zs_iretE C S e11 rfl dX7_sees_37
      · have hF := zs_t hF c9
        refine lv_iconst (v := (-1 : Int32)) hx hb dX7_sees_21 (by decide) ?_
        have e12 := zs_s1 hF
        exact zs_iretE C S e12 rfl dX7_sees_22

abbrev RMX7_hour : Room := { frames := 3, cells := 0, slots := 0, locals := 71 }
theorem zn_X7_hour_X1 : ∀ w ∈ wsX10, w ∈ wsX7_hour := zs_inl wsX10 [38, 39, 40, 41, 42, 43, 44, 45] (by decide +kernel)
theorem zn_X7_hour_X7 : ∀ w ∈ wsX70, w ∈ wsX7_hour := zs_inl wsX70 [28, 29, 30, 31, 32, 33, 34, 35, 36, 37] (by decide +kernel)
set_option maxRecDepth 100000 in
set_option maxHeartbeats 4000000 in
theorem c_X7_hour (l : Launch) (G : GG) (aXm aTx aRd aPr aSg aAh aIm0 aIm1 aYt aYr : Ad) (Xm : Ob) (tr : Int64) (Pr : Ob) (Yt : Ob) (sz : Nat) (rr : Int32) (Pr_ : Ob) (hF : F_X7_hour Pr Yt = some (rr, Pr_)) : Met l yX7_hour wsX7_hour RMX7_hour (va_Pc [.ref (aXm 0)] (zs_pre G (wX7 G aXm aTx aRd aPr aSg aAh aIm0 aIm1 aYt aYr Xm tr ++ wX1 G aPr Pr ++ wX6 G aYt Yt) sz)) (zs_Qi G (wX7 G aXm aTx aRd aPr aSg aAh aIm0 aIm1 aYt aYr Xm tr ++ wX1 G aPr Pr_ ++ wX6 G aYt Yt) rr (va_A (wX7 G aXm aTx aRd aPr aSg aAh aIm0 aIm1 aYt aYr Xm tr ++ wX1 G aPr Pr ++ wX6 G aYt Yt) sz)) 0 0 (va_A (wX7 G aXm aTx aRd aPr aSg aAh aIm0 aIm1 aYt aYr Xm tr ++ wX1 G aPr Pr ++ wX6 G aYt Yt) sz) := by
  refine zs_met (cc := cX7_hour) (maxL := 1) (ret := (some .int)) (own := RX7) (Qc := zs_Qi G (wX7 G aXm aTx aRd aPr aSg aAh aIm0 aIm1 aYt aYr Xm tr ++ wX1 G aPr Pr_ ++ wX6 G aYt Yt) rr) (by decide) rfl rfl (Nat.le_of_ble_eq_true rfl) ?_
  intro p e s m args below meth c C A hK hA S _ _ ls hl
  have hl : lv_has ls 1 [(0, .ref (aXm 0))] := hl
  have hx := C.1.1
  have hb := C.1.2.1
  unfold F_X7_hour at hF
  refine lv_aload_n hx hb dX7_hour_0 rfl (lv_at hl 0 rfl) ?_
  refine zs_get C hK S 0 2 (Cn := RX7) (T := TX7) (N := 10) (ci := 7) rfl rfl (by decide) zn_X7_hour_X7 (List.mem_of_getElem? (i := 1) rfl) rfl dX7_hour_1 ?_
  refine zs_get C hK S 2 0 (Cn := RX1) (T := TX1) (N := 8) (ci := 1) rfl rfl (by decide) zn_X7_hour_X1 (List.mem_of_getElem? (i := 2) rfl) rfl dX7_hour_4 ?_
  refine lv_sipush (v := (999 : Int32)) hx hb dX7_hour_7 (by decide) ?_
  refine lv_icmp_lt (tgt := 16) hx hb dX7_hour_10 (by decide) (fun c1 => ?_) (fun c1 => ?_)
  · have hF := zs_t hF c1
    refine lv_aload_n hx hb dX7_hour_16 rfl (lv_at hl 0 rfl) ?_
    refine zs_get C hK S 0 2 (Cn := RX7) (T := TX7) (N := 10) (ci := 7) rfl rfl (by decide) zn_X7_hour_X7 (List.mem_of_getElem? (i := 1) rfl) rfl dX7_hour_17 ?_
    refine lv_aload_n hx hb dX7_hour_20 rfl (lv_at hl 0 rfl) ?_
    refine zs_get C hK S 0 6 (Cn := RX7) (T := TX7) (N := 10) (ci := 7) rfl rfl (by decide) zn_X7_hour_X7 (List.mem_of_getElem? (i := 3) rfl) rfl dX7_hour_21 ?_
    obtain ⟨r2, Prw3, f4, hF⟩ := zs_b2S hF
    refine zs_calli (wr := wX7 G aXm aTx aRd aPr aSg aAh aIm0 aIm1 aYt aYr Xm tr) (ws' := wX7 G aXm aTx aRd aPr aSg aAh aIm0 aIm1 aYt aYr Xm tr ++ wX1 G aPr Prw3 ++ wX6 G aYt Yt) S hA [2, 3, 4, 5, 6, 7, 8, 9, 10, 11, 12, 13] [0, 1] [0, 1, 2, 3, 4, 5, 6, 7, 8, 9, 10, 11, 12, 13] (zs_runV C hK hA S [.ref (aYt 0)] [] [2, 3, 4, 5, 6, 7, 8, 9, 10, 11, 12, 13] 2 1 (c_X1_goBy l G aPr aYt Pr Yt s.heap.size r2 Prw3 f4) gX7_hour_X1_goBy rfl rfl rfl zd_X1_goBy ⟨Nat.le_of_ble_eq_true rfl, Nat.le_of_ble_eq_true rfl⟩ rfl rfl rfl rfl rfl hl rfl (Nat.le_of_ble_eq_true rfl) dX7_hour_24 ⟨Nat.le_of_ble_eq_true rfl, Nat.le_of_ble_eq_true rfl⟩) rfl rfl rfl (by decide) rfl rfl (fun H locs S => ?_)
    obtain ⟨e5, e6⟩ := zs_s2 hF
    exact zs_iretE C S e5 (by rw [e6]) dX7_hour_27
  · have hF := zs_f hF c1
    refine lv_bipush (v := (-2 : Int32)) hx hb dX7_hour_13 (by decide) ?_
    obtain ⟨e7, e8⟩ := zs_s2 hF
    exact zs_iretE C S e7 (by rw [e8]) dX7_hour_15

theorem zd_J6_bitCount_0f7a4 : yJ6_bitCount_0f7a4.cls ≠ "java/lang/invoke/MethodHandle" ∧ yJ6_bitCount_0f7a4.cls ≠ "java/lang/invoke/VarHandle" ∧ (parseMethodDescriptor yJ6_bitCount_0f7a4.desc).map (fun d => d.parameters.length) = some 1 := by decide +kernel
theorem zd_X1_change : yX1_change.cls = RX1 ∧ yX1_change.cls ≠ "java/lang/invoke/MethodHandle" ∧ yX1_change.cls ≠ "java/lang/invoke/VarHandle" ∧ (parseMethodDescriptor yX1_change.desc).map (fun d => d.parameters.length) = some 1 := by decide +kernel
theorem zd_X7_isBit : yX7_isBit.cls ≠ "java/lang/invoke/MethodHandle" ∧ yX7_isBit.cls ≠ "java/lang/invoke/VarHandle" ∧ (parseMethodDescriptor yX7_isBit.desc).map (fun d => d.parameters.length) = some 1 := by decide +kernel
abbrev RMX7_shut : Room := { frames := 2, cells := 0, slots := 0, locals := 43 }
theorem zn_X7_shut_X1 : ∀ w ∈ wsX10, w ∈ wsX7_shut := zs_inl wsX10 [46, 47, 48, 49, 50, 51, 52, 53] (by decide +kernel)
theorem zn_X7_shut_X7 : ∀ w ∈ wsX70, w ∈ wsX7_shut := zs_inl wsX70 [36, 37, 38, 39, 40, 41, 42, 43, 44, 45] (by decide +kernel)
set_option maxRecDepth 100000 in
set_option maxHeartbeats 4000000 in
theorem c_X7_shut (l : Launch) (G : GG) (aXm aTx aRd aPr aSg aAh aIm0 aIm1 aYt aYr : Ad) (Xm : Ob) (tr : Int64) (Pr : Ob) (Yt : Ob) (u1 : Int32) (u2 : Int32) (sz : Nat) (rr : Int32) (Pr_ : Ob) (hF : F_X7_shut Pr Yt u1 u2 = some (rr, Pr_)) : Met l yX7_shut wsX7_shut RMX7_shut (va_Pc [.ref (aXm 0), .int u1, .int u2] (zs_pre G (wX7 G aXm aTx aRd aPr aSg aAh aIm0 aIm1 aYt aYr Xm tr ++ wX1 G aPr Pr ++ wX6 G aYt Yt) sz)) (zs_Qi G (wX7 G aXm aTx aRd aPr aSg aAh aIm0 aIm1 aYt aYr Xm tr ++ wX1 G aPr Pr_ ++ wX6 G aYt Yt) rr (va_A (wX7 G aXm aTx aRd aPr aSg aAh aIm0 aIm1 aYt aYr Xm tr ++ wX1 G aPr Pr ++ wX6 G aYt Yt) sz)) 0 0 (va_A (wX7 G aXm aTx aRd aPr aSg aAh aIm0 aIm1 aYt aYr Xm tr ++ wX1 G aPr Pr ++ wX6 G aYt Yt) sz) := by
  refine zs_met (cc := cX7_shut) (maxL := 3) (ret := (some .int)) (own := RX7) (Qc := zs_Qi G (wX7 G aXm aTx aRd aPr aSg aAh aIm0 aIm1 aYt aYr Xm tr ++ wX1 G aPr Pr_ ++ wX6 G aYt Yt) rr) (by decide) rfl rfl (Nat.le_of_ble_eq_true rfl) ?_
  intro p e s m args below meth c C A hK hA S _ _ ls hl
  have hl : lv_has ls 3 [(0, .ref (aXm 0)), (1, .int u1), (2, .int u2)] := hl
  have hx := C.1.1
  have hb := C.1.2.1
  unfold F_X7_shut at hF
  refine lv_aload_n hx hb dX7_shut_0 rfl (lv_at hl 0 rfl) ?_
  refine lv_iload_n hx hb dX7_shut_1 rfl (lv_at hl 1 rfl) ?_
  obtain ⟨r1, f2, hF⟩ := zs_bdS hF
  refine zs_calli (wr := wX1 G aPr Pr) (ws' := wX7 G aXm aTx aRd aPr aSg aAh aIm0 aIm1 aYt aYr Xm tr ++ wX1 G aPr Pr ++ wX6 G aYt Yt) S hA [0, 1, 6, 7, 8, 9, 10, 11, 12, 13] [2, 3, 4, 5] [4, 5, 0, 1, 2, 3, 6, 7, 8, 9, 10, 11, 12, 13] (zs_runV C hK hA S [.int u1] [] [0, 1, 6, 7, 8, 9, 10, 11, 12, 13] 0 1 (c_X7_isWall l G aXm aTx aRd aPr aSg aAh aIm0 aIm1 aYt aYr Xm tr Yt u1 s.heap.size r1 f2) gX7_shut_X7_isWall rfl rfl rfl zd_X7_isWall ⟨Nat.le_of_ble_eq_true rfl, Nat.le_of_ble_eq_true rfl⟩ rfl rfl rfl rfl rfl hl rfl (Nat.le_of_ble_eq_true rfl) dX7_shut_2 ⟨Nat.le_of_ble_eq_true rfl, Nat.le_of_ble_eq_true rfl⟩) rfl rfl rfl (by decide) rfl rfl (fun H locs S => ?_)
  refine lv_if_eq (tgt := 15) hx hb dX7_shut_5 (by decide) (fun c3 => ?_) (fun c3 => ?_)
  · have hF := zs_t hF c3
    refine lv_iconst (v := (-1 : Int32)) hx hb dX7_shut_15 (by decide) ?_
    obtain ⟨e4, e5⟩ := zs_s2 hF
    exact zs_iretE C S e4 (by rw [e5]) dX7_shut_16
  · have hF := zs_f hF c3
    refine lv_iload_n hx hb dX7_shut_8 rfl (lv_at hl 2 rfl) ?_
    obtain ⟨r6, f7, hF⟩ := zs_bdS hF
    refine zs_calliP S hA (zs_runS C hK hA S [.int u2] [] [] 1 (c_X7_isBit l G u2 H.size r6 f7) gX7_shut_X7_isBit rfl rfl rfl zd_X7_isBit ⟨Nat.le_of_ble_eq_true rfl, Nat.le_of_ble_eq_true rfl⟩ rfl rfl rfl hl rfl (Nat.le_of_ble_eq_true rfl) dX7_shut_9 ⟨Nat.le_of_ble_eq_true rfl, Nat.le_of_ble_eq_true rfl⟩) (fun H locs S => ?_)
    refine lv_if_ne (tgt := 17) hx hb dX7_shut_12 (by decide) (fun c8 => ?_) (fun c8 => ?_)
    · have hF := zs_f hF c8
      refine lv_aload_n hx hb dX7_shut_17 rfl (lv_at hl 0 rfl) ?_
      refine zs_get C hK S 0 2 (Cn := RX7) (T := TX7) (N := 10) (ci := 7) rfl rfl (by decide) zn_X7_shut_X7 (List.mem_of_getElem? (i := 1) rfl) rfl dX7_shut_18 ?_
      refine zs_get C hK S 2 1 (Cn := RX1) (T := TX1) (N := 8) (ci := 1) rfl rfl (by decide) zn_X7_shut_X1 (List.mem_of_getElem? (i := 2) rfl) rfl dX7_shut_21 ?_
      refine lv_iload_n hx hb dX7_shut_24 rfl (lv_at hl 1 rfl) ?_
      obtain ⟨r9, f10, hF⟩ := zs_bdS hF
      refine zs_calliP S hA (zs_runS C hK hA S [.int (Pr 0 1), .int u1] [] [] 2 (c_X7_bit l G ((Pr 0 1)) u1 H.size r9 f10) gX7_shut_X7_bit rfl rfl rfl zd_X7_bit ⟨Nat.le_of_ble_eq_true rfl, Nat.le_of_ble_eq_true rfl⟩ rfl rfl rfl hl rfl (Nat.le_of_ble_eq_true rfl) dX7_shut_25 ⟨Nat.le_of_ble_eq_true rfl, Nat.le_of_ble_eq_true rfl⟩) (fun H locs S => ?_)
      refine lv_iload_n hx hb dX7_shut_28 rfl (lv_at hl 2 rfl) ?_
      refine lv_icmp_ne (tgt := 35) hx hb dX7_shut_29 (by decide) (fun c11 => ?_) (fun c11 => ?_)
      · have hF := zs_f hF c11
        refine lv_aload_n hx hb dX7_shut_35 rfl (lv_at hl 0 rfl) ?_
        refine zs_get C hK S 0 2 (Cn := RX7) (T := TX7) (N := 10) (ci := 7) rfl rfl (by decide) zn_X7_shut_X7 (List.mem_of_getElem? (i := 1) rfl) rfl dX7_shut_36 ?_
        refine lv_iload_n hx hb dX7_shut_39 rfl (lv_at hl 1 rfl) ?_
        obtain ⟨Prw12, f13, hF⟩ := zs_bdS hF
        refine zs_callv (wr := wX7 G aXm aTx aRd aPr aSg aAh aIm0 aIm1 aYt aYr Xm tr ++ wX6 G aYt Yt) (ws' := wX7 G aXm aTx aRd aPr aSg aAh aIm0 aIm1 aYt aYr Xm tr ++ wX1 G aPr Prw12 ++ wX6 G aYt Yt) S hA [2, 3, 4, 5] [0, 1, 6, 7, 8, 9, 10, 11, 12, 13] [0, 1, 10, 11, 12, 13, 2, 3, 4, 5, 6, 7, 8, 9] (zs_runV C hK hA S [.int u1] [] [2, 3, 4, 5] 2 1 (c_X1_change l G aPr Pr u1 H.size Prw12 f13) gX7_shut_X1_change rfl rfl rfl zd_X1_change ⟨Nat.le_of_ble_eq_true rfl, Nat.le_of_ble_eq_true rfl⟩ rfl rfl rfl rfl rfl hl rfl (Nat.le_of_ble_eq_true rfl) dX7_shut_40 ⟨Nat.le_of_ble_eq_true rfl, Nat.le_of_ble_eq_true rfl⟩) rfl rfl rfl (by decide) rfl rfl (fun H locs S => ?_)
        refine lv_aload_n hx hb dX7_shut_43 rfl (lv_at hl 0 rfl) ?_
        refine zs_get C hK S 0 2 (Cn := RX7) (T := TX7) (N := 10) (ci := 7) rfl rfl (by decide) zn_X7_shut_X7 (List.mem_of_getElem? (i := 1) rfl) rfl dX7_shut_44 ?_
        refine zs_get C hK S 2 1 (Cn := RX1) (T := TX1) (N := 8) (ci := 1) rfl rfl (by decide) zn_X7_shut_X1 (List.mem_of_getElem? (i := 2) rfl) rfl dX7_shut_47 ?_
        obtain ⟨r14, f15, hF⟩ := zs_bdS hF
        refine zs_calliP S hA (zs_runS C hK hA S [.int (Prw12 0 1)] [] [] 1 (c_J6_bitCount_0f7a4 l G ((Prw12 0 1)) H.size r14 f15) gX7_shut_J6_bitCount_0f7a4 rfl rfl rfl zd_J6_bitCount_0f7a4 ⟨Nat.le_of_ble_eq_true rfl, Nat.le_of_ble_eq_true rfl⟩ rfl rfl rfl hl rfl (Nat.le_of_ble_eq_true rfl) dX7_shut_50 ⟨Nat.le_of_ble_eq_true rfl, Nat.le_of_ble_eq_true rfl⟩) (fun H locs S => ?_)
        obtain ⟨e16, e17⟩ := zs_s2 hF
        exact zs_iretE C S e16 (by rw [e17]) dX7_shut_53
      · have hF := zs_t hF c11
        refine lv_bipush (v := (-2 : Int32)) hx hb dX7_shut_32 (by decide) ?_
        obtain ⟨e18, e19⟩ := zs_s2 hF
        exact zs_iretE C S e18 (by rw [e19]) dX7_shut_34
    · have hF := zs_t hF c8
      refine lv_iconst (v := (-1 : Int32)) hx hb dX7_shut_15 (by decide) ?_
      obtain ⟨e20, e21⟩ := zs_s2 hF
      exact zs_iretE C S e20 (by rw [e21]) dX7_shut_16

abbrev RMX7_mirror : Room := { frames := 2, cells := 0, slots := 0, locals := 43 }
theorem zn_X7_mirror_X1 : ∀ w ∈ wsX10, w ∈ wsX7_mirror := zs_inl wsX10 [46, 47, 48, 49, 50, 51, 52, 53] (by decide +kernel)
theorem zn_X7_mirror_X7 : ∀ w ∈ wsX70, w ∈ wsX7_mirror := zs_inl wsX70 [36, 37, 38, 39, 40, 41, 42, 43, 44, 45] (by decide +kernel)
set_option maxRecDepth 100000 in
set_option maxHeartbeats 4000000 in
theorem c_X7_mirror (l : Launch) (G : GG) (aXm aTx aRd aPr aSg aAh aIm0 aIm1 aYt aYr : Ad) (Xm : Ob) (tr : Int64) (Pr : Ob) (Yt : Ob) (u1 : Int32) (u2 : Int32) (sz : Nat) (rr : Int32) (Pr_ : Ob) (hF : F_X7_mirror Pr Yt u1 u2 = some (rr, Pr_)) : Met l yX7_mirror wsX7_mirror RMX7_mirror (va_Pc [.ref (aXm 0), .int u1, .int u2] (zs_pre G (wX7 G aXm aTx aRd aPr aSg aAh aIm0 aIm1 aYt aYr Xm tr ++ wX1 G aPr Pr ++ wX6 G aYt Yt) sz)) (zs_Qi G (wX7 G aXm aTx aRd aPr aSg aAh aIm0 aIm1 aYt aYr Xm tr ++ wX1 G aPr Pr_ ++ wX6 G aYt Yt) rr (va_A (wX7 G aXm aTx aRd aPr aSg aAh aIm0 aIm1 aYt aYr Xm tr ++ wX1 G aPr Pr ++ wX6 G aYt Yt) sz)) 0 0 (va_A (wX7 G aXm aTx aRd aPr aSg aAh aIm0 aIm1 aYt aYr Xm tr ++ wX1 G aPr Pr ++ wX6 G aYt Yt) sz) := by
  refine zs_met (cc := cX7_mirror) (maxL := 3) (ret := (some .int)) (own := RX7) (Qc := zs_Qi G (wX7 G aXm aTx aRd aPr aSg aAh aIm0 aIm1 aYt aYr Xm tr ++ wX1 G aPr Pr_ ++ wX6 G aYt Yt) rr) (by decide) rfl rfl (Nat.le_of_ble_eq_true rfl) ?_
  intro p e s m args below meth c C A hK hA S _ _ ls hl
  have hl : lv_has ls 3 [(0, .ref (aXm 0)), (1, .int u1), (2, .int u2)] := hl
  have hx := C.1.1
  have hb := C.1.2.1
  unfold F_X7_mirror at hF
  refine lv_aload_n hx hb dX7_mirror_0 rfl (lv_at hl 0 rfl) ?_
  refine lv_iload_n hx hb dX7_mirror_1 rfl (lv_at hl 1 rfl) ?_
  obtain ⟨r1, f2, hF⟩ := zs_bdS hF
  refine zs_calli (wr := wX1 G aPr Pr) (ws' := wX7 G aXm aTx aRd aPr aSg aAh aIm0 aIm1 aYt aYr Xm tr ++ wX1 G aPr Pr ++ wX6 G aYt Yt) S hA [0, 1, 6, 7, 8, 9, 10, 11, 12, 13] [2, 3, 4, 5] [4, 5, 0, 1, 2, 3, 6, 7, 8, 9, 10, 11, 12, 13] (zs_runV C hK hA S [.int u1] [] [0, 1, 6, 7, 8, 9, 10, 11, 12, 13] 0 1 (c_X7_isWall l G aXm aTx aRd aPr aSg aAh aIm0 aIm1 aYt aYr Xm tr Yt u1 s.heap.size r1 f2) gX7_mirror_X7_isWall rfl rfl rfl zd_X7_isWall ⟨Nat.le_of_ble_eq_true rfl, Nat.le_of_ble_eq_true rfl⟩ rfl rfl rfl rfl rfl hl rfl (Nat.le_of_ble_eq_true rfl) dX7_mirror_2 ⟨Nat.le_of_ble_eq_true rfl, Nat.le_of_ble_eq_true rfl⟩) rfl rfl rfl (by decide) rfl rfl (fun H locs S => ?_)
  refine lv_if_eq (tgt := 15) hx hb dX7_mirror_5 (by decide) (fun c3 => ?_) (fun c3 => ?_)
  · have hF := zs_t hF c3
    refine lv_iconst (v := (-1 : Int32)) hx hb dX7_mirror_15 (by decide) ?_
    obtain ⟨e4, e5⟩ := zs_s2 hF
    exact zs_iretE C S e4 (by rw [e5]) dX7_mirror_16
  · have hF := zs_f hF c3
    refine lv_iload_n hx hb dX7_mirror_8 rfl (lv_at hl 2 rfl) ?_
    obtain ⟨r6, f7, hF⟩ := zs_bdS hF
    refine zs_calliP S hA (zs_runS C hK hA S [.int u2] [] [] 1 (c_X7_isBit l G u2 H.size r6 f7) gX7_mirror_X7_isBit rfl rfl rfl zd_X7_isBit ⟨Nat.le_of_ble_eq_true rfl, Nat.le_of_ble_eq_true rfl⟩ rfl rfl rfl hl rfl (Nat.le_of_ble_eq_true rfl) dX7_mirror_9 ⟨Nat.le_of_ble_eq_true rfl, Nat.le_of_ble_eq_true rfl⟩) (fun H locs S => ?_)
    refine lv_if_ne (tgt := 17) hx hb dX7_mirror_12 (by decide) (fun c8 => ?_) (fun c8 => ?_)
    · have hF := zs_f hF c8
      refine lv_aload_n hx hb dX7_mirror_17 rfl (lv_at hl 0 rfl) ?_
      refine zs_get C hK S 0 2 (Cn := RX7) (T := TX7) (N := 10) (ci := 7) rfl rfl (by decide) zn_X7_mirror_X7 (List.mem_of_getElem? (i := 1) rfl) rfl dX7_mirror_18 ?_
      refine zs_get C hK S 2 2 (Cn := RX1) (T := TX1) (N := 8) (ci := 1) rfl rfl (by decide) zn_X7_mirror_X1 (List.mem_of_getElem? (i := 2) rfl) rfl dX7_mirror_21 ?_
      refine lv_iload_n hx hb dX7_mirror_24 rfl (lv_at hl 1 rfl) ?_
      obtain ⟨r9, f10, hF⟩ := zs_bdS hF
      refine zs_calliP S hA (zs_runS C hK hA S [.int (Pr 0 2), .int u1] [] [] 2 (c_X7_bit l G ((Pr 0 2)) u1 H.size r9 f10) gX7_mirror_X7_bit rfl rfl rfl zd_X7_bit ⟨Nat.le_of_ble_eq_true rfl, Nat.le_of_ble_eq_true rfl⟩ rfl rfl rfl hl rfl (Nat.le_of_ble_eq_true rfl) dX7_mirror_25 ⟨Nat.le_of_ble_eq_true rfl, Nat.le_of_ble_eq_true rfl⟩) (fun H locs S => ?_)
      refine lv_iload_n hx hb dX7_mirror_28 rfl (lv_at hl 2 rfl) ?_
      refine lv_icmp_ne (tgt := 35) hx hb dX7_mirror_29 (by decide) (fun c11 => ?_) (fun c11 => ?_)
      · have hF := zs_f hF c11
        refine lv_aload_n hx hb dX7_mirror_35 rfl (lv_at hl 0 rfl) ?_
        refine zs_get C hK S 0 2 (Cn := RX7) (T := TX7) (N := 10) (ci := 7) rfl rfl (by decide) zn_X7_mirror_X7 (List.mem_of_getElem? (i := 1) rfl) rfl dX7_mirror_36 ?_
        refine lv_bipush (v := (6 : Int32)) hx hb dX7_mirror_39 (by decide) ?_
        refine lv_iload_n hx hb dX7_mirror_41 rfl (lv_at hl 1 rfl) ?_
        refine lv_iadd hx hb dX7_mirror_42 ?_
        obtain ⟨Prw12, f13, hF⟩ := zs_bdS hF
        refine zs_callv (wr := wX7 G aXm aTx aRd aPr aSg aAh aIm0 aIm1 aYt aYr Xm tr ++ wX6 G aYt Yt) (ws' := wX7 G aXm aTx aRd aPr aSg aAh aIm0 aIm1 aYt aYr Xm tr ++ wX1 G aPr Prw12 ++ wX6 G aYt Yt) S hA [2, 3, 4, 5] [0, 1, 6, 7, 8, 9, 10, 11, 12, 13] [0, 1, 10, 11, 12, 13, 2, 3, 4, 5, 6, 7, 8, 9] (zs_runV C hK hA S [.int ((6 : Int32) + u1)] [] [2, 3, 4, 5] 2 1 (c_X1_change l G aPr Pr (((6 : Int32) + u1)) H.size Prw12 f13) gX7_mirror_X1_change rfl rfl rfl zd_X1_change ⟨Nat.le_of_ble_eq_true rfl, Nat.le_of_ble_eq_true rfl⟩ rfl rfl rfl rfl rfl hl rfl (Nat.le_of_ble_eq_true rfl) dX7_mirror_43 ⟨Nat.le_of_ble_eq_true rfl, Nat.le_of_ble_eq_true rfl⟩) rfl rfl rfl (by decide) rfl rfl (fun H locs S => ?_)
        refine lv_aload_n hx hb dX7_mirror_46 rfl (lv_at hl 0 rfl) ?_
        refine zs_get C hK S 0 2 (Cn := RX7) (T := TX7) (N := 10) (ci := 7) rfl rfl (by decide) zn_X7_mirror_X7 (List.mem_of_getElem? (i := 1) rfl) rfl dX7_mirror_47 ?_
        refine zs_get C hK S 2 2 (Cn := RX1) (T := TX1) (N := 8) (ci := 1) rfl rfl (by decide) zn_X7_mirror_X1 (List.mem_of_getElem? (i := 2) rfl) rfl dX7_mirror_50 ?_
        obtain ⟨r14, f15, hF⟩ := zs_bdS hF
        refine zs_calliP S hA (zs_runS C hK hA S [.int (Prw12 0 2)] [] [] 1 (c_J6_bitCount_0f7a4 l G ((Prw12 0 2)) H.size r14 f15) gX7_mirror_J6_bitCount_0f7a4 rfl rfl rfl zd_J6_bitCount_0f7a4 ⟨Nat.le_of_ble_eq_true rfl, Nat.le_of_ble_eq_true rfl⟩ rfl rfl rfl hl rfl (Nat.le_of_ble_eq_true rfl) dX7_mirror_53 ⟨Nat.le_of_ble_eq_true rfl, Nat.le_of_ble_eq_true rfl⟩) (fun H locs S => ?_)
        obtain ⟨e16, e17⟩ := zs_s2 hF
        exact zs_iretE C S e16 (by rw [e17]) dX7_mirror_56
      · have hF := zs_t hF c11
        refine lv_bipush (v := (-2 : Int32)) hx hb dX7_mirror_32 (by decide) ?_
        obtain ⟨e18, e19⟩ := zs_s2 hF
        exact zs_iretE C S e18 (by rw [e19]) dX7_mirror_34
    · have hF := zs_t hF c8
      refine lv_iconst (v := (-1 : Int32)) hx hb dX7_mirror_15 (by decide) ?_
      obtain ⟨e20, e21⟩ := zs_s2 hF
      exact zs_iretE C S e20 (by rw [e21]) dX7_mirror_16

theorem zd_X1_changeBack : yX1_changeBack.cls = RX1 ∧ yX1_changeBack.cls ≠ "java/lang/invoke/MethodHandle" ∧ yX1_changeBack.cls ≠ "java/lang/invoke/VarHandle" ∧ (parseMethodDescriptor yX1_changeBack.desc).map (fun d => d.parameters.length) = some 0 := by decide +kernel
abbrev RMX7_undo : Room := { frames := 2, cells := 0, slots := 0, locals := 41 }
theorem zn_X7_undo_X1 : ∀ w ∈ wsX10, w ∈ wsX7_undo := zs_inl wsX10 [26, 27, 28, 29, 30, 31, 32, 33] (by decide +kernel)
theorem zn_X7_undo_X7 : ∀ w ∈ wsX70, w ∈ wsX7_undo := zs_inl wsX70 [16, 17, 18, 19, 20, 21, 22, 23, 24, 25] (by decide +kernel)
set_option maxRecDepth 100000 in
set_option maxHeartbeats 4000000 in
theorem c_X7_undo (l : Launch) (G : GG) (aXm aTx aRd aPr aSg aAh aIm0 aIm1 aYt aYr : Ad) (Xm : Ob) (tr : Int64) (Pr : Ob) (sz : Nat) (rr : Int32) (Pr_ : Ob) (hF : F_X7_undo Pr = some (rr, Pr_)) : Met l yX7_undo wsX7_undo RMX7_undo (va_Pc [.ref (aXm 0)] (zs_pre G (wX7 G aXm aTx aRd aPr aSg aAh aIm0 aIm1 aYt aYr Xm tr ++ wX1 G aPr Pr) sz)) (zs_Qi G (wX7 G aXm aTx aRd aPr aSg aAh aIm0 aIm1 aYt aYr Xm tr ++ wX1 G aPr Pr_) rr (va_A (wX7 G aXm aTx aRd aPr aSg aAh aIm0 aIm1 aYt aYr Xm tr ++ wX1 G aPr Pr) sz)) 0 0 (va_A (wX7 G aXm aTx aRd aPr aSg aAh aIm0 aIm1 aYt aYr Xm tr ++ wX1 G aPr Pr) sz) := by
  refine zs_met (cc := cX7_undo) (maxL := 1) (ret := (some .int)) (own := RX7) (Qc := zs_Qi G (wX7 G aXm aTx aRd aPr aSg aAh aIm0 aIm1 aYt aYr Xm tr ++ wX1 G aPr Pr_) rr) (by decide) rfl rfl (Nat.le_of_ble_eq_true rfl) ?_
  intro p e s m args below meth c C A hK hA S _ _ ls hl
  have hl : lv_has ls 1 [(0, .ref (aXm 0))] := hl
  have hx := C.1.1
  have hb := C.1.2.1
  unfold F_X7_undo at hF
  refine lv_aload_n hx hb dX7_undo_0 rfl (lv_at hl 0 rfl) ?_
  refine zs_get C hK S 0 2 (Cn := RX7) (T := TX7) (N := 10) (ci := 7) rfl rfl (by decide) zn_X7_undo_X7 (List.mem_of_getElem? (i := 1) rfl) rfl dX7_undo_1 ?_
  refine zs_get C hK S 2 4 (Cn := RX1) (T := TX1) (N := 8) (ci := 1) rfl rfl (by decide) zn_X7_undo_X1 (List.mem_of_getElem? (i := 2) rfl) rfl dX7_undo_4 ?_
  refine lv_if_gt (tgt := 13) hx hb dX7_undo_7 (by decide) (fun c1 => ?_) (fun c1 => ?_)
  · have hF := zs_t hF c1
    refine lv_aload_n hx hb dX7_undo_13 rfl (lv_at hl 0 rfl) ?_
    refine zs_get C hK S 0 2 (Cn := RX7) (T := TX7) (N := 10) (ci := 7) rfl rfl (by decide) zn_X7_undo_X7 (List.mem_of_getElem? (i := 1) rfl) rfl dX7_undo_14 ?_
    obtain ⟨Prw2, f3, hF⟩ := zs_bdS hF
    refine zs_callv (wr := wX7 G aXm aTx aRd aPr aSg aAh aIm0 aIm1 aYt aYr Xm tr) (ws' := wX7 G aXm aTx aRd aPr aSg aAh aIm0 aIm1 aYt aYr Xm tr ++ wX1 G aPr Prw2) S hA [2, 3, 4, 5] [0, 1] [0, 1, 2, 3, 4, 5] (zs_runV C hK hA S [] [] [2, 3, 4, 5] 2 0 (c_X1_changeBack l G aPr Pr s.heap.size Prw2 f3) gX7_undo_X1_changeBack rfl rfl rfl zd_X1_changeBack ⟨Nat.le_of_ble_eq_true rfl, Nat.le_of_ble_eq_true rfl⟩ rfl rfl rfl rfl rfl hl rfl (Nat.le_of_ble_eq_true rfl) dX7_undo_17 ⟨Nat.le_of_ble_eq_true rfl, Nat.le_of_ble_eq_true rfl⟩) rfl rfl rfl (by decide) rfl rfl (fun H locs S => ?_)
    refine lv_aload_n hx hb dX7_undo_20 rfl (lv_at hl 0 rfl) ?_
    refine zs_get C hK S 0 2 (Cn := RX7) (T := TX7) (N := 10) (ci := 7) rfl rfl (by decide) zn_X7_undo_X7 (List.mem_of_getElem? (i := 1) rfl) rfl dX7_undo_21 ?_
    refine zs_get C hK S 2 4 (Cn := RX1) (T := TX1) (N := 8) (ci := 1) rfl rfl (by decide) zn_X7_undo_X1 (List.mem_of_getElem? (i := 2) rfl) rfl dX7_undo_24 ?_
    obtain ⟨e4, e5⟩ := zs_s2 hF
    exact zs_iretE C S e4 (by rw [e5]) dX7_undo_27
  · have hF := zs_f hF c1
    refine lv_bipush (v := (-2 : Int32)) hx hb dX7_undo_10 (by decide) ?_
    obtain ⟨e6, e7⟩ := zs_s2 hF
    exact zs_iretE C S e6 (by rw [e7]) dX7_undo_12

theorem zd_X1_warmest : yX1_warmest.cls = RX1 ∧ yX1_warmest.cls ≠ "java/lang/invoke/MethodHandle" ∧ yX1_warmest.cls ≠ "java/lang/invoke/VarHandle" ∧ (parseMethodDescriptor yX1_warmest.desc).map (fun d => d.parameters.length) = some 1 := by decide +kernel
theorem zd_X1_warmthOfAll : yX1_warmthOfAll.cls = RX1 ∧ yX1_warmthOfAll.cls ≠ "java/lang/invoke/MethodHandle" ∧ yX1_warmthOfAll.cls ≠ "java/lang/invoke/VarHandle" ∧ (parseMethodDescriptor yX1_warmthOfAll.desc).map (fun d => d.parameters.length) = some 1 := by decide +kernel
abbrev RMX7_now : Room := { frames := 1, cells := 0, slots := 0, locals := 23 }
theorem zn_X7_now_X1 : ∀ w ∈ wsX10, w ∈ wsX7_now := zs_inl wsX10 [32, 33, 34, 35, 36, 37, 38, 39] (by decide +kernel)
theorem zn_X7_now_X6 : ∀ w ∈ wsX60, w ∈ wsX7_now := zs_inl wsX60 [40, 41, 42, 43, 44, 45, 46, 47, 48] (by decide +kernel)
theorem zn_X7_now_X7 : ∀ w ∈ wsX70, w ∈ wsX7_now := zs_inl wsX70 [22, 23, 24, 25, 26, 27, 28, 29, 30, 31] (by decide +kernel)
set_option maxRecDepth 100000 in
set_option maxHeartbeats 4000000 in
theorem c_X7_now (l : Launch) (G : GG) (aXm aTx aRd aPr aSg aAh aIm0 aIm1 aYt aYr : Ad) (Xm : Ob) (tr : Int64) (Pr : Ob) (Yt : Ob) (u1 : Int32) (sz : Nat) (rr : Int32) (hF : F_X7_now Pr Yt u1 = some rr) : Met l yX7_now wsX7_now RMX7_now (va_Pc [.ref (aXm 0), .int u1] (zs_pre G (wX7 G aXm aTx aRd aPr aSg aAh aIm0 aIm1 aYt aYr Xm tr ++ wX1 G aPr Pr ++ wX6 G aYt Yt) sz)) (zs_Qi G (wX7 G aXm aTx aRd aPr aSg aAh aIm0 aIm1 aYt aYr Xm tr ++ wX1 G aPr Pr ++ wX6 G aYt Yt) rr (va_A (wX7 G aXm aTx aRd aPr aSg aAh aIm0 aIm1 aYt aYr Xm tr ++ wX1 G aPr Pr ++ wX6 G aYt Yt) sz)) 0 0 (va_A (wX7 G aXm aTx aRd aPr aSg aAh aIm0 aIm1 aYt aYr Xm tr ++ wX1 G aPr Pr ++ wX6 G aYt Yt) sz) := by
  refine zs_met (cc := cX7_now) (maxL := 2) (ret := (some .int)) (own := RX7) (Qc := zs_Qi G (wX7 G aXm aTx aRd aPr aSg aAh aIm0 aIm1 aYt aYr Xm tr ++ wX1 G aPr Pr ++ wX6 G aYt Yt) rr) (by decide) rfl rfl (Nat.le_of_ble_eq_true rfl) ?_
  intro p e s m args below meth c C A hK hA S _ _ ls hl
  have hl : lv_has ls 2 [(0, .ref (aXm 0)), (1, .int u1)] := hl
  have hx := C.1.1
  have hb := C.1.2.1
  unfold F_X7_now at hF
  refine lv_iload_n hx hb dX7_now_0 rfl (lv_at hl 1 rfl) ?_
  by_cases c1 : u1 = (0 : Int32)
  · have hF := zs_t hF c1
    refine lv_tableIn (off := 35) (tgt := 36) hx hb dX7_now_1 (by rw [c1]; decide) (by rw [c1]; decide) (by rw [c1]; rfl) (by decide) ?_
    refine lv_aload_n hx hb dX7_now_36 rfl (lv_at hl 0 rfl) ?_
    refine zs_get C hK S 0 2 (Cn := RX7) (T := TX7) (N := 10) (ci := 7) rfl rfl (by decide) zn_X7_now_X7 (List.mem_of_getElem? (i := 1) rfl) rfl dX7_now_37 ?_
    refine zs_get C hK S 2 0 (Cn := RX1) (T := TX1) (N := 8) (ci := 1) rfl rfl (by decide) zn_X7_now_X1 (List.mem_of_getElem? (i := 2) rfl) rfl dX7_now_40 ?_
    have e2 := zs_s1 hF
    exact zs_iretE C S e2 rfl dX7_now_43
  · have hF := zs_f hF c1
    by_cases c3 : u1 = (1 : Int32)
    · have hF := zs_t hF c3
      refine lv_tableIn (off := 43) (tgt := 44) hx hb dX7_now_1 (by rw [c3]; decide) (by rw [c3]; decide) (by rw [c3]; rfl) (by decide) ?_
      refine lv_aload_n hx hb dX7_now_44 rfl (lv_at hl 0 rfl) ?_
      refine zs_get C hK S 0 2 (Cn := RX7) (T := TX7) (N := 10) (ci := 7) rfl rfl (by decide) zn_X7_now_X7 (List.mem_of_getElem? (i := 1) rfl) rfl dX7_now_45 ?_
      refine lv_aload_n hx hb dX7_now_48 rfl (lv_at hl 0 rfl) ?_
      refine zs_get C hK S 0 6 (Cn := RX7) (T := TX7) (N := 10) (ci := 7) rfl rfl (by decide) zn_X7_now_X7 (List.mem_of_getElem? (i := 3) rfl) rfl dX7_now_49 ?_
      refine zs_get C hK S 6 0 (Cn := RX6) (T := TX6) (N := 9) (ci := 6) rfl rfl (by decide) zn_X7_now_X6 (List.mem_of_getElem? (i := 4) rfl) rfl dX7_now_52 ?_
      obtain ⟨r4, f5, hF⟩ := zs_bdS hF
      refine zs_calli (wr := wX7 G aXm aTx aRd aPr aSg aAh aIm0 aIm1 aYt aYr Xm tr ++ wX6 G aYt Yt) (ws' := wX7 G aXm aTx aRd aPr aSg aAh aIm0 aIm1 aYt aYr Xm tr ++ wX1 G aPr Pr ++ wX6 G aYt Yt) S hA [2, 3, 4, 5] [0, 1, 6, 7, 8, 9, 10, 11, 12, 13] [0, 1, 10, 11, 12, 13, 2, 3, 4, 5, 6, 7, 8, 9] (zs_runV C hK hA S [.int (Yt 0 0)] [] [2, 3, 4, 5] 2 1 (c_X1_warmthOfAll l G aPr Pr ((Yt 0 0)) s.heap.size r4 f5) gX7_now_X1_warmthOfAll rfl rfl rfl zd_X1_warmthOfAll ⟨Nat.le_of_ble_eq_true rfl, Nat.le_of_ble_eq_true rfl⟩ rfl rfl rfl rfl rfl hl rfl (Nat.le_of_ble_eq_true rfl) dX7_now_55 ⟨Nat.le_of_ble_eq_true rfl, Nat.le_of_ble_eq_true rfl⟩) rfl rfl rfl (by decide) rfl rfl (fun H locs S => ?_)
      have e6 := zs_s1 hF
      exact zs_iretE C S e6 rfl dX7_now_58
    · have hF := zs_f hF c3
      by_cases c7 : u1 = (2 : Int32)
      · have hF := zs_t hF c7
        refine lv_tableIn (off := 58) (tgt := 59) hx hb dX7_now_1 (by rw [c7]; decide) (by rw [c7]; decide) (by rw [c7]; rfl) (by decide) ?_
        refine lv_aload_n hx hb dX7_now_59 rfl (lv_at hl 0 rfl) ?_
        refine zs_get C hK S 0 2 (Cn := RX7) (T := TX7) (N := 10) (ci := 7) rfl rfl (by decide) zn_X7_now_X7 (List.mem_of_getElem? (i := 1) rfl) rfl dX7_now_60 ?_
        refine zs_get C hK S 2 3 (Cn := RX1) (T := TX1) (N := 8) (ci := 1) rfl rfl (by decide) zn_X7_now_X1 (List.mem_of_getElem? (i := 5) rfl) rfl dX7_now_63 ?_
        have e8 := zs_s1 hF
        exact zs_iretE C S e8 rfl dX7_now_66
      · have hF := zs_f hF c7
        by_cases c9 : u1 = (3 : Int32)
        · have hF := zs_t hF c9
          refine lv_tableIn (off := 66) (tgt := 67) hx hb dX7_now_1 (by rw [c9]; decide) (by rw [c9]; decide) (by rw [c9]; rfl) (by decide) ?_
          refine lv_aload_n hx hb dX7_now_67 rfl (lv_at hl 0 rfl) ?_
          refine zs_get C hK S 0 2 (Cn := RX7) (T := TX7) (N := 10) (ci := 7) rfl rfl (by decide) zn_X7_now_X7 (List.mem_of_getElem? (i := 1) rfl) rfl dX7_now_68 ?_
          refine lv_aload_n hx hb dX7_now_71 rfl (lv_at hl 0 rfl) ?_
          refine zs_get C hK S 0 6 (Cn := RX7) (T := TX7) (N := 10) (ci := 7) rfl rfl (by decide) zn_X7_now_X7 (List.mem_of_getElem? (i := 3) rfl) rfl dX7_now_72 ?_
          obtain ⟨r10, f11, hF⟩ := zs_bdS hF
          refine zs_calli (wr := wX7 G aXm aTx aRd aPr aSg aAh aIm0 aIm1 aYt aYr Xm tr) (ws' := wX7 G aXm aTx aRd aPr aSg aAh aIm0 aIm1 aYt aYr Xm tr ++ wX1 G aPr Pr ++ wX6 G aYt Yt) S hA [2, 3, 4, 5, 6, 7, 8, 9, 10, 11, 12, 13] [0, 1] [0, 1, 2, 3, 4, 5, 6, 7, 8, 9, 10, 11, 12, 13] (zs_runV C hK hA S [.ref (aYt 0)] [] [2, 3, 4, 5, 6, 7, 8, 9, 10, 11, 12, 13] 2 1 (c_X1_tooWarm l G aPr aYt Pr Yt s.heap.size r10 f11) gX7_now_X1_tooWarm rfl rfl rfl zd_X1_tooWarm ⟨Nat.le_of_ble_eq_true rfl, Nat.le_of_ble_eq_true rfl⟩ rfl rfl rfl rfl rfl hl rfl (Nat.le_of_ble_eq_true rfl) dX7_now_75 ⟨Nat.le_of_ble_eq_true rfl, Nat.le_of_ble_eq_true rfl⟩) rfl rfl rfl (by decide) rfl rfl (fun H locs S => ?_)
          have e12 := zs_s1 hF
          exact zs_iretE C S e12 rfl dX7_now_78
        · have hF := zs_f hF c9
          by_cases c13 : u1 = (4 : Int32)
          · have hF := zs_t hF c13
            refine lv_tableIn (off := 78) (tgt := 79) hx hb dX7_now_1 (by rw [c13]; decide) (by rw [c13]; decide) (by rw [c13]; rfl) (by decide) ?_
            refine lv_aload_n hx hb dX7_now_79 rfl (lv_at hl 0 rfl) ?_
            refine zs_get C hK S 0 2 (Cn := RX7) (T := TX7) (N := 10) (ci := 7) rfl rfl (by decide) zn_X7_now_X7 (List.mem_of_getElem? (i := 1) rfl) rfl dX7_now_80 ?_
            refine lv_aload_n hx hb dX7_now_83 rfl (lv_at hl 0 rfl) ?_
            refine zs_get C hK S 0 6 (Cn := RX7) (T := TX7) (N := 10) (ci := 7) rfl rfl (by decide) zn_X7_now_X7 (List.mem_of_getElem? (i := 3) rfl) rfl dX7_now_84 ?_
            refine zs_get C hK S 6 0 (Cn := RX6) (T := TX6) (N := 9) (ci := 6) rfl rfl (by decide) zn_X7_now_X6 (List.mem_of_getElem? (i := 4) rfl) rfl dX7_now_87 ?_
            obtain ⟨r14, f15, hF⟩ := zs_bdS hF
            refine zs_calli (wr := wX7 G aXm aTx aRd aPr aSg aAh aIm0 aIm1 aYt aYr Xm tr ++ wX6 G aYt Yt) (ws' := wX7 G aXm aTx aRd aPr aSg aAh aIm0 aIm1 aYt aYr Xm tr ++ wX1 G aPr Pr ++ wX6 G aYt Yt) S hA [2, 3, 4, 5] [0, 1, 6, 7, 8, 9, 10, 11, 12, 13] [0, 1, 10, 11, 12, 13, 2, 3, 4, 5, 6, 7, 8, 9] (zs_runV C hK hA S [.int (Yt 0 0)] [] [2, 3, 4, 5] 2 1 (c_X1_warmest l G aPr Pr ((Yt 0 0)) s.heap.size r14 f15) gX7_now_X1_warmest rfl rfl rfl zd_X1_warmest ⟨Nat.le_of_ble_eq_true rfl, Nat.le_of_ble_eq_true rfl⟩ rfl rfl rfl rfl rfl hl rfl (Nat.le_of_ble_eq_true rfl) dX7_now_90 ⟨Nat.le_of_ble_eq_true rfl, Nat.le_of_ble_eq_true rfl⟩) rfl rfl rfl (by decide) rfl rfl (fun H locs S => ?_)
            have e16 := zs_s1 hF
            exact zs_iretE C S e16 rfl dX7_now_93
          · have hF := zs_f hF c13
            refine lv_tableOut (tgt := 94) hx hb dX7_now_1 (zs_sw5 c1 c3 c7 c9 c13) (by decide) ?_
            refine lv_iconst (v := (-1 : Int32)) hx hb dX7_now_94 (by decide) ?_
            have e17 := zs_s1 hF
            exact zs_iretE C S e17 rfl dX7_now_95

theorem zd_X7_isWithin : yX7_isWithin.cls ≠ "java/lang/invoke/MethodHandle" ∧ yX7_isWithin.cls ≠ "java/lang/invoke/VarHandle" ∧ (parseMethodDescriptor yX7_isWithin.desc).map (fun d => d.parameters.length) = some 2 := by decide +kernel
abbrev RMX7_behind : Room := { frames := 4, cells := 0, slots := 0, locals := 94 }
theorem zn_X7_behind_X0 : ∀ w ∈ wsX00, w ∈ wsX7_behind := zs_inl wsX00 [62, 63, 64] (by decide +kernel)
theorem zn_X7_behind_X1 : ∀ w ∈ wsX10, w ∈ wsX7_behind := zs_inl wsX10 [65, 66, 67, 68, 69, 70, 71, 72] (by decide +kernel)
theorem zn_X7_behind_X7 : ∀ w ∈ wsX70, w ∈ wsX7_behind := zs_inl wsX70 [52, 53, 54, 55, 56, 57, 58, 59, 60, 61] (by decide +kernel)
set_option maxRecDepth 100000 in
set_option maxHeartbeats 4000000 in
theorem c_X7_behind (l : Launch) (G : GG) (aXm aTx aRd aPr aSg aAh aIm0 aIm1 aYt aYr aTn aYi : Ad) (Xm : Ob) (tr : Int64) (Pr : Ob) (Yt : Ob) (Ah : Ob) (Tn : Ob) (u1 : Int32) (u2 : Int32) (sz : Nat) (rr : Int32) (Tn_ : Ob) (hF : F_X7_behind Pr Yt Ah Tn u1 u2 = some (rr, Tn_)) : Met l yX7_behind wsX7_behind RMX7_behind (va_Pc [.ref (aXm 0), .int u1, .int u2] (zs_pre G (wX7 G aXm aTx aRd aPr aSg aAh aIm0 aIm1 aYt aYr Xm tr ++ wX1 G aPr Pr ++ wX6 G aYt Yt ++ wX0 G aAh aTn aYi Ah ++ wX1 G aTn Tn) sz)) (zs_Qi G (wX7 G aXm aTx aRd aPr aSg aAh aIm0 aIm1 aYt aYr Xm tr ++ wX1 G aPr Pr ++ wX6 G aYt Yt ++ wX0 G aAh aTn aYi Ah ++ wX1 G aTn Tn_) rr (va_A (wX7 G aXm aTx aRd aPr aSg aAh aIm0 aIm1 aYt aYr Xm tr ++ wX1 G aPr Pr ++ wX6 G aYt Yt ++ wX0 G aAh aTn aYi Ah ++ wX1 G aTn Tn) sz)) 0 0 (va_A (wX7 G aXm aTx aRd aPr aSg aAh aIm0 aIm1 aYt aYr Xm tr ++ wX1 G aPr Pr ++ wX6 G aYt Yt ++ wX0 G aAh aTn aYi Ah ++ wX1 G aTn Tn) sz) := by
  refine zs_met (cc := cX7_behind) (maxL := 3) (ret := (some .int)) (own := RX7) (Qc := zs_Qi G (wX7 G aXm aTx aRd aPr aSg aAh aIm0 aIm1 aYt aYr Xm tr ++ wX1 G aPr Pr ++ wX6 G aYt Yt ++ wX0 G aAh aTn aYi Ah ++ wX1 G aTn Tn_) rr) (by decide) rfl rfl (Nat.le_of_ble_eq_true rfl) ?_
  intro p e s m args below meth c C A hK hA S _ _ ls hl
  have hl : lv_has ls 3 [(0, .ref (aXm 0)), (1, .int u1), (2, .int u2)] := hl
  have hx := C.1.1
  have hb := C.1.2.1
  unfold F_X7_behind at hF
  refine lv_iload_n hx hb dX7_behind_0 rfl (lv_at hl 1 rfl) ?_
  refine lv_bipush (v := (50 : Int32)) hx hb dX7_behind_1 (by decide) ?_
  obtain ⟨r1, f2, hF⟩ := zs_bdS hF
  refine zs_calliP S hA (zs_runS C hK hA S [.int u1, .int (50 : Int32)] [] [] 2 (c_X7_isWithin l G u1 ((50 : Int32)) s.heap.size r1 f2) gX7_behind_X7_isWithin rfl rfl rfl zd_X7_isWithin ⟨Nat.le_of_ble_eq_true rfl, Nat.le_of_ble_eq_true rfl⟩ rfl rfl rfl hl rfl (Nat.le_of_ble_eq_true rfl) dX7_behind_3 ⟨Nat.le_of_ble_eq_true rfl, Nat.le_of_ble_eq_true rfl⟩) (fun H locs S => ?_)
  refine lv_if_eq (tgt := 17) hx hb dX7_behind_6 (by decide) (fun c3 => ?_) (fun c3 => ?_)
  · have hF := zs_t hF c3
    refine lv_iconst (v := (-1 : Int32)) hx hb dX7_behind_17 (by decide) ?_
    obtain ⟨e4, e5⟩ := zs_s2 hF
    exact zs_iretE C S e4 (by rw [e5]) dX7_behind_18
  · have hF := zs_f hF c3
    refine lv_aload_n hx hb dX7_behind_9 rfl (lv_at hl 0 rfl) ?_
    refine lv_iload_n hx hb dX7_behind_10 rfl (lv_at hl 2 rfl) ?_
    obtain ⟨r6, f7, hF⟩ := zs_bdS hF
    refine zs_calli (wr := wX1 G aPr Pr ++ wX0 G aAh aTn aYi Ah ++ wX1 G aTn Tn) (ws' := wX7 G aXm aTx aRd aPr aSg aAh aIm0 aIm1 aYt aYr Xm tr ++ wX1 G aPr Pr ++ wX6 G aYt Yt ++ wX0 G aAh aTn aYi Ah ++ wX1 G aTn Tn) S hA [0, 1, 6, 7, 8, 9, 10, 11, 12, 13] [2, 3, 4, 5, 14, 15, 16, 17, 18, 19] [10, 11, 0, 1, 2, 3, 12, 13, 14, 15, 16, 17, 18, 19, 4, 5, 6, 7, 8, 9] (zs_runV C hK hA S [.int u2] [] [0, 1, 6, 7, 8, 9, 10, 11, 12, 13] 0 1 (c_X7_isWall l G aXm aTx aRd aPr aSg aAh aIm0 aIm1 aYt aYr Xm tr Yt u2 H.size r6 f7) gX7_behind_X7_isWall rfl rfl rfl zd_X7_isWall ⟨Nat.le_of_ble_eq_true rfl, Nat.le_of_ble_eq_true rfl⟩ rfl rfl rfl rfl rfl hl rfl (Nat.le_of_ble_eq_true rfl) dX7_behind_11 ⟨Nat.le_of_ble_eq_true rfl, Nat.le_of_ble_eq_true rfl⟩) rfl rfl rfl (by decide) rfl rfl (fun H locs S => ?_)
    refine lv_if_ne (tgt := 19) hx hb dX7_behind_14 (by decide) (fun c8 => ?_) (fun c8 => ?_)
    · have hF := zs_f hF c8
      refine lv_aload_n hx hb dX7_behind_19 rfl (lv_at hl 0 rfl) ?_
      refine zs_get C hK S 0 4 (Cn := RX7) (T := TX7) (N := 10) (ci := 7) rfl rfl (by decide) zn_X7_behind_X7 (List.mem_of_getElem? (i := 1) rfl) rfl dX7_behind_20 ?_
      refine lv_aload_n hx hb dX7_behind_23 rfl (lv_at hl 0 rfl) ?_
      refine zs_get C hK S 0 2 (Cn := RX7) (T := TX7) (N := 10) (ci := 7) rfl rfl (by decide) zn_X7_behind_X7 (List.mem_of_getElem? (i := 2) rfl) rfl dX7_behind_24 ?_
      obtain ⟨Tnw9, f10, hF⟩ := zs_bdS hF
      refine zs_callv (wr := wX7 G aXm aTx aRd aPr aSg aAh aIm0 aIm1 aYt aYr Xm tr ++ wX6 G aYt Yt) (ws' := wX7 G aXm aTx aRd aPr aSg aAh aIm0 aIm1 aYt aYr Xm tr ++ wX1 G aPr Pr ++ wX6 G aYt Yt ++ wX0 G aAh aTn aYi Ah ++ wX1 G aTn Tnw9) S hA [14, 15, 16, 17, 18, 19, 2, 3, 4, 5] [0, 1, 6, 7, 8, 9, 10, 11, 12, 13] [0, 1, 16, 17, 18, 19, 2, 3, 4, 5, 6, 7, 8, 9, 10, 11, 12, 13, 14, 15] (zs_runV C hK hA S [.ref (aPr 0)] [] [14, 15, 16, 17, 18, 19, 2, 3, 4, 5] 14 1 (c_X0_setOut l G aAh aTn aYi aPr Ah Tn Pr H.size Tnw9 f10) gX7_behind_X0_setOut rfl rfl rfl zd_X0_setOut ⟨Nat.le_of_ble_eq_true rfl, Nat.le_of_ble_eq_true rfl⟩ rfl rfl rfl rfl rfl hl rfl (Nat.le_of_ble_eq_true rfl) dX7_behind_27 ⟨Nat.le_of_ble_eq_true rfl, Nat.le_of_ble_eq_true rfl⟩) rfl rfl rfl (by decide) rfl rfl (fun H locs S => ?_)
      refine lv_aload_n hx hb dX7_behind_30 rfl (lv_at hl 0 rfl) ?_
      refine zs_get C hK S 0 4 (Cn := RX7) (T := TX7) (N := 10) (ci := 7) rfl rfl (by decide) zn_X7_behind_X7 (List.mem_of_getElem? (i := 1) rfl) rfl dX7_behind_31 ?_
      refine lv_aload_n hx hb dX7_behind_34 rfl (lv_at hl 0 rfl) ?_
      refine zs_get C hK S 0 6 (Cn := RX7) (T := TX7) (N := 10) (ci := 7) rfl rfl (by decide) zn_X7_behind_X7 (List.mem_of_getElem? (i := 3) rfl) rfl dX7_behind_35 ?_
      refine lv_iload_n hx hb dX7_behind_38 rfl (lv_at hl 1 rfl) ?_
      obtain ⟨Tnw11, f12, hF⟩ := zs_bdS hF
      refine zs_callv (wr := wX7 G aXm aTx aRd aPr aSg aAh aIm0 aIm1 aYt aYr Xm tr ++ wX1 G aPr Pr) (ws' := wX7 G aXm aTx aRd aPr aSg aAh aIm0 aIm1 aYt aYr Xm tr ++ wX1 G aPr Pr ++ wX6 G aYt Yt ++ wX0 G aAh aTn aYi Ah ++ wX1 G aTn Tnw11) S hA [14, 15, 16, 17, 18, 19, 6, 7, 8, 9, 10, 11, 12, 13] [0, 1, 2, 3, 4, 5] [0, 1, 2, 3, 4, 5, 12, 13, 14, 15, 16, 17, 18, 19, 6, 7, 8, 9, 10, 11] (zs_runV C hK hA S [.ref (aYt 0), .int u1] [] [14, 15, 16, 17, 18, 19, 6, 7, 8, 9, 10, 11, 12, 13] 14 2 (c_X0_goOn l G aAh aTn aYi aYt Ah Tnw9 Yt u1 H.size Tnw11 f12) gX7_behind_X0_goOn rfl rfl rfl zd_X0_goOn ⟨Nat.le_of_ble_eq_true rfl, Nat.le_of_ble_eq_true rfl⟩ rfl rfl rfl rfl rfl hl rfl (Nat.le_of_ble_eq_true rfl) dX7_behind_39 ⟨Nat.le_of_ble_eq_true rfl, Nat.le_of_ble_eq_true rfl⟩) rfl rfl rfl (by decide) rfl rfl (fun H locs S => ?_)
      refine lv_aload_n hx hb dX7_behind_42 rfl (lv_at hl 0 rfl) ?_
      refine zs_get C hK S 0 4 (Cn := RX7) (T := TX7) (N := 10) (ci := 7) rfl rfl (by decide) zn_X7_behind_X7 (List.mem_of_getElem? (i := 1) rfl) rfl dX7_behind_43 ?_
      refine zs_get C hK S 14 0 (Cn := RX0) (T := TX0) (N := 3) (ci := 0) rfl rfl (by decide) zn_X7_behind_X0 (List.mem_of_getElem? (i := 4) rfl) rfl dX7_behind_46 ?_
      refine zs_get C hK S 16 5 (Cn := RX1) (T := TX1) (N := 8) (ci := 1) rfl rfl (by decide) zn_X7_behind_X1 (List.mem_of_getElem? (i := 5) rfl) rfl dX7_behind_49 ?_
      refine lv_iload_n hx hb dX7_behind_52 rfl (lv_at hl 2 rfl) ?_
      obtain ⟨h13, hF⟩ := zs_ckS hF
      refine zs_iald C hK S 17 rfl h13 dX7_behind_53 ?_
      obtain ⟨e14, e15⟩ := zs_s2 hF
      exact zs_iretE C S e14 (by rw [e15]) dX7_behind_54
    · have hF := zs_t hF c8
      refine lv_iconst (v := (-1 : Int32)) hx hb dX7_behind_17 (by decide) ?_
      obtain ⟨e16, e17⟩ := zs_s2 hF
      exact zs_iretE C S e16 (by rw [e17]) dX7_behind_18

theorem zd_X7_leastOf : yX7_leastOf.cls ≠ "java/lang/invoke/MethodHandle" ∧ yX7_leastOf.cls ≠ "java/lang/invoke/VarHandle" ∧ (parseMethodDescriptor yX7_leastOf.desc).map (fun d => d.parameters.length) = some 1 := by decide +kernel
abbrev RMX7_first : Room := { frames := 4, cells := 0, slots := 0, locals := 94 }
theorem zn_X7_first_X0 : ∀ w ∈ wsX00, w ∈ wsX7_first := zs_inl wsX00 [65, 66, 67] (by decide +kernel)
theorem zn_X7_first_X7 : ∀ w ∈ wsX70, w ∈ wsX7_first := zs_inl wsX70 [55, 56, 57, 58, 59, 60, 61, 62, 63, 64] (by decide +kernel)
set_option maxRecDepth 100000 in
set_option maxHeartbeats 4000000 in
theorem c_X7_first (l : Launch) (G : GG) (aXm aTx aRd aPr aSg aAh aIm0 aIm1 aYt aYr aTn aYi : Ad) (Xm : Ob) (tr : Int64) (Pr : Ob) (Yt : Ob) (Ah : Ob) (Tn : Ob) (u1 : Int32) (sz : Nat) (rr : Int32) (Tn_ : Ob) (hF : F_X7_first Pr Yt Ah Tn u1 = some (rr, Tn_)) : Met l yX7_first wsX7_first RMX7_first (va_Pc [.ref (aXm 0), .int u1] (zs_pre G (wX7 G aXm aTx aRd aPr aSg aAh aIm0 aIm1 aYt aYr Xm tr ++ wX1 G aPr Pr ++ wX6 G aYt Yt ++ wX0 G aAh aTn aYi Ah ++ wX1 G aTn Tn) sz)) (zs_Qi G (wX7 G aXm aTx aRd aPr aSg aAh aIm0 aIm1 aYt aYr Xm tr ++ wX1 G aPr Pr ++ wX6 G aYt Yt ++ wX0 G aAh aTn aYi Ah ++ wX1 G aTn Tn_) rr (va_A (wX7 G aXm aTx aRd aPr aSg aAh aIm0 aIm1 aYt aYr Xm tr ++ wX1 G aPr Pr ++ wX6 G aYt Yt ++ wX0 G aAh aTn aYi Ah ++ wX1 G aTn Tn) sz)) 0 0 (va_A (wX7 G aXm aTx aRd aPr aSg aAh aIm0 aIm1 aYt aYr Xm tr ++ wX1 G aPr Pr ++ wX6 G aYt Yt ++ wX0 G aAh aTn aYi Ah ++ wX1 G aTn Tn) sz) := by
  refine zs_met (cc := cX7_first) (maxL := 4) (ret := (some .int)) (own := RX7) (Qc := zs_Qi G (wX7 G aXm aTx aRd aPr aSg aAh aIm0 aIm1 aYt aYr Xm tr ++ wX1 G aPr Pr ++ wX6 G aYt Yt ++ wX0 G aAh aTn aYi Ah ++ wX1 G aTn Tn_) rr) (by decide) rfl rfl (Nat.le_of_ble_eq_true rfl) ?_
  intro p e s m args below meth c C A hK hA S _ _ ls hl
  have hl : lv_has ls 4 [(0, .ref (aXm 0)), (1, .int u1)] := hl
  have hx := C.1.1
  have hb := C.1.2.1
  unfold F_X7_first at hF
  have j47 : ∀ (Tn : Ob) (x1 : Int32) (x2 : Int32) (x3 : Int32) (H : Heap) (locs : List Loc) (ls : Array Slot), zs_S G A s.heap H locs (wX7 G aXm aTx aRd aPr aSg aAh aIm0 aIm1 aYt aYr Xm tr ++ wX1 G aPr Pr ++ wX6 G aYt Yt ++ wX0 G aAh aTn aYi Ah ++ wX1 G aTn Tn) → lv_has ls 4 [(1, .int x1), (2, .int x2), (3, .int x3)] → F_X7_first_47 Pr Yt Ah Tn x1 x2 x3 = some (rr, Tn_) → W p l e RMX7_first s m args below meth c H locs 0 0 (MQ below (zs_Qi G (wX7 G aXm aTx aRd aPr aSg aAh aIm0 aIm1 aYt aYr Xm tr ++ wX1 G aPr Pr ++ wX6 G aYt Yt ++ wX0 G aAh aTn aYi Ah ++ wX1 G aTn Tn_) rr A) args s 0 0 A) (F0 m 47 ls []) := by
    intro Tn x1 x2 x3 H locs ls S hl hF
    unfold F_X7_first_47 at hF
    refine lv_iload_n hx hb dX7_first_47 rfl (lv_at hl 0 rfl) ?_
    refine lv_if_ne (tgt := 55) hx hb dX7_first_48 (by decide) (fun c1 => ?_) (fun c1 => ?_)
    · have hF := zs_f hF c1
      refine lv_iload_n hx hb dX7_first_55 rfl (lv_at hl 2 rfl) ?_
      obtain ⟨r2, f3, hF⟩ := zs_bdS hF
      refine zs_calliP S hA (zs_runS C hK hA S [.int x3] [] [] 1 (c_X7_leastOf l G x3 H.size r2 f3) gX7_first_X7_leastOf rfl rfl rfl zd_X7_leastOf ⟨Nat.le_of_ble_eq_true rfl, Nat.le_of_ble_eq_true rfl⟩ rfl rfl rfl hl rfl (Nat.le_of_ble_eq_true rfl) dX7_first_56 ⟨Nat.le_of_ble_eq_true rfl, Nat.le_of_ble_eq_true rfl⟩) (fun H locs S => ?_)
      obtain ⟨e4, e5⟩ := zs_s2 hF
      exact zs_iretE C S e4 (by rw [e5]) dX7_first_59
    · have hF := zs_t hF c1
      refine lv_iload_n hx hb dX7_first_51 rfl (lv_at hl 1 rfl) ?_
      refine lv_goto (tgt := 59) hx hb dX7_first_52 (by decide) ?_
      obtain ⟨e6, e7⟩ := zs_s2 hF
      exact zs_iretE C S e6 (by rw [e7]) dX7_first_59
  have j22 : ∀ (n22 : Nat) (Tn : Ob) (x1 : Int32) (x2 : Int32) (H : Heap) (locs : List Loc) (ls : Array Slot), zs_S G A s.heap H locs (wX7 G aXm aTx aRd aPr aSg aAh aIm0 aIm1 aYt aYr Xm tr ++ wX1 G aPr Pr ++ wX6 G aYt Yt ++ wX0 G aAh aTn aYi Ah ++ wX1 G aTn Tn) → lv_has ls 4 [(0, .ref (aXm 0)), (1, .int x1), (2, .int x2)] → F_X7_first_22 Pr Yt Ah n22 Tn x1 x2 = some (rr, Tn_) → W p l e RMX7_first s m args below meth c H locs 0 0 (MQ below (zs_Qi G (wX7 G aXm aTx aRd aPr aSg aAh aIm0 aIm1 aYt aYr Xm tr ++ wX1 G aPr Pr ++ wX6 G aYt Yt ++ wX0 G aAh aTn aYi Ah ++ wX1 G aTn Tn_) rr A) args s 0 0 A) (F0 m 22 ls []) := by
    intro n22
    induction n22 with
    | zero => intro Tn x1 x2 H locs ls _ _ hF; rw [F_X7_first_22_z] at hF; cases hF
    | succ n22 ih22 =>
      intro Tn x1 x2 H locs ls S hl hF
      rw [F_X7_first_22_n] at hF
      unfold F_X7_first_22_s at hF
      refine lv_iload_n hx hb dX7_first_22 rfl (lv_at hl 2 rfl) ?_
      refine lv_bipush (v := (50 : Int32)) hx hb dX7_first_23 (by decide) ?_
      refine lv_icmp_gt (tgt := 78) hx hb dX7_first_25 (by decide) (fun c8 => ?_) (fun c8 => ?_)
      · have hF := zs_t hF c8
        refine lv_bipush (v := (-9 : Int32)) hx hb dX7_first_78 (by decide) ?_
        obtain ⟨e9, e10⟩ := zs_s2 hF
        exact zs_iretE C S e9 (by rw [e10]) dX7_first_80
      · have hF := zs_f hF c8
        refine lv_aload_n hx hb dX7_first_28 rfl (lv_at hl 0 rfl) ?_
        refine zs_get C hK S 0 4 (Cn := RX7) (T := TX7) (N := 10) (ci := 7) rfl rfl (by decide) zn_X7_first_X7 (List.mem_of_getElem? (i := 1) rfl) rfl dX7_first_29 ?_
        refine zs_get C hK S 14 0 (Cn := RX0) (T := TX0) (N := 3) (ci := 0) rfl rfl (by decide) zn_X7_first_X0 (List.mem_of_getElem? (i := 3) rfl) rfl dX7_first_32 ?_
        refine lv_aload_n hx hb dX7_first_35 rfl (lv_at hl 0 rfl) ?_
        refine zs_get C hK S 0 6 (Cn := RX7) (T := TX7) (N := 10) (ci := 7) rfl rfl (by decide) zn_X7_first_X7 (List.mem_of_getElem? (i := 4) rfl) rfl dX7_first_36 ?_
        obtain ⟨r11, f12, hF⟩ := zs_bdS hF
        refine zs_calli (wr := wX7 G aXm aTx aRd aPr aSg aAh aIm0 aIm1 aYt aYr Xm tr ++ wX1 G aPr Pr ++ wX0 G aAh aTn aYi Ah) (ws' := wX7 G aXm aTx aRd aPr aSg aAh aIm0 aIm1 aYt aYr Xm tr ++ wX1 G aPr Pr ++ wX6 G aYt Yt ++ wX0 G aAh aTn aYi Ah ++ wX1 G aTn Tn) S hA [16, 17, 18, 19, 6, 7, 8, 9, 10, 11, 12, 13] [0, 1, 2, 3, 4, 5, 14, 15] [0, 1, 2, 3, 4, 5, 12, 13, 14, 15, 16, 17, 18, 19, 6, 7, 8, 9, 10, 11] (zs_runV C hK hA S [.ref (aYt 0)] [] [16, 17, 18, 19, 6, 7, 8, 9, 10, 11, 12, 13] 16 1 (c_X1_tooWarm l G aTn aYt Tn Yt H.size r11 f12) gX7_first_X1_tooWarm rfl rfl rfl zd_X1_tooWarm ⟨Nat.le_of_ble_eq_true rfl, Nat.le_of_ble_eq_true rfl⟩ rfl rfl rfl rfl rfl hl rfl (Nat.le_of_ble_eq_true rfl) dX7_first_39 ⟨Nat.le_of_ble_eq_true rfl, Nat.le_of_ble_eq_true rfl⟩) rfl rfl rfl (by decide) rfl rfl (fun H locs S => ?_)
        refine lv_istore_n (lv' := [(3, .int r11), (0, .ref (aXm 0)), (1, .int x1), (2, .int x2)]) hx hb dX7_first_42 rfl hl (by decide) rfl (fun ls hl => ?_)
        refine lv_iload_n hx hb dX7_first_43 rfl (lv_at hl 0 rfl) ?_
        refine lv_if_eq (tgt := 60) hx hb dX7_first_44 (by decide) (fun c13 => ?_) (fun c13 => ?_)
        · have hF := zs_t hF c13
          refine lv_aload_n hx hb dX7_first_60 rfl (lv_at hl 1 rfl) ?_
          refine zs_get C hK S 0 4 (Cn := RX7) (T := TX7) (N := 10) (ci := 7) rfl rfl (by decide) zn_X7_first_X7 (List.mem_of_getElem? (i := 1) rfl) rfl dX7_first_61 ?_
          refine lv_aload_n hx hb dX7_first_64 rfl (lv_at hl 1 rfl) ?_
          refine zs_get C hK S 0 6 (Cn := RX7) (T := TX7) (N := 10) (ci := 7) rfl rfl (by decide) zn_X7_first_X7 (List.mem_of_getElem? (i := 4) rfl) rfl dX7_first_65 ?_
          refine lv_iconst (v := (1 : Int32)) hx hb dX7_first_68 (by decide) ?_
          obtain ⟨Tnw14, f15, hF⟩ := zs_bdS hF
          refine zs_callv (wr := wX7 G aXm aTx aRd aPr aSg aAh aIm0 aIm1 aYt aYr Xm tr ++ wX1 G aPr Pr) (ws' := wX7 G aXm aTx aRd aPr aSg aAh aIm0 aIm1 aYt aYr Xm tr ++ wX1 G aPr Pr ++ wX6 G aYt Yt ++ wX0 G aAh aTn aYi Ah ++ wX1 G aTn Tnw14) S hA [14, 15, 16, 17, 18, 19, 6, 7, 8, 9, 10, 11, 12, 13] [0, 1, 2, 3, 4, 5] [0, 1, 2, 3, 4, 5, 12, 13, 14, 15, 16, 17, 18, 19, 6, 7, 8, 9, 10, 11] (zs_runV C hK hA S [.ref (aYt 0), .int (1 : Int32)] [] [14, 15, 16, 17, 18, 19, 6, 7, 8, 9, 10, 11, 12, 13] 14 2 (c_X0_goOn l G aAh aTn aYi aYt Ah Tn Yt ((1 : Int32)) H.size Tnw14 f15) gX7_first_X0_goOn rfl rfl rfl zd_X0_goOn ⟨Nat.le_of_ble_eq_true rfl, Nat.le_of_ble_eq_true rfl⟩ rfl rfl rfl rfl rfl hl rfl (Nat.le_of_ble_eq_true rfl) dX7_first_69 ⟨Nat.le_of_ble_eq_true rfl, Nat.le_of_ble_eq_true rfl⟩) rfl rfl rfl (by decide) rfl rfl (fun H locs S => ?_)
          obtain ⟨z16, e17⟩ : ∃ q : Int32, q = x2 + (1 : Int32) := ⟨_, rfl⟩
          have hF := zs_letS hF e17
          refine lv_iinc (v := z16) (lv' := [(2, .int z16), (3, .int r11), (0, .ref (aXm 0)), (1, .int x1)]) hx hb dX7_first_72 hl (k := 3) rfl (by rw [e17]; rfl) (by decide) rfl (fun ls hl => ?_)
          refine lv_goto (tgt := 22) hx hb dX7_first_75 (by decide) ?_
          exact ih22 Tnw14 x1 z16 _ _ _ S (lv_sub hl [2, 3, 0] rfl) hF
        · have hF := zs_f hF c13
          exact j47 Tn x1 x2 r11 _ _ _ S (lv_sub hl [2, 3, 0] rfl) hF
  refine lv_iload_n hx hb dX7_first_0 rfl (lv_at hl 1 rfl) ?_
  obtain ⟨r18, f19, hF⟩ := zs_bdS hF
  refine zs_calliP S hA (zs_runS C hK hA S [.int u1] [] [] 1 (c_X7_isBit l G u1 s.heap.size r18 f19) gX7_first_X7_isBit rfl rfl rfl zd_X7_isBit ⟨Nat.le_of_ble_eq_true rfl, Nat.le_of_ble_eq_true rfl⟩ rfl rfl rfl hl rfl (Nat.le_of_ble_eq_true rfl) dX7_first_1 ⟨Nat.le_of_ble_eq_true rfl, Nat.le_of_ble_eq_true rfl⟩) (fun H locs S => ?_)
  refine lv_if_ne (tgt := 9) hx hb dX7_first_4 (by decide) (fun c20 => ?_) (fun c20 => ?_)
  · have hF := zs_f hF c20
    refine lv_aload_n hx hb dX7_first_9 rfl (lv_at hl 0 rfl) ?_
    refine zs_get C hK S 0 4 (Cn := RX7) (T := TX7) (N := 10) (ci := 7) rfl rfl (by decide) zn_X7_first_X7 (List.mem_of_getElem? (i := 1) rfl) rfl dX7_first_10 ?_
    refine lv_aload_n hx hb dX7_first_13 rfl (lv_at hl 0 rfl) ?_
    refine zs_get C hK S 0 2 (Cn := RX7) (T := TX7) (N := 10) (ci := 7) rfl rfl (by decide) zn_X7_first_X7 (List.mem_of_getElem? (i := 2) rfl) rfl dX7_first_14 ?_
    obtain ⟨Tnw21, f22, hF⟩ := zs_bdS hF
    refine zs_callv (wr := wX7 G aXm aTx aRd aPr aSg aAh aIm0 aIm1 aYt aYr Xm tr ++ wX6 G aYt Yt) (ws' := wX7 G aXm aTx aRd aPr aSg aAh aIm0 aIm1 aYt aYr Xm tr ++ wX1 G aPr Pr ++ wX6 G aYt Yt ++ wX0 G aAh aTn aYi Ah ++ wX1 G aTn Tnw21) S hA [14, 15, 16, 17, 18, 19, 2, 3, 4, 5] [0, 1, 6, 7, 8, 9, 10, 11, 12, 13] [0, 1, 16, 17, 18, 19, 2, 3, 4, 5, 6, 7, 8, 9, 10, 11, 12, 13, 14, 15] (zs_runV C hK hA S [.ref (aPr 0)] [] [14, 15, 16, 17, 18, 19, 2, 3, 4, 5] 14 1 (c_X0_setOut l G aAh aTn aYi aPr Ah Tn Pr H.size Tnw21 f22) gX7_first_X0_setOut rfl rfl rfl zd_X0_setOut ⟨Nat.le_of_ble_eq_true rfl, Nat.le_of_ble_eq_true rfl⟩ rfl rfl rfl rfl rfl hl rfl (Nat.le_of_ble_eq_true rfl) dX7_first_17 ⟨Nat.le_of_ble_eq_true rfl, Nat.le_of_ble_eq_true rfl⟩) rfl rfl rfl (by decide) rfl rfl (fun H locs S => ?_)
    refine lv_iconst (v := (0 : Int32)) hx hb dX7_first_20 (by decide) ?_
    refine lv_istore_n (lv' := [(2, .int (0 : Int32)), (0, .ref (aXm 0)), (1, .int u1)]) hx hb dX7_first_21 rfl hl (by decide) rfl (fun ls hl => ?_)
    exact j22 1000 Tnw21 u1 (0 : Int32) _ _ _ S (lv_sub hl [1, 2, 0] rfl) hF
  · have hF := zs_t hF c20
    refine lv_iconst (v := (-1 : Int32)) hx hb dX7_first_7 (by decide) ?_
    obtain ⟨e23, e24⟩ := zs_s2 hF
    exact zs_iretE C S e23 (by rw [e24]) dX7_first_8

theorem zd_X0_hoursToRest : yX0_hoursToRest.cls = RX0 ∧ yX0_hoursToRest.cls ≠ "java/lang/invoke/MethodHandle" ∧ yX0_hoursToRest.cls ≠ "java/lang/invoke/VarHandle" ∧ (parseMethodDescriptor yX0_hoursToRest.desc).map (fun d => d.parameters.length) = some 1 := by decide +kernel
abbrev RMX7_rest : Room := { frames := 4, cells := 0, slots := 0, locals := 95 }
theorem zn_X7_rest_X7 : ∀ w ∈ wsX70, w ∈ wsX7_rest := zs_inl wsX70 [49, 50, 51, 52, 53, 54, 55, 56, 57, 58] (by decide +kernel)
set_option maxRecDepth 100000 in
set_option maxHeartbeats 4000000 in
theorem c_X7_rest (l : Launch) (G : GG) (aXm aTx aRd aPr aSg aAh aIm0 aIm1 aYt aYr aTn aYi : Ad) (Xm : Ob) (tr : Int64) (Pr : Ob) (Yt : Ob) (Ah : Ob) (Tn : Ob) (sz : Nat) (rr : Int32) (Ah_ : Ob) (Tn_ : Ob) (hF : F_X7_rest Pr Yt Ah Tn = some (rr, (Ah_, Tn_))) : Met l yX7_rest wsX7_rest RMX7_rest (va_Pc [.ref (aXm 0)] (zs_pre G (wX7 G aXm aTx aRd aPr aSg aAh aIm0 aIm1 aYt aYr Xm tr ++ wX1 G aPr Pr ++ wX6 G aYt Yt ++ wX0 G aAh aTn aYi Ah ++ wX1 G aTn Tn) sz)) (zs_Qi G (wX7 G aXm aTx aRd aPr aSg aAh aIm0 aIm1 aYt aYr Xm tr ++ wX1 G aPr Pr ++ wX6 G aYt Yt ++ wX0 G aAh aTn aYi Ah_ ++ wX1 G aTn Tn_) rr (va_A (wX7 G aXm aTx aRd aPr aSg aAh aIm0 aIm1 aYt aYr Xm tr ++ wX1 G aPr Pr ++ wX6 G aYt Yt ++ wX0 G aAh aTn aYi Ah ++ wX1 G aTn Tn) sz)) 0 0 (va_A (wX7 G aXm aTx aRd aPr aSg aAh aIm0 aIm1 aYt aYr Xm tr ++ wX1 G aPr Pr ++ wX6 G aYt Yt ++ wX0 G aAh aTn aYi Ah ++ wX1 G aTn Tn) sz) := by
  refine zs_met (cc := cX7_rest) (maxL := 1) (ret := (some .int)) (own := RX7) (Qc := zs_Qi G (wX7 G aXm aTx aRd aPr aSg aAh aIm0 aIm1 aYt aYr Xm tr ++ wX1 G aPr Pr ++ wX6 G aYt Yt ++ wX0 G aAh aTn aYi Ah_ ++ wX1 G aTn Tn_) rr) (by decide) rfl rfl (Nat.le_of_ble_eq_true rfl) ?_
  intro p e s m args below meth c C A hK hA S _ _ ls hl
  have hl : lv_has ls 1 [(0, .ref (aXm 0))] := hl
  have hx := C.1.1
  have hb := C.1.2.1
  unfold F_X7_rest at hF
  refine lv_aload_n hx hb dX7_rest_0 rfl (lv_at hl 0 rfl) ?_
  refine zs_get C hK S 0 4 (Cn := RX7) (T := TX7) (N := 10) (ci := 7) rfl rfl (by decide) zn_X7_rest_X7 (List.mem_of_getElem? (i := 1) rfl) rfl dX7_rest_1 ?_
  refine lv_aload_n hx hb dX7_rest_4 rfl (lv_at hl 0 rfl) ?_
  refine zs_get C hK S 0 2 (Cn := RX7) (T := TX7) (N := 10) (ci := 7) rfl rfl (by decide) zn_X7_rest_X7 (List.mem_of_getElem? (i := 2) rfl) rfl dX7_rest_5 ?_
  obtain ⟨Tnw1, f2, hF⟩ := zs_bdS hF
  refine zs_callv (wr := wX7 G aXm aTx aRd aPr aSg aAh aIm0 aIm1 aYt aYr Xm tr ++ wX6 G aYt Yt) (ws' := wX7 G aXm aTx aRd aPr aSg aAh aIm0 aIm1 aYt aYr Xm tr ++ wX1 G aPr Pr ++ wX6 G aYt Yt ++ wX0 G aAh aTn aYi Ah ++ wX1 G aTn Tnw1) S hA [14, 15, 16, 17, 18, 19, 2, 3, 4, 5] [0, 1, 6, 7, 8, 9, 10, 11, 12, 13] [0, 1, 16, 17, 18, 19, 2, 3, 4, 5, 6, 7, 8, 9, 10, 11, 12, 13, 14, 15] (zs_runV C hK hA S [.ref (aPr 0)] [] [14, 15, 16, 17, 18, 19, 2, 3, 4, 5] 14 1 (c_X0_setOut l G aAh aTn aYi aPr Ah Tn Pr s.heap.size Tnw1 f2) gX7_rest_X0_setOut rfl rfl rfl zd_X0_setOut ⟨Nat.le_of_ble_eq_true rfl, Nat.le_of_ble_eq_true rfl⟩ rfl rfl rfl rfl rfl hl rfl (Nat.le_of_ble_eq_true rfl) dX7_rest_8 ⟨Nat.le_of_ble_eq_true rfl, Nat.le_of_ble_eq_true rfl⟩) rfl rfl rfl (by decide) rfl rfl (fun H locs S => ?_)
  refine lv_aload_n hx hb dX7_rest_11 rfl (lv_at hl 0 rfl) ?_
  refine zs_get C hK S 0 4 (Cn := RX7) (T := TX7) (N := 10) (ci := 7) rfl rfl (by decide) zn_X7_rest_X7 (List.mem_of_getElem? (i := 1) rfl) rfl dX7_rest_12 ?_
  refine lv_aload_n hx hb dX7_rest_15 rfl (lv_at hl 0 rfl) ?_
  refine zs_get C hK S 0 6 (Cn := RX7) (T := TX7) (N := 10) (ci := 7) rfl rfl (by decide) zn_X7_rest_X7 (List.mem_of_getElem? (i := 3) rfl) rfl dX7_rest_16 ?_
  obtain ⟨r3, Ahw4, Tnw5, f6, hF⟩ := zs_b3S hF
  refine zs_calli (wr := wX7 G aXm aTx aRd aPr aSg aAh aIm0 aIm1 aYt aYr Xm tr ++ wX1 G aPr Pr) (ws' := wX7 G aXm aTx aRd aPr aSg aAh aIm0 aIm1 aYt aYr Xm tr ++ wX1 G aPr Pr ++ wX6 G aYt Yt ++ wX0 G aAh aTn aYi Ahw4 ++ wX1 G aTn Tnw5) S hA [14, 15, 16, 17, 18, 19, 6, 7, 8, 9, 10, 11, 12, 13] [0, 1, 2, 3, 4, 5] [0, 1, 2, 3, 4, 5, 12, 13, 14, 15, 16, 17, 18, 19, 6, 7, 8, 9, 10, 11] (zs_runV C hK hA S [.ref (aYt 0)] [] [14, 15, 16, 17, 18, 19, 6, 7, 8, 9, 10, 11, 12, 13] 14 1 (c_X0_hoursToRest l G aAh aTn aYi aYt Ah Tnw1 Yt H.size r3 Ahw4 Tnw5 f6) gX7_rest_X0_hoursToRest rfl rfl rfl zd_X0_hoursToRest ⟨Nat.le_of_ble_eq_true rfl, Nat.le_of_ble_eq_true rfl⟩ rfl rfl rfl rfl rfl hl rfl (Nat.le_of_ble_eq_true rfl) dX7_rest_19 ⟨Nat.le_of_ble_eq_true rfl, Nat.le_of_ble_eq_true rfl⟩) rfl rfl rfl (by decide) rfl rfl (fun H locs S => ?_)
  obtain ⟨e7, e8, e9⟩ := zs_s3 hF
  exact zs_iretE C S e7 (by rw [e8, e9]) dX7_rest_22

theorem zd_X0_warmestIfShut : yX0_warmestIfShut.cls = RX0 ∧ yX0_warmestIfShut.cls ≠ "java/lang/invoke/MethodHandle" ∧ yX0_warmestIfShut.cls ≠ "java/lang/invoke/VarHandle" ∧ (parseMethodDescriptor yX0_warmestIfShut.desc).map (fun d => d.parameters.length) = some 4 := by decide +kernel
abbrev RMX7_coolest : Room := { frames := 5, cells := 0, slots := 0, locals := 118 }
theorem zn_X7_coolest_X6 : ∀ w ∈ wsX60, w ∈ wsX7_coolest := zs_inl wsX60 [73, 74, 75, 76, 77, 78, 79, 80, 81] (by decide +kernel)
theorem zn_X7_coolest_X7 : ∀ w ∈ wsX70, w ∈ wsX7_coolest := zs_inl wsX70 [63, 64, 65, 66, 67, 68, 69, 70, 71, 72] (by decide +kernel)
set_option maxRecDepth 100000 in
set_option maxHeartbeats 4000000 in
theorem c_X7_coolest (l : Launch) (G : GG) (aXm aTx aRd aPr aSg aAh aIm0 aIm1 aYt aYr aTn aYi : Ad) (Xm : Ob) (tr : Int64) (Pr : Ob) (Yt : Ob) (Ah : Ob) (Tn : Ob) (u1 : Int32) (u2 : Int32) (sz : Nat) (rr : Int32) (Tn_ : Ob) (hF : F_X7_coolest Pr Yt Ah Tn u1 u2 = some (rr, Tn_)) : Met l yX7_coolest wsX7_coolest RMX7_coolest (va_Pc [.ref (aXm 0), .int u1, .int u2] (zs_pre G (wX7 G aXm aTx aRd aPr aSg aAh aIm0 aIm1 aYt aYr Xm tr ++ wX1 G aPr Pr ++ wX6 G aYt Yt ++ wX0 G aAh aTn aYi Ah ++ wX1 G aTn Tn) sz)) (zs_Qi G (wX7 G aXm aTx aRd aPr aSg aAh aIm0 aIm1 aYt aYr Xm tr ++ wX1 G aPr Pr ++ wX6 G aYt Yt ++ wX0 G aAh aTn aYi Ah ++ wX1 G aTn Tn_) rr (va_A (wX7 G aXm aTx aRd aPr aSg aAh aIm0 aIm1 aYt aYr Xm tr ++ wX1 G aPr Pr ++ wX6 G aYt Yt ++ wX0 G aAh aTn aYi Ah ++ wX1 G aTn Tn) sz)) 0 0 (va_A (wX7 G aXm aTx aRd aPr aSg aAh aIm0 aIm1 aYt aYr Xm tr ++ wX1 G aPr Pr ++ wX6 G aYt Yt ++ wX0 G aAh aTn aYi Ah ++ wX1 G aTn Tn) sz) := by
  refine zs_met (cc := cX7_coolest) (maxL := 7) (ret := (some .int)) (own := RX7) (Qc := zs_Qi G (wX7 G aXm aTx aRd aPr aSg aAh aIm0 aIm1 aYt aYr Xm tr ++ wX1 G aPr Pr ++ wX6 G aYt Yt ++ wX0 G aAh aTn aYi Ah ++ wX1 G aTn Tn_) rr) (by decide) rfl rfl (Nat.le_of_ble_eq_true rfl) ?_
  intro p e s m args below meth c C A hK hA S _ _ ls hl
  have hl : lv_has ls 7 [(0, .ref (aXm 0)), (1, .int u1), (2, .int u2)] := hl
  have hx := C.1.1
  have hb := C.1.2.1
  unfold F_X7_coolest at hF
  have j100 : ∀ (Tn : Ob) (x2 : Int32) (x3 : Int32) (x4 : Int32) (H : Heap) (locs : List Loc) (ls : Array Slot), zs_S G A s.heap H locs (wX7 G aXm aTx aRd aPr aSg aAh aIm0 aIm1 aYt aYr Xm tr ++ wX1 G aPr Pr ++ wX6 G aYt Yt ++ wX0 G aAh aTn aYi Ah ++ wX1 G aTn Tn) → lv_has ls 7 [(2, .int x2), (3, .int x3), (4, .int x4)] → F_X7_coolest_100 Pr Yt Ah Tn x2 x3 x4 = some (rr, Tn_) → W p l e RMX7_coolest s m args below meth c H locs 0 0 (MQ below (zs_Qi G (wX7 G aXm aTx aRd aPr aSg aAh aIm0 aIm1 aYt aYr Xm tr ++ wX1 G aPr Pr ++ wX6 G aYt Yt ++ wX0 G aAh aTn aYi Ah ++ wX1 G aTn Tn_) rr A) args s 0 0 A) (F0 m 100 ls []) := by
    intro Tn x2 x3 x4 H locs ls S hl hF
    unfold F_X7_coolest_100 at hF
    refine lv_iload_n hx hb dX7_coolest_100 rfl (lv_at hl 0 rfl) ?_
    refine lv_if_ne (tgt := 108) hx hb dX7_coolest_101 (by decide) (fun c1 => ?_) (fun c1 => ?_)
    · have hF := zs_f hF c1
      refine lv_iload hx hb dX7_coolest_108 (lv_at hl 2 rfl) ?_
      obtain ⟨e2, e3⟩ := zs_s2 hF
      exact zs_iretE C S e2 (by rw [e3]) dX7_coolest_110
    · have hF := zs_t hF c1
      refine lv_iload_n hx hb dX7_coolest_104 rfl (lv_at hl 1 rfl) ?_
      refine lv_goto (tgt := 110) hx hb dX7_coolest_105 (by decide) ?_
      obtain ⟨e4, e5⟩ := zs_s2 hF
      exact zs_iretE C S e4 (by rw [e5]) dX7_coolest_110
  have j40 : ∀ (n40 : Nat) (Tn : Ob) (x1 : Int32) (x2 : Int32) (x3 : Int32) (x4 : Int32) (x5 : Int32) (H : Heap) (locs : List Loc) (ls : Array Slot), zs_S G A s.heap H locs (wX7 G aXm aTx aRd aPr aSg aAh aIm0 aIm1 aYt aYr Xm tr ++ wX1 G aPr Pr ++ wX6 G aYt Yt ++ wX0 G aAh aTn aYi Ah ++ wX1 G aTn Tn) → lv_has ls 7 [(0, .ref (aXm 0)), (1, .int x1), (2, .int x2), (3, .int x3), (4, .int x4), (5, .int x5)] → F_X7_coolest_40 Pr Yt Ah n40 Tn x1 x2 x3 x4 x5 = some (rr, Tn_) → W p l e RMX7_coolest s m args below meth c H locs 0 0 (MQ below (zs_Qi G (wX7 G aXm aTx aRd aPr aSg aAh aIm0 aIm1 aYt aYr Xm tr ++ wX1 G aPr Pr ++ wX6 G aYt Yt ++ wX0 G aAh aTn aYi Ah ++ wX1 G aTn Tn_) rr A) args s 0 0 A) (F0 m 40 ls []) := by
    intro n40
    induction n40 with
    | zero => intro Tn x1 x2 x3 x4 x5 H locs ls _ _ hF; rw [F_X7_coolest_40_z] at hF; cases hF
    | succ n40 ih40 =>
      have j94 : ∀ (Tn : Ob) (x1 : Int32) (x2 : Int32) (x3 : Int32) (x4 : Int32) (x5 : Int32) (H : Heap) (locs : List Loc) (ls : Array Slot), zs_S G A s.heap H locs (wX7 G aXm aTx aRd aPr aSg aAh aIm0 aIm1 aYt aYr Xm tr ++ wX1 G aPr Pr ++ wX6 G aYt Yt ++ wX0 G aAh aTn aYi Ah ++ wX1 G aTn Tn) → lv_has ls 7 [(0, .ref (aXm 0)), (1, .int x1), (2, .int x2), (3, .int x3), (4, .int x4), (5, .int x5)] → F_X7_coolest_94 Pr Yt Ah (F_X7_coolest_40 Pr Yt Ah n40) Tn x1 x2 x3 x4 x5 = some (rr, Tn_) → W p l e RMX7_coolest s m args below meth c H locs 0 0 (MQ below (zs_Qi G (wX7 G aXm aTx aRd aPr aSg aAh aIm0 aIm1 aYt aYr Xm tr ++ wX1 G aPr Pr ++ wX6 G aYt Yt ++ wX0 G aAh aTn aYi Ah ++ wX1 G aTn Tn_) rr A) args s 0 0 A) (F0 m 94 ls []) := by
        intro Tn x1 x2 x3 x4 x5 H locs ls S hl hF
        unfold F_X7_coolest_94 at hF
        obtain ⟨z6, e7⟩ : ∃ q : Int32, q = x5 + (1 : Int32) := ⟨_, rfl⟩
        have hF := zs_letS hF e7
        refine lv_iinc (v := z6) (lv' := [(5, .int z6), (0, .ref (aXm 0)), (1, .int x1), (2, .int x2), (3, .int x3), (4, .int x4)]) hx hb dX7_coolest_94 hl (k := 5) rfl (by rw [e7]; rfl) (by decide) rfl (fun ls hl => ?_)
        refine lv_goto (tgt := 40) hx hb dX7_coolest_97 (by decide) ?_
        exact ih40 Tn x1 x2 x3 x4 z6 _ _ _ S (lv_sub hl [1, 2, 3, 4, 5, 0] rfl) hF
      have j87 : ∀ (Tn : Ob) (x1 : Int32) (x2 : Int32) (x5 : Int32) (x6 : Int32) (H : Heap) (locs : List Loc) (ls : Array Slot), zs_S G A s.heap H locs (wX7 G aXm aTx aRd aPr aSg aAh aIm0 aIm1 aYt aYr Xm tr ++ wX1 G aPr Pr ++ wX6 G aYt Yt ++ wX0 G aAh aTn aYi Ah ++ wX1 G aTn Tn) → lv_has ls 7 [(0, .ref (aXm 0)), (1, .int x1), (2, .int x2), (5, .int x5), (6, .int x6)] → F_X7_coolest_87 Pr Yt Ah (F_X7_coolest_40 Pr Yt Ah n40) Tn x1 x2 x5 x6 = some (rr, Tn_) → W p l e RMX7_coolest s m args below meth c H locs 0 0 (MQ below (zs_Qi G (wX7 G aXm aTx aRd aPr aSg aAh aIm0 aIm1 aYt aYr Xm tr ++ wX1 G aPr Pr ++ wX6 G aYt Yt ++ wX0 G aAh aTn aYi Ah ++ wX1 G aTn Tn_) rr A) args s 0 0 A) (F0 m 87 ls []) := by
        intro Tn x1 x2 x5 x6 H locs ls S hl hF
        unfold F_X7_coolest_87 at hF
        refine lv_iload hx hb dX7_coolest_87 (lv_at hl 4 rfl) ?_
        refine lv_istore_n (lv' := [(3, .int x6), (0, .ref (aXm 0)), (1, .int x1), (2, .int x2), (5, .int x5), (6, .int x6)]) hx hb dX7_coolest_89 rfl hl (by decide) rfl (fun ls hl => ?_)
        refine lv_iload hx hb dX7_coolest_90 (lv_at hl 4 rfl) ?_
        refine lv_istore (lv' := [(4, .int x5), (3, .int x6), (0, .ref (aXm 0)), (1, .int x1), (2, .int x2), (5, .int x5), (6, .int x6)]) hx hb dX7_coolest_92 hl (by decide) rfl (fun ls hl => ?_)
        exact j94 Tn x1 x2 x6 x5 x5 _ _ _ S (lv_sub hl [2, 3, 4, 1, 0, 5] rfl) hF
      intro Tn x1 x2 x3 x4 x5 H locs ls S hl hF
      rw [F_X7_coolest_40_n] at hF
      unfold F_X7_coolest_40_s at hF
      refine lv_iload hx hb dX7_coolest_40 (lv_at hl 5 rfl) ?_
      refine lv_iconst (v := (1 : Int32)) hx hb dX7_coolest_42 (by decide) ?_
      refine lv_aload_n hx hb dX7_coolest_43 rfl (lv_at hl 0 rfl) ?_
      refine zs_get C hK S 0 6 (Cn := RX7) (T := TX7) (N := 10) (ci := 7) rfl rfl (by decide) zn_X7_coolest_X7 (List.mem_of_getElem? (i := 1) rfl) rfl dX7_coolest_44 ?_
      refine zs_get C hK S 6 0 (Cn := RX6) (T := TX6) (N := 9) (ci := 6) rfl rfl (by decide) zn_X7_coolest_X6 (List.mem_of_getElem? (i := 2) rfl) rfl dX7_coolest_47 ?_
      refine lv_ishl hx hb dX7_coolest_50 ?_
      refine lv_icmp_ge (tgt := 100) hx hb dX7_coolest_51 (by decide) (fun c8 => ?_) (fun c8 => ?_)
      · have hF := zs_t hF c8
        exact j100 Tn x2 x3 x4 _ _ _ S (lv_sub hl [2, 3, 4] rfl) hF
      · have hF := zs_f hF c8
        refine lv_aload_n hx hb dX7_coolest_54 rfl (lv_at hl 0 rfl) ?_
        refine zs_get C hK S 0 4 (Cn := RX7) (T := TX7) (N := 10) (ci := 7) rfl rfl (by decide) zn_X7_coolest_X7 (List.mem_of_getElem? (i := 3) rfl) rfl dX7_coolest_55 ?_
        refine lv_aload_n hx hb dX7_coolest_58 rfl (lv_at hl 0 rfl) ?_
        refine zs_get C hK S 0 2 (Cn := RX7) (T := TX7) (N := 10) (ci := 7) rfl rfl (by decide) zn_X7_coolest_X7 (List.mem_of_getElem? (i := 4) rfl) rfl dX7_coolest_59 ?_
        refine lv_aload_n hx hb dX7_coolest_62 rfl (lv_at hl 0 rfl) ?_
        refine zs_get C hK S 0 6 (Cn := RX7) (T := TX7) (N := 10) (ci := 7) rfl rfl (by decide) zn_X7_coolest_X7 (List.mem_of_getElem? (i := 1) rfl) rfl dX7_coolest_63 ?_
        refine lv_iload hx hb dX7_coolest_66 (lv_at hl 5 rfl) ?_
        refine lv_iload_n hx hb dX7_coolest_68 rfl (lv_at hl 1 rfl) ?_
        obtain ⟨r9, Tnw10, f11, hF⟩ := zs_b2S hF
        refine zs_calli (wr := wX7 G aXm aTx aRd aPr aSg aAh aIm0 aIm1 aYt aYr Xm tr) (ws' := wX7 G aXm aTx aRd aPr aSg aAh aIm0 aIm1 aYt aYr Xm tr ++ wX1 G aPr Pr ++ wX6 G aYt Yt ++ wX0 G aAh aTn aYi Ah ++ wX1 G aTn Tnw10) S hA [14, 15, 16, 17, 18, 19, 2, 3, 4, 5, 6, 7, 8, 9, 10, 11, 12, 13] [0, 1] [0, 1, 8, 9, 10, 11, 12, 13, 14, 15, 16, 17, 18, 19, 2, 3, 4, 5, 6, 7] (zs_runV C hK hA S [.ref (aPr 0), .ref (aYt 0), .int x5, .int x1] [] [14, 15, 16, 17, 18, 19, 2, 3, 4, 5, 6, 7, 8, 9, 10, 11, 12, 13] 14 4 (c_X0_warmestIfShut l G aAh aTn aYi aPr aYt Ah Tn Pr Yt x5 x1 H.size r9 Tnw10 f11) gX7_coolest_X0_warmestIfShut rfl rfl rfl zd_X0_warmestIfShut ⟨Nat.le_of_ble_eq_true rfl, Nat.le_of_ble_eq_true rfl⟩ rfl rfl rfl rfl rfl hl rfl (Nat.le_of_ble_eq_true rfl) dX7_coolest_69 ⟨Nat.le_of_ble_eq_true rfl, Nat.le_of_ble_eq_true rfl⟩) rfl rfl rfl (by decide) rfl rfl (fun H locs S => ?_)
        refine lv_istore (lv' := [(6, .int r9), (0, .ref (aXm 0)), (1, .int x1), (2, .int x2), (3, .int x3), (4, .int x4), (5, .int x5)]) hx hb dX7_coolest_72 hl (by decide) rfl (fun ls hl => ?_)
        refine lv_iload hx hb dX7_coolest_74 (lv_at hl 5 rfl) ?_
        refine lv_bipush (v := (-9 : Int32)) hx hb dX7_coolest_76 (by decide) ?_
        refine lv_icmp_eq (tgt := 87) hx hb dX7_coolest_78 (by decide) (fun c12 => ?_) (fun c12 => ?_)
        · have hF := zs_t hF c12
          exact j87 Tnw10 x1 x2 x5 r9 _ _ _ S (lv_sub hl [1, 2, 3, 6, 0] rfl) hF
        · have hF := zs_f hF c12
          refine lv_iload hx hb dX7_coolest_81 (lv_at hl 0 rfl) ?_
          refine lv_iload_n hx hb dX7_coolest_83 rfl (lv_at hl 4 rfl) ?_
          refine lv_icmp_ge (tgt := 94) hx hb dX7_coolest_84 (by decide) (fun c13 => ?_) (fun c13 => ?_)
          · have hF := zs_t hF c13
            exact j94 Tnw10 x1 x2 x3 x4 x5 _ _ _ S (lv_sub hl [1, 2, 3, 4, 5, 6] rfl) hF
          · have hF := zs_f hF c13
            exact j87 Tnw10 x1 x2 x5 r9 _ _ _ S (lv_sub hl [1, 2, 3, 6, 0] rfl) hF
  refine lv_iload_n hx hb dX7_coolest_0 rfl (lv_at hl 1 rfl) ?_
  refine lv_bipush (v := (20 : Int32)) hx hb dX7_coolest_1 (by decide) ?_
  obtain ⟨r14, f15, hF⟩ := zs_bdS hF
  refine zs_calliP S hA (zs_runS C hK hA S [.int u1, .int (20 : Int32)] [] [] 2 (c_X7_isWithin l G u1 ((20 : Int32)) s.heap.size r14 f15) gX7_coolest_X7_isWithin rfl rfl rfl zd_X7_isWithin ⟨Nat.le_of_ble_eq_true rfl, Nat.le_of_ble_eq_true rfl⟩ rfl rfl rfl hl rfl (Nat.le_of_ble_eq_true rfl) dX7_coolest_3 ⟨Nat.le_of_ble_eq_true rfl, Nat.le_of_ble_eq_true rfl⟩) (fun H locs S => ?_)
  refine lv_if_eq (tgt := 16) hx hb dX7_coolest_6 (by decide) (fun c16 => ?_) (fun c16 => ?_)
  · have hF := zs_t hF c16
    refine lv_iconst (v := (-1 : Int32)) hx hb dX7_coolest_16 (by decide) ?_
    obtain ⟨e17, e18⟩ := zs_s2 hF
    exact zs_iretE C S e17 (by rw [e18]) dX7_coolest_17
  · have hF := zs_f hF c16
    refine lv_iload_n hx hb dX7_coolest_9 rfl (lv_at hl 2 rfl) ?_
    obtain ⟨r19, f20, hF⟩ := zs_bdS hF
    refine zs_calliP S hA (zs_runS C hK hA S [.int u2] [] [] 1 (c_X7_isBit l G u2 H.size r19 f20) gX7_coolest_X7_isBit rfl rfl rfl zd_X7_isBit ⟨Nat.le_of_ble_eq_true rfl, Nat.le_of_ble_eq_true rfl⟩ rfl rfl rfl hl rfl (Nat.le_of_ble_eq_true rfl) dX7_coolest_10 ⟨Nat.le_of_ble_eq_true rfl, Nat.le_of_ble_eq_true rfl⟩) (fun H locs S => ?_)
    refine lv_if_ne (tgt := 18) hx hb dX7_coolest_13 (by decide) (fun c21 => ?_) (fun c21 => ?_)
    · have hF := zs_f hF c21
      refine lv_aload_n hx hb dX7_coolest_18 rfl (lv_at hl 0 rfl) ?_
      refine zs_get C hK S 0 6 (Cn := RX7) (T := TX7) (N := 10) (ci := 7) rfl rfl (by decide) zn_X7_coolest_X7 (List.mem_of_getElem? (i := 1) rfl) rfl dX7_coolest_19 ?_
      refine zs_get C hK S 6 0 (Cn := RX6) (T := TX6) (N := 9) (ci := 6) rfl rfl (by decide) zn_X7_coolest_X6 (List.mem_of_getElem? (i := 2) rfl) rfl dX7_coolest_22 ?_
      refine lv_if_ne (tgt := 31) hx hb dX7_coolest_25 (by decide) (fun c22 => ?_) (fun c22 => ?_)
      · have hF := zs_f hF c22
        refine lv_iconst (v := (0 : Int32)) hx hb dX7_coolest_31 (by decide) ?_
        refine lv_istore_n (lv' := [(3, .int (0 : Int32)), (0, .ref (aXm 0)), (1, .int u1), (2, .int u2)]) hx hb dX7_coolest_32 rfl hl (by decide) rfl (fun ls hl => ?_)
        refine lv_bipush (v := (-9 : Int32)) hx hb dX7_coolest_33 (by decide) ?_
        refine lv_istore (lv' := [(4, .int (-9 : Int32)), (3, .int (0 : Int32)), (0, .ref (aXm 0)), (1, .int u1), (2, .int u2)]) hx hb dX7_coolest_35 hl (by decide) rfl (fun ls hl => ?_)
        refine lv_iconst (v := (0 : Int32)) hx hb dX7_coolest_37 (by decide) ?_
        refine lv_istore (lv' := [(5, .int (0 : Int32)), (4, .int (-9 : Int32)), (3, .int (0 : Int32)), (0, .ref (aXm 0)), (1, .int u1), (2, .int u2)]) hx hb dX7_coolest_38 hl (by decide) rfl (fun ls hl => ?_)
        exact j40 1000 Tn u1 u2 (0 : Int32) (-9 : Int32) (0 : Int32) _ _ _ S (lv_sub hl [3, 4, 5, 2, 1, 0] rfl) hF
      · have hF := zs_t hF c22
        refine lv_bipush (v := (-9 : Int32)) hx hb dX7_coolest_28 (by decide) ?_
        obtain ⟨e23, e24⟩ := zs_s2 hF
        exact zs_iretE C S e23 (by rw [e24]) dX7_coolest_30
    · have hF := zs_t hF c21
      refine lv_iconst (v := (-1 : Int32)) hx hb dX7_coolest_16 (by decide) ?_
      obtain ⟨e25, e26⟩ := zs_s2 hF
      exact zs_iretE C S e25 (by rw [e26]) dX7_coolest_17

theorem zd_X3_add : yX3_add.cls = RX3 ∧ yX3_add.cls ≠ "java/lang/invoke/MethodHandle" ∧ yX3_add.cls ≠ "java/lang/invoke/VarHandle" ∧ (parseMethodDescriptor yX3_add.desc).map (fun d => d.parameters.length) = some 3 := by decide +kernel
abbrev RMX7_saw : Room := { frames := 1, cells := 0, slots := 0, locals := 23 }
theorem zn_X7_saw_X3 : ∀ w ∈ wsX30, w ∈ wsX7_saw := zs_inl wsX30 [32, 33, 34, 35] (by decide +kernel)
theorem zn_X7_saw_X7 : ∀ w ∈ wsX70, w ∈ wsX7_saw := zs_inl wsX70 [22, 23, 24, 25, 26, 27, 28, 29, 30, 31] (by decide +kernel)
set_option maxRecDepth 100000 in
set_option maxHeartbeats 4000000 in
theorem c_X7_saw (l : Launch) (G : GG) (aXm aTx aRd aPr aSg aAh aIm0 aIm1 aYt aYr : Ad) (Xm : Ob) (tr : Int64) (Yt : Ob) (Sg : Ob) (u1 : Int32) (u2 : Int32) (u3 : Int32) (sz : Nat) (rr : Int32) (Sg_ : Ob) (hF : F_X7_saw Yt Sg u1 u2 u3 = some (rr, Sg_)) : Met l yX7_saw wsX7_saw RMX7_saw (va_Pc [.ref (aXm 0), .int u1, .int u2, .int u3] (zs_pre G (wX7 G aXm aTx aRd aPr aSg aAh aIm0 aIm1 aYt aYr Xm tr ++ wX6 G aYt Yt ++ wX3 G aSg Sg) sz)) (zs_Qi G (wX7 G aXm aTx aRd aPr aSg aAh aIm0 aIm1 aYt aYr Xm tr ++ wX6 G aYt Yt ++ wX3 G aSg Sg_) rr (va_A (wX7 G aXm aTx aRd aPr aSg aAh aIm0 aIm1 aYt aYr Xm tr ++ wX6 G aYt Yt ++ wX3 G aSg Sg) sz)) 0 0 (va_A (wX7 G aXm aTx aRd aPr aSg aAh aIm0 aIm1 aYt aYr Xm tr ++ wX6 G aYt Yt ++ wX3 G aSg Sg) sz) := by
  refine zs_met (cc := cX7_saw) (maxL := 4) (ret := (some .int)) (own := RX7) (Qc := zs_Qi G (wX7 G aXm aTx aRd aPr aSg aAh aIm0 aIm1 aYt aYr Xm tr ++ wX6 G aYt Yt ++ wX3 G aSg Sg_) rr) (by decide) rfl rfl (Nat.le_of_ble_eq_true rfl) ?_
  intro p e s m args below meth c C A hK hA S _ _ ls hl
  have hl : lv_has ls 4 [(0, .ref (aXm 0)), (1, .int u1), (2, .int u2), (3, .int u3)] := hl
  have hx := C.1.1
  have hb := C.1.2.1
  unfold F_X7_saw at hF
  refine lv_iload_n hx hb dX7_saw_0 rfl (lv_at hl 1 rfl) ?_
  refine lv_bipush (v := (20 : Int32)) hx hb dX7_saw_1 (by decide) ?_
  obtain ⟨r1, f2, hF⟩ := zs_bdS hF
  refine zs_calliP S hA (zs_runS C hK hA S [.int u1, .int (20 : Int32)] [] [] 2 (c_X7_isWithin l G u1 ((20 : Int32)) s.heap.size r1 f2) gX7_saw_X7_isWithin rfl rfl rfl zd_X7_isWithin ⟨Nat.le_of_ble_eq_true rfl, Nat.le_of_ble_eq_true rfl⟩ rfl rfl rfl hl rfl (Nat.le_of_ble_eq_true rfl) dX7_saw_3 ⟨Nat.le_of_ble_eq_true rfl, Nat.le_of_ble_eq_true rfl⟩) (fun H locs S => ?_)
  refine lv_if_eq (tgt := 27) hx hb dX7_saw_6 (by decide) (fun c3 => ?_) (fun c3 => ?_)
  · have hF := zs_t hF c3
    refine lv_iconst (v := (-1 : Int32)) hx hb dX7_saw_27 (by decide) ?_
    obtain ⟨e4, e5⟩ := zs_s2 hF
    exact zs_iretE C S e4 (by rw [e5]) dX7_saw_28
  · have hF := zs_f hF c3
    refine lv_aload_n hx hb dX7_saw_9 rfl (lv_at hl 0 rfl) ?_
    refine lv_iload_n hx hb dX7_saw_10 rfl (lv_at hl 2 rfl) ?_
    obtain ⟨r6, f7, hF⟩ := zs_bdS hF
    refine zs_calli (wr := wX3 G aSg Sg) (ws' := wX7 G aXm aTx aRd aPr aSg aAh aIm0 aIm1 aYt aYr Xm tr ++ wX6 G aYt Yt ++ wX3 G aSg Sg) S hA [0, 1, 2, 3, 4, 5, 6, 7, 8, 9] [10, 11, 12, 13] [4, 5, 6, 7, 8, 9, 10, 11, 12, 13, 0, 1, 2, 3] (zs_runV C hK hA S [.int u2] [] [0, 1, 2, 3, 4, 5, 6, 7, 8, 9] 0 1 (c_X7_isWall l G aXm aTx aRd aPr aSg aAh aIm0 aIm1 aYt aYr Xm tr Yt u2 H.size r6 f7) gX7_saw_X7_isWall rfl rfl rfl zd_X7_isWall ⟨Nat.le_of_ble_eq_true rfl, Nat.le_of_ble_eq_true rfl⟩ rfl rfl rfl rfl rfl hl rfl (Nat.le_of_ble_eq_true rfl) dX7_saw_11 ⟨Nat.le_of_ble_eq_true rfl, Nat.le_of_ble_eq_true rfl⟩) rfl rfl rfl (by decide) rfl rfl (fun H locs S => ?_)
    refine lv_if_eq (tgt := 27) hx hb dX7_saw_14 (by decide) (fun c8 => ?_) (fun c8 => ?_)
    · have hF := zs_t hF c8
      refine lv_iconst (v := (-1 : Int32)) hx hb dX7_saw_27 (by decide) ?_
      obtain ⟨e9, e10⟩ := zs_s2 hF
      exact zs_iretE C S e9 (by rw [e10]) dX7_saw_28
    · have hF := zs_f hF c8
      refine lv_iload_n hx hb dX7_saw_17 rfl (lv_at hl 3 rfl) ?_
      refine lv_sipush (v := (9999 : Int32)) hx hb dX7_saw_18 (by decide) ?_
      obtain ⟨r11, f12, hF⟩ := zs_bdS hF
      refine zs_calliP S hA (zs_runS C hK hA S [.int u3, .int (9999 : Int32)] [] [] 2 (c_X7_isWithin l G u3 ((9999 : Int32)) H.size r11 f12) gX7_saw_X7_isWithin rfl rfl rfl zd_X7_isWithin ⟨Nat.le_of_ble_eq_true rfl, Nat.le_of_ble_eq_true rfl⟩ rfl rfl rfl hl rfl (Nat.le_of_ble_eq_true rfl) dX7_saw_21 ⟨Nat.le_of_ble_eq_true rfl, Nat.le_of_ble_eq_true rfl⟩) (fun H locs S => ?_)
      refine lv_if_ne (tgt := 29) hx hb dX7_saw_24 (by decide) (fun c13 => ?_) (fun c13 => ?_)
      · have hF := zs_f hF c13
        refine lv_aload_n hx hb dX7_saw_29 rfl (lv_at hl 0 rfl) ?_
        refine zs_get C hK S 0 3 (Cn := RX7) (T := TX7) (N := 10) (ci := 7) rfl rfl (by decide) zn_X7_saw_X7 (List.mem_of_getElem? (i := 1) rfl) rfl dX7_saw_30 ?_
        refine zs_get C hK S 10 0 (Cn := RX3) (T := TX3) (N := 4) (ci := 3) rfl rfl (by decide) zn_X7_saw_X3 (List.mem_of_getElem? (i := 2) rfl) rfl dX7_saw_33 ?_
        refine lv_bipush (v := (8 : Int32)) hx hb dX7_saw_36 (by decide) ?_
        refine lv_icmp_lt (tgt := 44) hx hb dX7_saw_38 (by decide) (fun c14 => ?_) (fun c14 => ?_)
        · have hF := zs_t hF c14
          refine lv_aload_n hx hb dX7_saw_44 rfl (lv_at hl 0 rfl) ?_
          refine zs_get C hK S 0 3 (Cn := RX7) (T := TX7) (N := 10) (ci := 7) rfl rfl (by decide) zn_X7_saw_X7 (List.mem_of_getElem? (i := 1) rfl) rfl dX7_saw_45 ?_
          refine lv_iload_n hx hb dX7_saw_48 rfl (lv_at hl 1 rfl) ?_
          refine lv_iload_n hx hb dX7_saw_49 rfl (lv_at hl 2 rfl) ?_
          refine lv_iload_n hx hb dX7_saw_50 rfl (lv_at hl 3 rfl) ?_
          obtain ⟨Sgw15, f16, hF⟩ := zs_bdS hF
          refine zs_callv (wr := wX7 G aXm aTx aRd aPr aSg aAh aIm0 aIm1 aYt aYr Xm tr ++ wX6 G aYt Yt) (ws' := wX7 G aXm aTx aRd aPr aSg aAh aIm0 aIm1 aYt aYr Xm tr ++ wX6 G aYt Yt ++ wX3 G aSg Sgw15) S hA [10, 11, 12, 13] [0, 1, 2, 3, 4, 5, 6, 7, 8, 9] [0, 1, 2, 3, 4, 5, 6, 7, 8, 9, 10, 11, 12, 13] (zs_runV C hK hA S [.int u1, .int u2, .int u3] [] [10, 11, 12, 13] 10 3 (c_X3_add l G aSg Sg u1 u2 u3 H.size Sgw15 f16) gX7_saw_X3_add rfl rfl rfl zd_X3_add ⟨Nat.le_of_ble_eq_true rfl, Nat.le_of_ble_eq_true rfl⟩ rfl rfl rfl rfl rfl hl rfl (Nat.le_of_ble_eq_true rfl) dX7_saw_51 ⟨Nat.le_of_ble_eq_true rfl, Nat.le_of_ble_eq_true rfl⟩) rfl rfl rfl (by decide) rfl rfl (fun H locs S => ?_)
          refine lv_aload_n hx hb dX7_saw_54 rfl (lv_at hl 0 rfl) ?_
          refine zs_get C hK S 0 3 (Cn := RX7) (T := TX7) (N := 10) (ci := 7) rfl rfl (by decide) zn_X7_saw_X7 (List.mem_of_getElem? (i := 1) rfl) rfl dX7_saw_55 ?_
          refine zs_get C hK S 10 0 (Cn := RX3) (T := TX3) (N := 4) (ci := 3) rfl rfl (by decide) zn_X7_saw_X3 (List.mem_of_getElem? (i := 2) rfl) rfl dX7_saw_58 ?_
          obtain ⟨e17, e18⟩ := zs_s2 hF
          exact zs_iretE C S e17 (by rw [e18]) dX7_saw_61
        · have hF := zs_f hF c14
          refine lv_bipush (v := (-3 : Int32)) hx hb dX7_saw_41 (by decide) ?_
          obtain ⟨e19, e20⟩ := zs_s2 hF
          exact zs_iretE C S e19 (by rw [e20]) dX7_saw_43
      · have hF := zs_t hF c13
        refine lv_iconst (v := (-1 : Int32)) hx hb dX7_saw_27 (by decide) ?_
        obtain ⟨e21, e22⟩ := zs_s2 hF
        exact zs_iretE C S e21 (by rw [e22]) dX7_saw_28

abbrev RMX7_forget : Room := { frames := 0, cells := 0, slots := 0, locals := 0 }
theorem zn_X7_forget_X3 : ∀ w ∈ wsX30, w ∈ wsX7_forget := zs_inl wsX30 [13, 14, 15, 16] (by decide +kernel)
theorem zn_X7_forget_X7 : ∀ w ∈ wsX70, w ∈ wsX7_forget := zs_inl wsX70 [3, 4, 5, 6, 7, 8, 9, 10, 11, 12] (by decide +kernel)
set_option maxRecDepth 100000 in
set_option maxHeartbeats 4000000 in
theorem c_X7_forget (l : Launch) (G : GG) (aXm aTx aRd aPr aSg aAh aIm0 aIm1 aYt aYr : Ad) (Xm : Ob) (tr : Int64) (Sg : Ob) (sz : Nat) (rr : Int32) (Sg_ : Ob) (hF : F_X7_forget Sg = some (rr, Sg_)) : Met l yX7_forget wsX7_forget RMX7_forget (va_Pc [.ref (aXm 0)] (zs_pre G (wX7 G aXm aTx aRd aPr aSg aAh aIm0 aIm1 aYt aYr Xm tr ++ wX3 G aSg Sg) sz)) (zs_Qi G (wX7 G aXm aTx aRd aPr aSg aAh aIm0 aIm1 aYt aYr Xm tr ++ wX3 G aSg Sg_) rr (va_A (wX7 G aXm aTx aRd aPr aSg aAh aIm0 aIm1 aYt aYr Xm tr ++ wX3 G aSg Sg) sz)) 0 0 (va_A (wX7 G aXm aTx aRd aPr aSg aAh aIm0 aIm1 aYt aYr Xm tr ++ wX3 G aSg Sg) sz) := by
  refine zs_met (cc := cX7_forget) (maxL := 2) (ret := (some .int)) (own := RX7) (Qc := zs_Qi G (wX7 G aXm aTx aRd aPr aSg aAh aIm0 aIm1 aYt aYr Xm tr ++ wX3 G aSg Sg_) rr) (by decide) rfl rfl (Nat.le_of_ble_eq_true rfl) ?_
  intro p e s m args below meth c C A hK hA S _ _ ls hl
  have hl : lv_has ls 2 [(0, .ref (aXm 0))] := hl
  have hx := C.1.1
  have hb := C.1.2.1
  unfold F_X7_forget at hF
  refine lv_aload_n hx hb dX7_forget_0 rfl (lv_at hl 0 rfl) ?_
  refine zs_get C hK S 0 3 (Cn := RX7) (T := TX7) (N := 10) (ci := 7) rfl rfl (by decide) zn_X7_forget_X7 (List.mem_of_getElem? (i := 1) rfl) rfl dX7_forget_1 ?_
  refine zs_get C hK S 2 0 (Cn := RX3) (T := TX3) (N := 4) (ci := 3) rfl rfl (by decide) zn_X7_forget_X3 (List.mem_of_getElem? (i := 2) rfl) rfl dX7_forget_4 ?_
  refine lv_topi (fun z1 e2 => ?_)
  have hF := zs_letS hF e2
  refine lv_istore_n (lv' := [(1, .int z1), (0, .ref (aXm 0))]) hx hb dX7_forget_7 rfl hl (by decide) rfl (fun ls hl => ?_)
  refine lv_aload_n hx hb dX7_forget_8 rfl (lv_at hl 1 rfl) ?_
  refine zs_get C hK S 0 3 (Cn := RX7) (T := TX7) (N := 10) (ci := 7) rfl rfl (by decide) zn_X7_forget_X7 (List.mem_of_getElem? (i := 1) rfl) rfl dX7_forget_9 ?_
  refine lv_iconst (v := (0 : Int32)) hx hb dX7_forget_12 (by decide) ?_
  obtain ⟨Sgw3, e4⟩ : ∃ q : Ob, q = zs_up Sg 0 0 (0 : Int32) := ⟨_, rfl⟩
  have hF := zs_letS hF e4
  refine zs_put C hK S 2 0 (ws' := wX7 G aXm aTx aRd aPr aSg aAh aIm0 aIm1 aYt aYr Xm tr ++ wX3 G aSg Sgw3) (Cn := RX3) (T := TX3) (N := 4) (ci := 3) rfl rfl (by decide) zn_X7_forget_X3 tyX3_ok nmX3 (List.mem_of_getElem? (i := 2) rfl) rfl rfl rfl (Nat.le_of_ble_eq_true rfl) (by rw [e4]; rfl) dX7_forget_13 (fun H locs S => ?_)
  refine lv_iload_n hx hb dX7_forget_16 rfl (lv_at hl 0 rfl) ?_
  obtain ⟨e5, e6⟩ := zs_s2 hF
  exact zs_iretE C S e5 (by rw [e6]) dX7_forget_17

abbrev RMX7_count : Room := { frames := 1, cells := 0, slots := 0, locals := 20 }
theorem zn_X7_count_X1 : ∀ w ∈ wsX10, w ∈ wsX7_count := zs_inl wsX10 [38, 39, 40, 41, 42, 43, 44, 45] (by decide +kernel)
theorem zn_X7_count_X3 : ∀ w ∈ wsX30, w ∈ wsX7_count := zs_inl wsX30 [46, 47, 48, 49] (by decide +kernel)
theorem zn_X7_count_X4 : ∀ w ∈ wsX40, w ∈ wsX7_count := zs_inl wsX40 [50, 51] (by decide +kernel)
theorem zn_X7_count_X6 : ∀ w ∈ wsX60, w ∈ wsX7_count := zs_inl wsX60 [29, 30, 31, 32, 33, 34, 35, 36, 37] (by decide +kernel)
theorem zn_X7_count_X7 : ∀ w ∈ wsX70, w ∈ wsX7_count := zs_inl wsX70 [19, 20, 21, 22, 23, 24, 25, 26, 27, 28] (by decide +kernel)
set_option maxRecDepth 100000 in
set_option maxHeartbeats 4000000 in
theorem c_X7_count (l : Launch) (G : GG) (aXm aTx aRd aPr aSg aAh aIm0 aIm1 aYt aYr : Ad) (Xm : Ob) (tr : Int64) (Tx : Ob) (Pr : Ob) (Sg : Ob) (Yt : Ob) (u1 : Int32) (sz : Nat) (rr : Int32) (hF : F_X7_count Tx Pr Sg Yt u1 = some rr) : Met l yX7_count wsX7_count RMX7_count (va_Pc [.ref (aXm 0), .int u1] (zs_pre G (wX7 G aXm aTx aRd aPr aSg aAh aIm0 aIm1 aYt aYr Xm tr ++ wX4 G aTx Tx ++ wX1 G aPr Pr ++ wX3 G aSg Sg ++ wX6 G aYt Yt) sz)) (zs_Qi G (wX7 G aXm aTx aRd aPr aSg aAh aIm0 aIm1 aYt aYr Xm tr ++ wX4 G aTx Tx ++ wX1 G aPr Pr ++ wX3 G aSg Sg ++ wX6 G aYt Yt) rr (va_A (wX7 G aXm aTx aRd aPr aSg aAh aIm0 aIm1 aYt aYr Xm tr ++ wX4 G aTx Tx ++ wX1 G aPr Pr ++ wX3 G aSg Sg ++ wX6 G aYt Yt) sz)) 0 0 (va_A (wX7 G aXm aTx aRd aPr aSg aAh aIm0 aIm1 aYt aYr Xm tr ++ wX4 G aTx Tx ++ wX1 G aPr Pr ++ wX3 G aSg Sg ++ wX6 G aYt Yt) sz) := by
  refine zs_met (cc := cX7_count) (maxL := 2) (ret := (some .int)) (own := RX7) (Qc := zs_Qi G (wX7 G aXm aTx aRd aPr aSg aAh aIm0 aIm1 aYt aYr Xm tr ++ wX4 G aTx Tx ++ wX1 G aPr Pr ++ wX3 G aSg Sg ++ wX6 G aYt Yt) rr) (by decide) rfl rfl (Nat.le_of_ble_eq_true rfl) ?_
  intro p e s m args below meth c C A hK hA S _ _ ls hl
  have hl : lv_has ls 2 [(0, .ref (aXm 0)), (1, .int u1)] := hl
  have hx := C.1.1
  have hb := C.1.2.1
  unfold F_X7_count at hF
  refine lv_iload_n hx hb dX7_count_0 rfl (lv_at hl 1 rfl) ?_
  by_cases c1 : u1 = (0 : Int32)
  · have hF := zs_t hF c1
    refine lv_tableIn (off := 43) (tgt := 44) hx hb dX7_count_1 (by rw [c1]; decide) (by rw [c1]; decide) (by rw [c1]; rfl) (by decide) ?_
    refine lv_aload_n hx hb dX7_count_44 rfl (lv_at hl 0 rfl) ?_
    refine zs_get C hK S 0 6 (Cn := RX7) (T := TX7) (N := 10) (ci := 7) rfl rfl (by decide) zn_X7_count_X7 (List.mem_of_getElem? (i := 1) rfl) rfl dX7_count_45 ?_
    refine zs_get C hK S 12 0 (Cn := RX6) (T := TX6) (N := 9) (ci := 6) rfl rfl (by decide) zn_X7_count_X6 (List.mem_of_getElem? (i := 2) rfl) rfl dX7_count_48 ?_
    have e2 := zs_s1 hF
    exact zs_iretE C S e2 rfl dX7_count_51
  · have hF := zs_f hF c1
    by_cases c3 : u1 = (1 : Int32)
    · have hF := zs_t hF c3
      refine lv_tableIn (off := 51) (tgt := 52) hx hb dX7_count_1 (by rw [c3]; decide) (by rw [c3]; decide) (by rw [c3]; rfl) (by decide) ?_
      refine lv_aload_n hx hb dX7_count_52 rfl (lv_at hl 0 rfl) ?_
      refine zs_get C hK S 0 6 (Cn := RX7) (T := TX7) (N := 10) (ci := 7) rfl rfl (by decide) zn_X7_count_X7 (List.mem_of_getElem? (i := 1) rfl) rfl dX7_count_53 ?_
      refine zs_get C hK S 12 1 (Cn := RX6) (T := TX6) (N := 9) (ci := 6) rfl rfl (by decide) zn_X7_count_X6 (List.mem_of_getElem? (i := 3) rfl) rfl dX7_count_56 ?_
      have e4 := zs_s1 hF
      exact zs_iretE C S e4 rfl dX7_count_59
    · have hF := zs_f hF c3
      by_cases c5 : u1 = (2 : Int32)
      · have hF := zs_t hF c5
        refine lv_tableIn (off := 59) (tgt := 60) hx hb dX7_count_1 (by rw [c5]; decide) (by rw [c5]; decide) (by rw [c5]; rfl) (by decide) ?_
        refine lv_aload_n hx hb dX7_count_60 rfl (lv_at hl 0 rfl) ?_
        refine zs_get C hK S 0 2 (Cn := RX7) (T := TX7) (N := 10) (ci := 7) rfl rfl (by decide) zn_X7_count_X7 (List.mem_of_getElem? (i := 4) rfl) rfl dX7_count_61 ?_
        refine zs_get C hK S 4 1 (Cn := RX1) (T := TX1) (N := 8) (ci := 1) rfl rfl (by decide) zn_X7_count_X1 (List.mem_of_getElem? (i := 5) rfl) rfl dX7_count_64 ?_
        obtain ⟨r6, f7, hF⟩ := zs_bdS hF
        refine zs_calliP S hA (zs_runS C hK hA S [.int (Pr 0 1)] [] [] 1 (c_J6_bitCount_0f7a4 l G ((Pr 0 1)) s.heap.size r6 f7) gX7_count_J6_bitCount_0f7a4 rfl rfl rfl zd_J6_bitCount_0f7a4 ⟨Nat.le_of_ble_eq_true rfl, Nat.le_of_ble_eq_true rfl⟩ rfl rfl rfl hl rfl (Nat.le_of_ble_eq_true rfl) dX7_count_67 ⟨Nat.le_of_ble_eq_true rfl, Nat.le_of_ble_eq_true rfl⟩) (fun H locs S => ?_)
        have e8 := zs_s1 hF
        exact zs_iretE C S e8 rfl dX7_count_70
      · have hF := zs_f hF c5
        by_cases c9 : u1 = (3 : Int32)
        · have hF := zs_t hF c9
          refine lv_tableIn (off := 70) (tgt := 71) hx hb dX7_count_1 (by rw [c9]; decide) (by rw [c9]; decide) (by rw [c9]; rfl) (by decide) ?_
          refine lv_aload_n hx hb dX7_count_71 rfl (lv_at hl 0 rfl) ?_
          refine zs_get C hK S 0 2 (Cn := RX7) (T := TX7) (N := 10) (ci := 7) rfl rfl (by decide) zn_X7_count_X7 (List.mem_of_getElem? (i := 4) rfl) rfl dX7_count_72 ?_
          refine zs_get C hK S 4 2 (Cn := RX1) (T := TX1) (N := 8) (ci := 1) rfl rfl (by decide) zn_X7_count_X1 (List.mem_of_getElem? (i := 6) rfl) rfl dX7_count_75 ?_
          obtain ⟨r10, f11, hF⟩ := zs_bdS hF
          refine zs_calliP S hA (zs_runS C hK hA S [.int (Pr 0 2)] [] [] 1 (c_J6_bitCount_0f7a4 l G ((Pr 0 2)) s.heap.size r10 f11) gX7_count_J6_bitCount_0f7a4 rfl rfl rfl zd_J6_bitCount_0f7a4 ⟨Nat.le_of_ble_eq_true rfl, Nat.le_of_ble_eq_true rfl⟩ rfl rfl rfl hl rfl (Nat.le_of_ble_eq_true rfl) dX7_count_78 ⟨Nat.le_of_ble_eq_true rfl, Nat.le_of_ble_eq_true rfl⟩) (fun H locs S => ?_)
          have e12 := zs_s1 hF
          exact zs_iretE C S e12 rfl dX7_count_81
        · have hF := zs_f hF c9
          by_cases c13 : u1 = (4 : Int32)
          · have hF := zs_t hF c13
            refine lv_tableIn (off := 81) (tgt := 82) hx hb dX7_count_1 (by rw [c13]; decide) (by rw [c13]; decide) (by rw [c13]; rfl) (by decide) ?_
            refine lv_aload_n hx hb dX7_count_82 rfl (lv_at hl 0 rfl) ?_
            refine zs_get C hK S 0 3 (Cn := RX7) (T := TX7) (N := 10) (ci := 7) rfl rfl (by decide) zn_X7_count_X7 (List.mem_of_getElem? (i := 7) rfl) rfl dX7_count_83 ?_
            refine zs_get C hK S 8 0 (Cn := RX3) (T := TX3) (N := 4) (ci := 3) rfl rfl (by decide) zn_X7_count_X3 (List.mem_of_getElem? (i := 8) rfl) rfl dX7_count_86 ?_
            have e14 := zs_s1 hF
            exact zs_iretE C S e14 rfl dX7_count_89
          · have hF := zs_f hF c13
            by_cases c15 : u1 = (5 : Int32)
            · have hF := zs_t hF c15
              refine lv_tableIn (off := 89) (tgt := 90) hx hb dX7_count_1 (by rw [c15]; decide) (by rw [c15]; decide) (by rw [c15]; rfl) (by decide) ?_
              refine lv_aload_n hx hb dX7_count_90 rfl (lv_at hl 0 rfl) ?_
              refine zs_get C hK S 0 2 (Cn := RX7) (T := TX7) (N := 10) (ci := 7) rfl rfl (by decide) zn_X7_count_X7 (List.mem_of_getElem? (i := 4) rfl) rfl dX7_count_91 ?_
              refine zs_get C hK S 4 4 (Cn := RX1) (T := TX1) (N := 8) (ci := 1) rfl rfl (by decide) zn_X7_count_X1 (List.mem_of_getElem? (i := 9) rfl) rfl dX7_count_94 ?_
              have e16 := zs_s1 hF
              exact zs_iretE C S e16 rfl dX7_count_97
            · have hF := zs_f hF c15
              by_cases c17 : u1 = (6 : Int32)
              · have hF := zs_t hF c17
                refine lv_tableIn (off := 97) (tgt := 98) hx hb dX7_count_1 (by rw [c17]; decide) (by rw [c17]; decide) (by rw [c17]; rfl) (by decide) ?_
                refine lv_aload_n hx hb dX7_count_98 rfl (lv_at hl 0 rfl) ?_
                refine zs_get C hK S 0 0 (Cn := RX7) (T := TX7) (N := 10) (ci := 7) rfl rfl (by decide) zn_X7_count_X7 (List.mem_of_getElem? (i := 10) rfl) rfl dX7_count_99 ?_
                refine zs_get C hK S 2 1 (Cn := RX4) (T := TX4) (N := 2) (ci := 4) rfl rfl (by decide) zn_X7_count_X4 (List.mem_of_getElem? (i := 11) rfl) rfl dX7_count_102 ?_
                have e18 := zs_s1 hF
                exact zs_iretE C S e18 rfl dX7_count_105
              · have hF := zs_f hF c17
                refine lv_tableOut (tgt := 106) hx hb dX7_count_1 (zs_sw7 c1 c3 c5 c9 c13 c15 c17) (by decide) ?_
                refine lv_iconst (v := (-1 : Int32)) hx hb dX7_count_106 (by decide) ?_
                have e19 := zs_s1 hF
                exact zs_iretE C S e19 rfl dX7_count_107

abbrev RMX7_trace : Room := { frames := 0, cells := 0, slots := 0, locals := 0 }
theorem zn_X7_trace_X7 : ∀ w ∈ wsX70, w ∈ wsX7_trace := zs_inl wsX70 [2, 3, 4, 5, 6, 7, 8, 9, 10, 11] (by decide +kernel)
set_option maxRecDepth 100000 in
set_option maxHeartbeats 4000000 in
theorem c_X7_trace (l : Launch) (G : GG) (aXm aTx aRd aPr aSg aAh aIm0 aIm1 aYt aYr : Ad) (Xm : Ob) (tr : Int64) (sz : Nat) (rr : Int64) (hF : F_X7_trace tr = some rr) : Met l yX7_trace wsX7_trace RMX7_trace (va_Pc [.ref (aXm 0)] (zs_pre G (wX7 G aXm aTx aRd aPr aSg aAh aIm0 aIm1 aYt aYr Xm tr) sz)) (zs_Ql G (wX7 G aXm aTx aRd aPr aSg aAh aIm0 aIm1 aYt aYr Xm tr) rr (va_A (wX7 G aXm aTx aRd aPr aSg aAh aIm0 aIm1 aYt aYr Xm tr) sz)) 0 0 (va_A (wX7 G aXm aTx aRd aPr aSg aAh aIm0 aIm1 aYt aYr Xm tr) sz) := by
  refine zs_met (cc := cX7_trace) (maxL := 1) (ret := (some .long)) (own := RX7) (Qc := zs_Ql G (wX7 G aXm aTx aRd aPr aSg aAh aIm0 aIm1 aYt aYr Xm tr) rr) (by decide) rfl rfl (Nat.le_of_ble_eq_true rfl) ?_
  intro p e s m args below meth c C A hK hA S _ _ ls hl
  have hl : lv_has ls 1 [(0, .ref (aXm 0))] := hl
  have hx := C.1.1
  have hb := C.1.2.1
  unfold F_X7_trace at hF
  refine lv_aload_n hx hb dX7_trace_0 rfl (lv_at hl 0 rfl) ?_
  refine zs_get C hK S 0 9 (Cn := RX7) (T := TX7) (N := 10) (ci := 7) rfl rfl (by decide) zn_X7_trace_X7 (List.mem_of_getElem? (i := 1) rfl) rfl dX7_trace_1 ?_
  have e1 := zs_s1 hF
  exact zs_lretE C S e1 rfl dX7_trace_4

