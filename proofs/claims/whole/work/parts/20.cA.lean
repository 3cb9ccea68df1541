abbrev RMJ6_bitCount_0f7a4 : Room := { frames := 0, cells := 0, slots := 0, locals := 0 }
set_option maxRecDepth 100000 in
set_option maxHeartbeats 4000000 in
theorem c_J6_bitCount_0f7a4 (l : Launch) (G : GG) (u1 : Int32) (sz : Nat) (rr : Int32) (hF : F_J6_bitCount_0f7a4 u1 = some rr) : Met l yJ6_bitCount_0f7a4 wsJ6_bitCount_0f7a4 RMJ6_bitCount_0f7a4 (va_Pc [.int u1] (zs_pre G (([] : va_W)) sz)) (zs_Qi G (([] : va_W)) rr (va_A (([] : va_W)) sz)) 0 0 (va_A (([] : va_W)) sz) := by
  refine zs_met (cc := cJ6_bitCount_0f7a4) (maxL := 1) (ret := (some .int)) (own := RJ6) (Qc := zs_Qi G (([] : va_W)) rr) (by decide) rfl rfl (Nat.le_of_ble_eq_true rfl) ?_
  intro p e s m args below meth c C A hK hA S _ _ ls hl
  have hl : lv_has ls 1 [(0, .int u1)] := hl
  have hx := C.1.1
  have hb := C.1.2.1
  unfold F_J6_bitCount_0f7a4 at hF
  refine lv_iload_n hx hb dJ6_bitCount_0f7a4_0 rfl (lv_at hl 0 rfl) ?_
  refine lv_iload_n hx hb dJ6_bitCount_0f7a4_1 rfl (lv_at hl 0 rfl) ?_
  refine lv_iconst (v := (1 : Int32)) hx hb dJ6_bitCount_0f7a4_2 (by decide) ?_
  refine lv_iushr (v := (((u1).toUInt32 >>> (((1 : Int32)).toUInt32 &&& Int32.toUInt32 31)).toInt32)) hx hb dJ6_bitCount_0f7a4_3 rfl ?_
  refine lv_ldcw (v := (1431655765 : Int32)) hx hb C.1.2.2.2.1 (C.1.2.2.2.2 (.constant RJ6 265 (1431655765 : Int32)) (List.mem_of_getElem? (i := 1) rfl)) dJ6_bitCount_0f7a4_4 ?_
  refine lv_iand hx hb dJ6_bitCount_0f7a4_7 ?_
  refine lv_isub hx hb dJ6_bitCount_0f7a4_8 ?_
  refine lv_topi (fun z1 e2 => ?_)
  have hF := zs_letS hF e2
  refine lv_istore_n (lv' := [(0, .int z1)]) hx hb dJ6_bitCount_0f7a4_9 rfl hl (by decide) rfl (fun ls hl => ?_)
  refine lv_iload_n hx hb dJ6_bitCount_0f7a4_10 rfl (lv_at hl 0 rfl) ?_
  refine lv_ldcw (v := (858993459 : Int32)) hx hb C.1.2.2.2.1 (C.1.2.2.2.2 (.constant RJ6 266 (858993459 : Int32)) (List.mem_of_getElem? (i := 2) rfl)) dJ6_bitCount_0f7a4_11 ?_
  refine lv_iand hx hb dJ6_bitCount_0f7a4_14 ?_
  refine lv_iload_n hx hb dJ6_bitCount_0f7a4_15 rfl (lv_at hl 0 rfl) ?_
  refine lv_iconst (v := (2 : Int32)) hx hb dJ6_bitCount_0f7a4_16 (by decide) ?_
  refine lv_iushr (v := (((z1).toUInt32 >>> (((2 : Int32)).toUInt32 &&& Int32.toUInt32 31)).toInt32)) hx hb dJ6_bitCount_0f7a4_17 rfl ?_
  refine lv_ldcw (v := (858993459 : Int32)) hx hb C.1.2.2.2.1 (C.1.2.2.2.2 (.constant RJ6 266 (858993459 : Int32)) (List.mem_of_getElem? (i := 2) rfl)) dJ6_bitCount_0f7a4_18 ?_
  refine lv_iand hx hb dJ6_bitCount_0f7a4_21 ?_
  refine lv_iadd hx hb dJ6_bitCount_0f7a4_22 ?_
  refine lv_topi (fun z3 e4 => ?_)
  have hF := zs_letS hF e4
  refine lv_istore_n (lv' := [(0, .int z3)]) hx hb dJ6_bitCount_0f7a4_23 rfl hl (by decide) rfl (fun ls hl => ?_)
  refine lv_iload_n hx hb dJ6_bitCount_0f7a4_24 rfl (lv_at hl 0 rfl) ?_
  refine lv_iload_n hx hb dJ6_bitCount_0f7a4_25 rfl (lv_at hl 0 rfl) ?_
  refine lv_iconst (v := (4 : Int32)) hx hb dJ6_bitCount_0f7a4_26 (by decide) ?_
  refine lv_iushr (v := (((z3).toUInt32 >>> (((4 : Int32)).toUInt32 &&& Int32.toUInt32 31)).toInt32)) hx hb dJ6_bitCount_0f7a4_27 rfl ?_
  refine lv_iadd hx hb dJ6_bitCount_0f7a4_28 ?_
  refine lv_ldcw (v := (252645135 : Int32)) hx hb C.1.2.2.2.1 (C.1.2.2.2.2 (.constant RJ6 267 (252645135 : Int32)) (List.mem_of_getElem? (i := 3) rfl)) dJ6_bitCount_0f7a4_29 ?_
  refine lv_iand hx hb dJ6_bitCount_0f7a4_32 ?_
  refine lv_topi (fun z5 e6 => ?_)
  have hF := zs_letS hF e6
  refine lv_istore_n (lv' := [(0, .int z5)]) hx hb dJ6_bitCount_0f7a4_33 rfl hl (by decide) rfl (fun ls hl => ?_)
  refine lv_iload_n hx hb dJ6_bitCount_0f7a4_34 rfl (lv_at hl 0 rfl) ?_
  refine lv_iload_n hx hb dJ6_bitCount_0f7a4_35 rfl (lv_at hl 0 rfl) ?_
  refine lv_bipush (v := (8 : Int32)) hx hb dJ6_bitCount_0f7a4_36 (by decide) ?_
  refine lv_iushr (v := (((z5).toUInt32 >>> (((8 : Int32)).toUInt32 &&& Int32.toUInt32 31)).toInt32)) hx hb dJ6_bitCount_0f7a4_38 rfl ?_
  refine lv_iadd hx hb dJ6_bitCount_0f7a4_39 ?_
  refine lv_topi (fun z7 e8 => ?_)
  have hF := zs_letS hF e8
  refine lv_istore_n (lv' := [(0, .int z7)]) hx hb dJ6_bitCount_0f7a4_40 rfl hl (by decide) rfl (fun ls hl => ?_)
  refine lv_iload_n hx hb dJ6_bitCount_0f7a4_41 rfl (lv_at hl 0 rfl) ?_
  refine lv_iload_n hx hb dJ6_bitCount_0f7a4_42 rfl (lv_at hl 0 rfl) ?_
  refine lv_bipush (v := (16 : Int32)) hx hb dJ6_bitCount_0f7a4_43 (by decide) ?_
  refine lv_iushr (v := (((z7).toUInt32 >>> (((16 : Int32)).toUInt32 &&& Int32.toUInt32 31)).toInt32)) hx hb dJ6_bitCount_0f7a4_45 rfl ?_
  refine lv_iadd hx hb dJ6_bitCount_0f7a4_46 ?_
  refine lv_topi (fun z9 e10 => ?_)
  have hF := zs_letS hF e10
  refine lv_istore_n (lv' := [(0, .int z9)]) hx hb dJ6_bitCount_0f7a4_47 rfl hl (by decide) rfl (fun ls hl => ?_)
  refine lv_iload_n hx hb dJ6_bitCount_0f7a4_48 rfl (lv_at hl 0 rfl) ?_
  refine lv_bipush (v := (63 : Int32)) hx hb dJ6_bitCount_0f7a4_49 (by decide) ?_
  refine lv_iand hx hb dJ6_bitCount_0f7a4_51 ?_
  have e11 := zs_s1 hF
  exact zs_iretE C S e11 rfl dJ6_bitCount_0f7a4_52

abbrev RMX7_bit : Room := { frames := 0, cells := 0, slots := 0, locals := 0 }
set_option maxRecDepth 100000 in
set_option maxHeartbeats 4000000 in
theorem c_X7_bit (l : Launch) (G : GG) (u1 : Int32) (u2 : Int32) (sz : Nat) (rr : Int32) (hF : F_X7_bit u1 u2 = some rr) : Met l yX7_bit wsX7_bit RMX7_bit (va_Pc [.int u1, .int u2] (zs_pre G (([] : va_W)) sz)) (zs_Qi G (([] : va_W)) rr (va_A (([] : va_W)) sz)) 0 0 (va_A (([] : va_W)) sz) := by
  refine zs_met (cc := cX7_bit) (maxL := 2) (ret := (some .int)) (own := RX7) (Qc := zs_Qi G (([] : va_W)) rr) (by decide) rfl rfl (Nat.le_of_ble_eq_true rfl) ?_
  intro p e s m args below meth c C A hK hA S _ _ ls hl
  have hl : lv_has ls 2 [(0, .int u1), (1, .int u2)] := hl
  have hx := C.1.1
  have hb := C.1.2.1
  unfold F_X7_bit at hF
  refine lv_iload_n hx hb dX7_bit_0 rfl (lv_at hl 0 rfl) ?_
  refine lv_iload_n hx hb dX7_bit_1 rfl (lv_at hl 1 rfl) ?_
  refine lv_ishr hx hb dX7_bit_2 ?_
  refine lv_iconst (v := (1 : Int32)) hx hb dX7_bit_3 (by decide) ?_
  refine lv_iand hx hb dX7_bit_4 ?_
  have e1 := zs_s1 hF
  exact zs_iretE C S e1 rfl dX7_bit_5

abbrev RMX7_isImage : Room := { frames := 0, cells := 0, slots := 0, locals := 0 }
set_option maxRecDepth 100000 in
set_option maxHeartbeats 4000000 in
theorem c_X7_isImage (l : Launch) (G : GG) (u1 : Int32) (sz : Nat) (rr : Int32) (hF : F_X7_isImage u1 = some rr) : Met l yX7_isImage wsX7_isImage RMX7_isImage (va_Pc [.int u1] (zs_pre G (([] : va_W)) sz)) (zs_Qi G (([] : va_W)) rr (va_A (([] : va_W)) sz)) 0 0 (va_A (([] : va_W)) sz) := by
  refine zs_met (cc := cX7_isImage) (maxL := 1) (ret := (some .boolean)) (own := RX7) (Qc := zs_Qi G (([] : va_W)) rr) (by decide) rfl rfl (Nat.le_of_ble_eq_true rfl) ?_
  intro p e s m args below meth c C A hK hA S _ _ ls hl
  have hl : lv_has ls 1 [(0, .int u1)] := hl
  have hx := C.1.1
  have hb := C.1.2.1
  unfold F_X7_isImage at hF
  refine lv_iload_n hx hb dX7_isImage_0 rfl (lv_at hl 0 rfl) ?_
  refine lv_if_lt (tgt := 13) hx hb dX7_isImage_1 (by decide) (fun c1 => ?_) (fun c1 => ?_)
  · have hF := zs_t hF c1
    refine lv_iconst (v := (0 : Int32)) hx hb dX7_isImage_13 (by decide) ?_
    have e2 := zs_s1 hF
    exact zs_zretE C S rfl e2 rfl dX7_isImage_14
  · have hF := zs_f hF c1
    refine lv_iload_n hx hb dX7_isImage_4 rfl (lv_at hl 0 rfl) ?_
    refine lv_iconst (v := (2 : Int32)) hx hb dX7_isImage_5 (by decide) ?_
    refine lv_icmp_ge (tgt := 13) hx hb dX7_isImage_6 (by decide) (fun c3 => ?_) (fun c3 => ?_)
    · have hF := zs_t hF c3
      refine lv_iconst (v := (0 : Int32)) hx hb dX7_isImage_13 (by decide) ?_
      have e4 := zs_s1 hF
      exact zs_zretE C S rfl e4 rfl dX7_isImage_14
    · have hF := zs_f hF c3
      refine lv_iconst (v := (1 : Int32)) hx hb dX7_isImage_9 (by decide) ?_
      refine lv_goto (tgt := 14) hx hb dX7_isImage_10 (by decide) ?_
      have e5 := zs_s1 hF
      exact zs_zretE C S rfl e5 rfl dX7_isImage_14

abbrev RMX7_isBit : Room := { frames := 0, cells := 0, slots := 0, locals := 0 }
set_option maxRecDepth 100000 in
set_option maxHeartbeats 4000000 in
theorem c_X7_isBit (l : Launch) (G : GG) (u1 : Int32) (sz : Nat) (rr : Int32) (hF : F_X7_isBit u1 = some rr) : Met l yX7_isBit wsX7_isBit RMX7_isBit (va_Pc [.int u1] (zs_pre G (([] : va_W)) sz)) (zs_Qi G (([] : va_W)) rr (va_A (([] : va_W)) sz)) 0 0 (va_A (([] : va_W)) sz) := by
  refine zs_met (cc := cX7_isBit) (maxL := 1) (ret := (some .boolean)) (own := RX7) (Qc := zs_Qi G (([] : va_W)) rr) (by decide) rfl rfl (Nat.le_of_ble_eq_true rfl) ?_
  intro p e s m args below meth c C A hK hA S _ _ ls hl
  have hl : lv_has ls 1 [(0, .int u1)] := hl
  have hx := C.1.1
  have hb := C.1.2.1
  unfold F_X7_isBit at hF
  have j9 : ∀  (H : Heap) (locs : List Loc) (ls : Array Slot), zs_S G A s.heap H locs (([] : va_W)) → lv_has ls 1 [] → F_X7_isBit_9 = some rr → W p l e RMX7_isBit s m args below meth c H locs 0 0 (MQ below (zs_Qi G (([] : va_W)) rr A) args s 0 0 A) (F0 m 9 ls []) := by
    intro  H locs ls S hl hF
    unfold F_X7_isBit_9 at hF
    refine lv_iconst (v := (1 : Int32)) hx hb dX7_isBit_9 (by decide) ?_
    refine lv_goto (tgt := 14) hx hb dX7_isBit_10 (by decide) ?_
    have e1 := zs_s1 hF
    exact zs_zretE C S rfl e1 rfl dX7_isBit_14
  refine lv_iload_n hx hb dX7_isBit_0 rfl (lv_at hl 0 rfl) ?_
  refine lv_if_eq (tgt := 9) hx hb dX7_isBit_1 (by decide) (fun c2 => ?_) (fun c2 => ?_)
  · have hF := zs_t hF c2
    exact j9  _ _ _ S (lv_sub hl [] rfl) hF
  · have hF := zs_f hF c2
    refine lv_iload_n hx hb dX7_isBit_4 rfl (lv_at hl 0 rfl) ?_
    refine lv_iconst (v := (1 : Int32)) hx hb dX7_isBit_5 (by decide) ?_
    refine lv_icmp_ne (tgt := 13) hx hb dX7_isBit_6 (by decide) (fun c3 => ?_) (fun c3 => ?_)
    · have hF := zs_f hF c3
      refine lv_iconst (v := (0 : Int32)) hx hb dX7_isBit_13 (by decide) ?_
      have e4 := zs_s1 hF
      exact zs_zretE C S rfl e4 rfl dX7_isBit_14
    · have hF := zs_t hF c3
      exact j9  _ _ _ S (lv_sub hl [] rfl) hF

abbrev RMX7_isWithin : Room := { frames := 0, cells := 0, slots := 0, locals := 0 }
set_option maxRecDepth 100000 in
set_option maxHeartbeats 4000000 in
theorem c_X7_isWithin (l : Launch) (G : GG) (u1 : Int32) (u2 : Int32) (sz : Nat) (rr : Int32) (hF : F_X7_isWithin u1 u2 = some rr) : Met l yX7_isWithin wsX7_isWithin RMX7_isWithin (va_Pc [.int u1, .int u2] (zs_pre G (([] : va_W)) sz)) (zs_Qi G (([] : va_W)) rr (va_A (([] : va_W)) sz)) 0 0 (va_A (([] : va_W)) sz) := by
  refine zs_met (cc := cX7_isWithin) (maxL := 2) (ret := (some .boolean)) (own := RX7) (Qc := zs_Qi G (([] : va_W)) rr) (by decide) rfl rfl (Nat.le_of_ble_eq_true rfl) ?_
  intro p e s m args below meth c C A hK hA S _ _ ls hl
  have hl : lv_has ls 2 [(0, .int u1), (1, .int u2)] := hl
  have hx := C.1.1
  have hb := C.1.2.1
  unfold F_X7_isWithin at hF
  refine lv_iload_n hx hb dX7_isWithin_0 rfl (lv_at hl 0 rfl) ?_
  refine lv_if_lt (tgt := 13) hx hb dX7_isWithin_1 (by decide) (fun c1 => ?_) (fun c1 => ?_)
  · have hF := zs_t hF c1
    refine lv_iconst (v := (0 : Int32)) hx hb dX7_isWithin_13 (by decide) ?_
    have e2 := zs_s1 hF
    exact zs_zretE C S rfl e2 rfl dX7_isWithin_14
  · have hF := zs_f hF c1
    refine lv_iload_n hx hb dX7_isWithin_4 rfl (lv_at hl 0 rfl) ?_
    refine lv_iload_n hx hb dX7_isWithin_5 rfl (lv_at hl 1 rfl) ?_
    refine lv_icmp_gt (tgt := 13) hx hb dX7_isWithin_6 (by decide) (fun c3 => ?_) (fun c3 => ?_)
    · have hF := zs_t hF c3
      refine lv_iconst (v := (0 : Int32)) hx hb dX7_isWithin_13 (by decide) ?_
      have e4 := zs_s1 hF
      exact zs_zretE C S rfl e4 rfl dX7_isWithin_14
    · have hF := zs_f hF c3
      refine lv_iconst (v := (1 : Int32)) hx hb dX7_isWithin_9 (by decide) ?_
      refine lv_goto (tgt := 14) hx hb dX7_isWithin_10 (by decide) ?_
      have e5 := zs_s1 hF
      exact zs_zretE C S rfl e5 rfl dX7_isWithin_14

theorem zd_X7_bit : yX7_bit.cls ≠ "java/lang/invoke/MethodHandle" ∧ yX7_bit.cls ≠ "java/lang/invoke/VarHandle" ∧ (parseMethodDescriptor yX7_bit.desc).map (fun d => d.parameters.length) = some 2 := by decide +kernel
abbrev RMX7_leastOf : Room := { frames := 1, cells := 0, slots := 0, locals := 21 }
set_option maxRecDepth 100000 in
set_option maxHeartbeats 4000000 in
theorem c_X7_leastOf (l : Launch) (G : GG) (u1 : Int32) (sz : Nat) (rr : Int32) (hF : F_X7_leastOf u1 = some rr) : Met l yX7_leastOf wsX7_leastOf RMX7_leastOf (va_Pc [.int u1] (zs_pre G (([] : va_W)) sz)) (zs_Qi G (([] : va_W)) rr (va_A (([] : va_W)) sz)) 0 0 (va_A (([] : va_W)) sz) := by
  refine zs_met (cc := cX7_leastOf) (maxL := 2) (ret := (some .int)) (own := RX7) (Qc := zs_Qi G (([] : va_W)) rr) (by decide) rfl rfl (Nat.le_of_ble_eq_true rfl) ?_
  intro p e s m args below meth c C A hK hA S _ _ ls hl
  have hl : lv_has ls 2 [(0, .int u1)] := hl
  have hx := C.1.1
  have hb := C.1.2.1
  unfold F_X7_leastOf at hF
  have j2 : ∀ (n2 : Nat) (x0 : Int32) (x1 : Int32) (H : Heap) (locs : List Loc) (ls : Array Slot), zs_S G A s.heap H locs (([] : va_W)) → lv_has ls 2 [(0, .int x0), (1, .int x1)] → F_X7_leastOf_2 n2 x0 x1 = some rr → W p l e RMX7_leastOf s m args below meth c H locs 0 0 (MQ below (zs_Qi G (([] : va_W)) rr A) args s 0 0 A) (F0 m 2 ls []) := by
    intro n2
    induction n2 with
    | zero => intro x0 x1 H locs ls _ _ hF; rw [F_X7_leastOf_2_z] at hF; cases hF
    | succ n2 ih2 =>
      intro x0 x1 H locs ls S hl hF
      rw [F_X7_leastOf_2_n] at hF
      unfold F_X7_leastOf_2_s at hF
      refine lv_iload_n hx hb dX7_leastOf_2 rfl (lv_at hl 1 rfl) ?_
      refine lv_bipush (v := (6 : Int32)) hx hb dX7_leastOf_3 (by decide) ?_
      refine lv_icmp_ge (tgt := 25) hx hb dX7_leastOf_5 (by decide) (fun c1 => ?_) (fun c1 => ?_)
      · have hF := zs_t hF c1
        refine lv_bipush (v := (-9 : Int32)) hx hb dX7_leastOf_25 (by decide) ?_
        have e2 := zs_s1 hF
        exact zs_iretE C S e2 rfl dX7_leastOf_27
      · have hF := zs_f hF c1
        refine lv_iload_n hx hb dX7_leastOf_8 rfl (lv_at hl 0 rfl) ?_
        refine lv_iload_n hx hb dX7_leastOf_9 rfl (lv_at hl 1 rfl) ?_
        obtain ⟨r3, f4, hF⟩ := zs_bdS hF
        refine zs_calliP S hA (zs_runS C hK hA S [.int x0, .int x1] [] [] 2 (c_X7_bit l G x0 x1 H.size r3 f4) gX7_leastOf_X7_bit rfl rfl rfl zd_X7_bit ⟨Nat.le_of_ble_eq_true rfl, Nat.le_of_ble_eq_true rfl⟩ rfl rfl rfl hl rfl (Nat.le_of_ble_eq_true rfl) dX7_leastOf_10 ⟨Nat.le_of_ble_eq_true rfl, Nat.le_of_ble_eq_true rfl⟩) (fun H locs S => ?_)
        refine lv_iconst (v := (1 : Int32)) hx hb dX7_leastOf_13 (by decide) ?_
        refine lv_icmp_ne (tgt := 19) hx hb dX7_leastOf_14 (by decide) (fun c5 => ?_) (fun c5 => ?_)
        · have hF := zs_f hF c5
          obtain ⟨z6, e7⟩ : ∃ q : Int32, q = x1 + (1 : Int32) := ⟨_, rfl⟩
          have hF := zs_letS hF e7
          refine lv_iinc (v := z6) (lv' := [(1, .int z6), (0, .int x0)]) hx hb dX7_leastOf_19 hl (k := 1) rfl (by rw [e7]; rfl) (by decide) rfl (fun ls hl => ?_)
          refine lv_goto (tgt := 2) hx hb dX7_leastOf_22 (by decide) ?_
          exact ih2 x0 z6 _ _ _ S (lv_sub hl [1, 0] rfl) hF
        · have hF := zs_t hF c5
          refine lv_iload_n hx hb dX7_leastOf_17 rfl (lv_at hl 1 rfl) ?_
          have e8 := zs_s1 hF
          exact zs_iretE C S e8 rfl dX7_leastOf_18
  refine lv_iconst (v := (0 : Int32)) hx hb dX7_leastOf_0 (by decide) ?_
  refine lv_istore_n (lv' := [(1, .int (0 : Int32)), (0, .int u1)]) hx hb dX7_leastOf_1 rfl hl (by decide) rfl (fun ls hl => ?_)
  exact j2 1000 u1 (0 : Int32) _ _ _ S (lv_sub hl [1, 0] rfl) hF

abbrev RMX6_setLimit : Room := { frames := 0, cells := 0, slots := 0, locals := 0 }
theorem zn_X6_setLimit_X6 : ∀ w ∈ wsX60, w ∈ wsX6_setLimit := zs_inl wsX60 [2, 3, 4, 5, 6, 7, 8, 9, 10] (by decide +kernel)
set_option maxRecDepth 100000 in
set_option maxHeartbeats 4000000 in
theorem c_X6_setLimit (l : Launch) (G : GG) (aYd : Ad) (Yd : Ob) (u1 : Int32) (sz : Nat) (Yd_ : Ob) (hF : F_X6_setLimit Yd u1 = some Yd_) : Met l yX6_setLimit wsX6_setLimit RMX6_setLimit (va_Pc [.ref (aYd 0), .int u1] (zs_pre G (wX6 G aYd Yd) sz)) (zs_Qv G (wX6 G aYd Yd_) (va_A (wX6 G aYd Yd) sz)) 0 0 (va_A (wX6 G aYd Yd) sz) := by
  refine zs_met (cc := cX6_setLimit) (maxL := 2) (ret := none) (own := RX6) (Qc := zs_Qv G (wX6 G aYd Yd_)) (by decide) rfl rfl (Nat.le_of_ble_eq_true rfl) ?_
  intro p e s m args below meth c C A hK hA S _ _ ls hl
  have hl : lv_has ls 2 [(0, .ref (aYd 0)), (1, .int u1)] := hl
  have hx := C.1.1
  have hb := C.1.2.1
  unfold F_X6_setLimit at hF
  refine lv_aload_n hx hb dX6_setLimit_0 rfl (lv_at hl 0 rfl) ?_
  refine lv_bipush (v := (10 : Int32)) hx hb dX6_setLimit_1 (by decide) ?_
  refine lv_iload_n hx hb dX6_setLimit_3 rfl (lv_at hl 1 rfl) ?_
  refine lv_imul hx hb dX6_setLimit_4 ?_
  refine lv_bipush (v := (9 : Int32)) hx hb dX6_setLimit_5 (by decide) ?_
  refine lv_iadd hx hb dX6_setLimit_7 ?_
  obtain ⟨Ydw1, e2⟩ : ∃ q : Ob, q = zs_up Yd 0 1 (((10 : Int32) * u1) + (9 : Int32)) := ⟨_, rfl⟩
  have hF := zs_letS hF e2
  refine zs_put C hK S 0 1 (ws' := wX6 G aYd Ydw1) (Cn := RX6) (T := TX6) (N := 9) (ci := 6) rfl rfl (by decide) zn_X6_setLimit_X6 tyX6_ok nmX6 (List.mem_of_getElem? (i := 1) rfl) rfl rfl rfl (Nat.le_of_ble_eq_true rfl) (by rw [e2]; rfl) dX6_setLimit_8 (fun H locs S => ?_)
  have e3 := zs_s1 hF
  exact zs_vretE C S (by rw [e3]) dX6_setLimit_11

theorem zd_X6_setLimit : yX6_setLimit.cls = RX6 ∧ yX6_setLimit.cls ≠ "java/lang/invoke/MethodHandle" ∧ yX6_setLimit.cls ≠ "java/lang/invoke/VarHandle" ∧ (parseMethodDescriptor yX6_setLimit.desc).map (fun d => d.parameters.length) = some 1 := by decide +kernel
abbrev RMX6_makeEmpty : Room := { frames := 1, cells := 0, slots := 0, locals := 21 }
theorem zn_X6_makeEmpty_X6 : ∀ w ∈ wsX60, w ∈ wsX6_makeEmpty := zs_inl wsX60 [15, 16, 17, 18, 19, 20, 21, 22, 23] (by decide +kernel)
set_option maxRecDepth 100000 in
set_option maxHeartbeats 4000000 in
theorem c_X6_makeEmpty (l : Launch) (G : GG) (aYd : Ad) (Yd : Ob) (sz : Nat) (Yd_ : Ob) (hF : F_X6_makeEmpty Yd = some Yd_) : Met l yX6_makeEmpty wsX6_makeEmpty RMX6_makeEmpty (va_Pc [.ref (aYd 0)] (zs_pre G (wX6 G aYd Yd) sz)) (zs_Qv G (wX6 G aYd Yd_) (va_A (wX6 G aYd Yd) sz)) 0 0 (va_A (wX6 G aYd Yd) sz) := by
  refine zs_met (cc := cX6_makeEmpty) (maxL := 2) (ret := none) (own := RX6) (Qc := zs_Qv G (wX6 G aYd Yd_)) (by decide) rfl rfl (Nat.le_of_ble_eq_true rfl) ?_
  intro p e s m args below meth c C A hK hA S _ _ ls hl
  have hl : lv_has ls 2 [(0, .ref (aYd 0))] := hl
  have hx := C.1.1
  have hb := C.1.2.1
  unfold F_X6_makeEmpty at hF
  have j69 : ∀ (n69 : Nat) (Yd : Ob) (x1 : Int32) (H : Heap) (locs : List Loc) (ls : Array Slot), zs_S G A s.heap H locs (wX6 G aYd Yd) → lv_has ls 2 [(0, .ref (aYd 0)), (1, .int x1)] → F_X6_makeEmpty_69 n69 Yd x1 = some Yd_ → W p l e RMX6_makeEmpty s m args below meth c H locs 0 0 (MQ below (zs_Qv G (wX6 G aYd Yd_) A) args s 0 0 A) (F0 m 69 ls []) := by
    intro n69
    induction n69 with
    | zero => intro Yd x1 H locs ls _ _ hF; rw [F_X6_makeEmpty_69_z] at hF; cases hF
    | succ n69 ih69 =>
      intro Yd x1 H locs ls S hl hF
      rw [F_X6_makeEmpty_69_n] at hF
      unfold F_X6_makeEmpty_69_s at hF
      refine lv_iload_n hx hb dX6_makeEmpty_69 rfl (lv_at hl 1 rfl) ?_
      refine lv_aload_n hx hb dX6_makeEmpty_70 rfl (lv_at hl 0 rfl) ?_
      refine zs_get C hK S 0 6 (Cn := RX6) (T := TX6) (N := 9) (ci := 6) rfl rfl (by decide) zn_X6_makeEmpty_X6 (List.mem_of_getElem? (i := 8) rfl) rfl dX6_makeEmpty_71 ?_
      refine zs_alen C hK S 5 rfl (v := (36 : Int32)) rfl dX6_makeEmpty_74 ?_
      refine lv_icmp_ge (tgt := 91) hx hb dX6_makeEmpty_75 (by decide) (fun c1 => ?_) (fun c1 => ?_)
      · have hF := zs_t hF c1
        have e2 := zs_s1 hF
        exact zs_vretE C S (by rw [e2]) dX6_makeEmpty_91
      · have hF := zs_f hF c1
        refine lv_aload_n hx hb dX6_makeEmpty_78 rfl (lv_at hl 0 rfl) ?_
        refine zs_get C hK S 0 6 (Cn := RX6) (T := TX6) (N := 9) (ci := 6) rfl rfl (by decide) zn_X6_makeEmpty_X6 (List.mem_of_getElem? (i := 8) rfl) rfl dX6_makeEmpty_79 ?_
        refine lv_iload_n hx hb dX6_makeEmpty_82 rfl (lv_at hl 1 rfl) ?_
        refine lv_iconst (v := (0 : Int32)) hx hb dX6_makeEmpty_83 (by decide) ?_
        obtain ⟨h3, hF⟩ := zs_ckS hF
        obtain ⟨Ydw4, e5⟩ : ∃ q : Ob, q = zs_up Yd 5 (x1).toNatClampNeg (0 : Int32) := ⟨_, rfl⟩
        have hF := zs_letS hF e5
        refine zs_iast C hK S 5 (ws' := wX6 G aYd Ydw4) rfl h3 (by rw [e5]; rfl) dX6_makeEmpty_84 (fun H locs S => ?_)
        obtain ⟨z6, e7⟩ : ∃ q : Int32, q = x1 + (1 : Int32) := ⟨_, rfl⟩
        have hF := zs_letS hF e7
        refine lv_iinc (v := z6) (lv' := [(1, .int z6), (0, .ref (aYd 0))]) hx hb dX6_makeEmpty_85 hl (k := 1) rfl (by rw [e7]; rfl) (by decide) rfl (fun ls hl => ?_)
        refine lv_goto (tgt := 69) hx hb dX6_makeEmpty_88 (by decide) ?_
        exact ih69 Ydw4 z6 _ _ _ S (lv_sub hl [1, 0] rfl) hF
  have j67 : ∀ (Yd : Ob) (H : Heap) (locs : List Loc) (ls : Array Slot), zs_S G A s.heap H locs (wX6 G aYd Yd) → lv_has ls 2 [(0, .ref (aYd 0))] → F_X6_makeEmpty_67 Yd = some Yd_ → W p l e RMX6_makeEmpty s m args below meth c H locs 0 0 (MQ below (zs_Qv G (wX6 G aYd Yd_) A) args s 0 0 A) (F0 m 67 ls []) := by
    intro Yd H locs ls S hl hF
    unfold F_X6_makeEmpty_67 at hF
    refine lv_iconst (v := (0 : Int32)) hx hb dX6_makeEmpty_67 (by decide) ?_
    refine lv_istore_n (lv' := [(1, .int (0 : Int32)), (0, .ref (aYd 0))]) hx hb dX6_makeEmpty_68 rfl hl (by decide) rfl (fun ls hl => ?_)
    exact j69 1000 Yd (0 : Int32) _ _ _ S (lv_sub hl [1, 0] rfl) hF
  have j13 : ∀ (n13 : Nat) (Yd : Ob) (x1 : Int32) (H : Heap) (locs : List Loc) (ls : Array Slot), zs_S G A s.heap H locs (wX6 G aYd Yd) → lv_has ls 2 [(0, .ref (aYd 0)), (1, .int x1)] → F_X6_makeEmpty_13 n13 Yd x1 = some Yd_ → W p l e RMX6_makeEmpty s m args below meth c H locs 0 0 (MQ below (zs_Qv G (wX6 G aYd Yd_) A) args s 0 0 A) (F0 m 13 ls []) := by
    intro n13
    induction n13 with
    | zero => intro Yd x1 H locs ls _ _ hF; rw [F_X6_makeEmpty_13_z] at hF; cases hF
    | succ n13 ih13 =>
      intro Yd x1 H locs ls S hl hF
      rw [F_X6_makeEmpty_13_n] at hF
      unfold F_X6_makeEmpty_13_s at hF
      refine lv_iload_n hx hb dX6_makeEmpty_13 rfl (lv_at hl 1 rfl) ?_
      refine lv_bipush (v := (6 : Int32)) hx hb dX6_makeEmpty_14 (by decide) ?_
      refine lv_icmp_ge (tgt := 67) hx hb dX6_makeEmpty_16 (by decide) (fun c8 => ?_) (fun c8 => ?_)
      · have hF := zs_t hF c8
        exact j67 Yd _ _ _ S (lv_sub hl [0] rfl) hF
      · have hF := zs_f hF c8
        refine lv_aload_n hx hb dX6_makeEmpty_19 rfl (lv_at hl 0 rfl) ?_
        refine zs_get C hK S 0 2 (Cn := RX6) (T := TX6) (N := 9) (ci := 6) rfl rfl (by decide) zn_X6_makeEmpty_X6 (List.mem_of_getElem? (i := 2) rfl) rfl dX6_makeEmpty_20 ?_
        refine lv_iload_n hx hb dX6_makeEmpty_23 rfl (lv_at hl 1 rfl) ?_
        refine lv_iconst (v := (0 : Int32)) hx hb dX6_makeEmpty_24 (by decide) ?_
        obtain ⟨h9, hF⟩ := zs_ckS hF
        obtain ⟨Ydw10, e11⟩ : ∃ q : Ob, q = zs_up Yd 1 (x1).toNatClampNeg (0 : Int32) := ⟨_, rfl⟩
        have hF := zs_letS hF e11
        refine zs_iast C hK S 1 (ws' := wX6 G aYd Ydw10) rfl h9 (by rw [e11]; rfl) dX6_makeEmpty_25 (fun H locs S => ?_)
        refine lv_aload_n hx hb dX6_makeEmpty_26 rfl (lv_at hl 0 rfl) ?_
        refine zs_get C hK S 0 3 (Cn := RX6) (T := TX6) (N := 9) (ci := 6) rfl rfl (by decide) zn_X6_makeEmpty_X6 (List.mem_of_getElem? (i := 3) rfl) rfl dX6_makeEmpty_27 ?_
        refine lv_iload_n hx hb dX6_makeEmpty_30 rfl (lv_at hl 1 rfl) ?_
        refine lv_iconst (v := (0 : Int32)) hx hb dX6_makeEmpty_31 (by decide) ?_
        obtain ⟨h12, hF⟩ := zs_ckS hF
        obtain ⟨Ydw13, e14⟩ : ∃ q : Ob, q = zs_up Ydw10 2 (x1).toNatClampNeg (0 : Int32) := ⟨_, rfl⟩
        have hF := zs_letS hF e14
        refine zs_iast C hK S 2 (ws' := wX6 G aYd Ydw13) rfl h12 (by rw [e14]; rfl) dX6_makeEmpty_32 (fun H locs S => ?_)
        refine lv_aload_n hx hb dX6_makeEmpty_33 rfl (lv_at hl 0 rfl) ?_
        refine zs_get C hK S 0 4 (Cn := RX6) (T := TX6) (N := 9) (ci := 6) rfl rfl (by decide) zn_X6_makeEmpty_X6 (List.mem_of_getElem? (i := 4) rfl) rfl dX6_makeEmpty_34 ?_
        refine lv_iload_n hx hb dX6_makeEmpty_37 rfl (lv_at hl 1 rfl) ?_
        refine lv_iconst (v := (0 : Int32)) hx hb dX6_makeEmpty_38 (by decide) ?_
        obtain ⟨h15, hF⟩ := zs_ckS hF
        obtain ⟨Ydw16, e17⟩ : ∃ q : Ob, q = zs_up Ydw13 3 (x1).toNatClampNeg (0 : Int32) := ⟨_, rfl⟩
        have hF := zs_letS hF e17
        refine zs_iast C hK S 3 (ws' := wX6 G aYd Ydw16) rfl h15 (by rw [e17]; rfl) dX6_makeEmpty_39 (fun H locs S => ?_)
        refine lv_aload_n hx hb dX6_makeEmpty_40 rfl (lv_at hl 0 rfl) ?_
        refine zs_get C hK S 0 5 (Cn := RX6) (T := TX6) (N := 9) (ci := 6) rfl rfl (by decide) zn_X6_makeEmpty_X6 (List.mem_of_getElem? (i := 5) rfl) rfl dX6_makeEmpty_41 ?_
        refine lv_iload_n hx hb dX6_makeEmpty_44 rfl (lv_at hl 1 rfl) ?_
        refine lv_iconst (v := (0 : Int32)) hx hb dX6_makeEmpty_45 (by decide) ?_
        obtain ⟨h18, hF⟩ := zs_ckS hF
        obtain ⟨Ydw19, e20⟩ : ∃ q : Ob, q = zs_up Ydw16 4 (x1).toNatClampNeg (0 : Int32) := ⟨_, rfl⟩
        have hF := zs_letS hF e20
        refine zs_iast C hK S 4 (ws' := wX6 G aYd Ydw19) rfl h18 (by rw [e20]; rfl) dX6_makeEmpty_46 (fun H locs S => ?_)
        refine lv_aload_n hx hb dX6_makeEmpty_47 rfl (lv_at hl 0 rfl) ?_
        refine zs_get C hK S 0 7 (Cn := RX6) (T := TX6) (N := 9) (ci := 6) rfl rfl (by decide) zn_X6_makeEmpty_X6 (List.mem_of_getElem? (i := 6) rfl) rfl dX6_makeEmpty_48 ?_
        refine lv_iload_n hx hb dX6_makeEmpty_51 rfl (lv_at hl 1 rfl) ?_
        refine lv_iconst (v := (0 : Int32)) hx hb dX6_makeEmpty_52 (by decide) ?_
        obtain ⟨h21, hF⟩ := zs_ckS hF
        obtain ⟨Ydw22, e23⟩ : ∃ q : Ob, q = zs_up Ydw19 6 (x1).toNatClampNeg (0 : Int32) := ⟨_, rfl⟩
        have hF := zs_letS hF e23
        refine zs_iast C hK S 6 (ws' := wX6 G aYd Ydw22) rfl h21 (by rw [e23]; rfl) dX6_makeEmpty_53 (fun H locs S => ?_)
        refine lv_aload_n hx hb dX6_makeEmpty_54 rfl (lv_at hl 0 rfl) ?_
        refine zs_get C hK S 0 8 (Cn := RX6) (T := TX6) (N := 9) (ci := 6) rfl rfl (by decide) zn_X6_makeEmpty_X6 (List.mem_of_getElem? (i := 7) rfl) rfl dX6_makeEmpty_55 ?_
        refine lv_iload_n hx hb dX6_makeEmpty_58 rfl (lv_at hl 1 rfl) ?_
        refine lv_iconst (v := (0 : Int32)) hx hb dX6_makeEmpty_59 (by decide) ?_
        obtain ⟨h24, hF⟩ := zs_ckS hF
        obtain ⟨Ydw25, e26⟩ : ∃ q : Ob, q = zs_up Ydw22 7 (x1).toNatClampNeg (0 : Int32) := ⟨_, rfl⟩
        have hF := zs_letS hF e26
        refine zs_iast C hK S 7 (ws' := wX6 G aYd Ydw25) rfl h24 (by rw [e26]; rfl) dX6_makeEmpty_60 (fun H locs S => ?_)
        obtain ⟨z27, e28⟩ : ∃ q : Int32, q = x1 + (1 : Int32) := ⟨_, rfl⟩
        have hF := zs_letS hF e28
        refine lv_iinc (v := z27) (lv' := [(1, .int z27), (0, .ref (aYd 0))]) hx hb dX6_makeEmpty_61 hl (k := 1) rfl (by rw [e28]; rfl) (by decide) rfl (fun ls hl => ?_)
        refine lv_goto (tgt := 13) hx hb dX6_makeEmpty_64 (by decide) ?_
        exact ih13 Ydw25 z27 _ _ _ S (lv_sub hl [1, 0] rfl) hF
  refine lv_aload_n hx hb dX6_makeEmpty_0 rfl (lv_at hl 0 rfl) ?_
  refine lv_iconst (v := (0 : Int32)) hx hb dX6_makeEmpty_1 (by decide) ?_
  obtain ⟨Ydw29, e30⟩ : ∃ q : Ob, q = zs_up Yd 0 0 (0 : Int32) := ⟨_, rfl⟩
  have hF := zs_letS hF e30
  refine zs_put C hK S 0 0 (ws' := wX6 G aYd Ydw29) (Cn := RX6) (T := TX6) (N := 9) (ci := 6) rfl rfl (by decide) zn_X6_makeEmpty_X6 tyX6_ok nmX6 (List.mem_of_getElem? (i := 1) rfl) rfl rfl rfl (Nat.le_of_ble_eq_true rfl) (by rw [e30]; rfl) dX6_makeEmpty_2 (fun H locs S => ?_)
  refine lv_aload_n hx hb dX6_makeEmpty_5 rfl (lv_at hl 0 rfl) ?_
  refine lv_bipush (v := (9 : Int32)) hx hb dX6_makeEmpty_6 (by decide) ?_
  obtain ⟨Ydw31, f32, hF⟩ := zs_bdS hF
  refine zs_callv (wr := ([] : va_W)) (ws' := wX6 G aYd Ydw31) S hA [0, 1, 2, 3, 4, 5, 6, 7] [] [0, 1, 2, 3, 4, 5, 6, 7] (zs_runV C hK hA S [.int (9 : Int32)] [] [0, 1, 2, 3, 4, 5, 6, 7] 0 1 (c_X6_setLimit l G aYd Ydw29 ((9 : Int32)) H.size Ydw31 f32) gX6_makeEmpty_X6_setLimit rfl rfl rfl zd_X6_setLimit ⟨Nat.le_of_ble_eq_true rfl, Nat.le_of_ble_eq_true rfl⟩ rfl rfl rfl rfl rfl hl rfl (Nat.le_of_ble_eq_true rfl) dX6_makeEmpty_8 ⟨Nat.le_of_ble_eq_true rfl, Nat.le_of_ble_eq_true rfl⟩) rfl rfl rfl (by decide) rfl rfl (fun H locs S => ?_)
  refine lv_iconst (v := (0 : Int32)) hx hb dX6_makeEmpty_11 (by decide) ?_
  refine lv_istore_n (lv' := [(1, .int (0 : Int32)), (0, .ref (aYd 0))]) hx hb dX6_makeEmpty_12 rfl hl (by decide) rfl (fun ls hl => ?_)
  exact j13 1000 Ydw31 (0 : Int32) _ _ _ S (lv_sub hl [1, 0] rfl) hF

abbrev RMX6_copy : Room := { frames := 0, cells := 0, slots := 0, locals := 0 }
theorem zn_X6_copy_X6 : ∀ w ∈ wsX60, w ∈ wsX6_copy := zs_inl wsX60 [10, 11, 12, 13, 14, 15, 16, 17, 18] (by decide +kernel)
set_option maxRecDepth 100000 in
set_option maxHeartbeats 4000000 in
theorem c_X6_copy (l : Launch) (G : GG) (aYd aYo : Ad) (Yd : Ob) (Yo : Ob) (sz : Nat) (Yd_ : Ob) (hF : F_X6_copy Yd Yo = some Yd_) : Met l yX6_copy wsX6_copy RMX6_copy (va_Pc [.ref (aYd 0), .ref (aYo 0)] (zs_pre G (wX6 G aYd Yd ++ wX6 G aYo Yo) sz)) (zs_Qv G (wX6 G aYd Yd_ ++ wX6 G aYo Yo) (va_A (wX6 G aYd Yd ++ wX6 G aYo Yo) sz)) 0 0 (va_A (wX6 G aYd Yd ++ wX6 G aYo Yo) sz) := by
  refine zs_met (cc := cX6_copy) (maxL := 3) (ret := none) (own := RX6) (Qc := zs_Qv G (wX6 G aYd Yd_ ++ wX6 G aYo Yo)) (by decide) rfl rfl (Nat.le_of_ble_eq_true rfl) ?_
  intro p e s m args below meth c C A hK hA S _ _ ls hl
  have hl : lv_has ls 3 [(0, .ref (aYd 0)), (1, .ref (aYo 0))] := hl
  have hx := C.1.1
  have hb := C.1.2.1
  unfold F_X6_copy at hF
  have j104 : ∀ (n104 : Nat) (Yd : Ob) (x2 : Int32) (H : Heap) (locs : List Loc) (ls : Array Slot), zs_S G A s.heap H locs (wX6 G aYd Yd ++ wX6 G aYo Yo) → lv_has ls 3 [(0, .ref (aYd 0)), (1, .ref (aYo 0)), (2, .int x2)] → F_X6_copy_104 Yo n104 Yd x2 = some Yd_ → W p l e RMX6_copy s m args below meth c H locs 0 0 (MQ below (zs_Qv G (wX6 G aYd Yd_ ++ wX6 G aYo Yo) A) args s 0 0 A) (F0 m 104 ls []) := by
    intro n104
    induction n104 with
    | zero => intro Yd x2 H locs ls _ _ hF; rw [F_X6_copy_104_z] at hF; cases hF
    | succ n104 ih104 =>
      intro Yd x2 H locs ls S hl hF
      rw [F_X6_copy_104_n] at hF
      unfold F_X6_copy_104_s at hF
      refine lv_iload_n hx hb dX6_copy_104 rfl (lv_at hl 2 rfl) ?_
      refine lv_aload_n hx hb dX6_copy_105 rfl (lv_at hl 0 rfl) ?_
      refine zs_get C hK S 0 6 (Cn := RX6) (T := TX6) (N := 9) (ci := 6) rfl rfl (by decide) zn_X6_copy_X6 (List.mem_of_getElem? (i := 9) rfl) rfl dX6_copy_106 ?_
      refine zs_alen C hK S 5 rfl (v := (36 : Int32)) rfl dX6_copy_109 ?_
      refine lv_icmp_ge (tgt := 131) hx hb dX6_copy_110 (by decide) (fun c1 => ?_) (fun c1 => ?_)
      · have hF := zs_t hF c1
        have e2 := zs_s1 hF
        exact zs_vretE C S (by rw [e2]) dX6_copy_131
      · have hF := zs_f hF c1
        refine lv_aload_n hx hb dX6_copy_113 rfl (lv_at hl 0 rfl) ?_
        refine zs_get C hK S 0 6 (Cn := RX6) (T := TX6) (N := 9) (ci := 6) rfl rfl (by decide) zn_X6_copy_X6 (List.mem_of_getElem? (i := 9) rfl) rfl dX6_copy_114 ?_
        refine lv_iload_n hx hb dX6_copy_117 rfl (lv_at hl 2 rfl) ?_
        refine lv_aload_n hx hb dX6_copy_118 rfl (lv_at hl 1 rfl) ?_
        refine zs_get C hK S 8 6 (Cn := RX6) (T := TX6) (N := 9) (ci := 6) rfl rfl (by decide) zn_X6_copy_X6 (List.mem_of_getElem? (i := 9) rfl) rfl dX6_copy_119 ?_
        refine lv_iload_n hx hb dX6_copy_122 rfl (lv_at hl 2 rfl) ?_
        obtain ⟨h3, hF⟩ := zs_ckS hF
        refine zs_iald C hK S 13 rfl h3 dX6_copy_123 ?_
        obtain ⟨h4, hF⟩ := zs_ckS hF
        obtain ⟨Ydw5, e6⟩ : ∃ q : Ob, q = zs_up Yd 5 (x2).toNatClampNeg (Yo 5 (x2).toNatClampNeg) := ⟨_, rfl⟩
        have hF := zs_letS hF e6
        refine zs_iast C hK S 5 (ws' := wX6 G aYd Ydw5 ++ wX6 G aYo Yo) rfl h4 (by rw [e6]; rfl) dX6_copy_124 (fun H locs S => ?_)
        obtain ⟨z7, e8⟩ : ∃ q : Int32, q = x2 + (1 : Int32) := ⟨_, rfl⟩
        have hF := zs_letS hF e8
        refine lv_iinc (v := z7) (lv' := [(2, .int z7), (0, .ref (aYd 0)), (1, .ref (aYo 0))]) hx hb dX6_copy_125 hl (k := 2) rfl (by rw [e8]; rfl) (by decide) rfl (fun ls hl => ?_)
        refine lv_goto (tgt := 104) hx hb dX6_copy_128 (by decide) ?_
        exact ih104 Ydw5 z7 _ _ _ S (lv_sub hl [1, 2, 0] rfl) hF
  have j102 : ∀ (Yd : Ob) (H : Heap) (locs : List Loc) (ls : Array Slot), zs_S G A s.heap H locs (wX6 G aYd Yd ++ wX6 G aYo Yo) → lv_has ls 3 [(0, .ref (aYd 0)), (1, .ref (aYo 0))] → F_X6_copy_102 Yo Yd = some Yd_ → W p l e RMX6_copy s m args below meth c H locs 0 0 (MQ below (zs_Qv G (wX6 G aYd Yd_ ++ wX6 G aYo Yo) A) args s 0 0 A) (F0 m 102 ls []) := by
    intro Yd H locs ls S hl hF
    unfold F_X6_copy_102 at hF
    refine lv_iconst (v := (0 : Int32)) hx hb dX6_copy_102 (by decide) ?_
    refine lv_istore_n (lv' := [(2, .int (0 : Int32)), (0, .ref (aYd 0)), (1, .ref (aYo 0))]) hx hb dX6_copy_103 rfl hl (by decide) rfl (fun ls hl => ?_)
    exact j104 1000 Yd (0 : Int32) _ _ _ S (lv_sub hl [1, 2, 0] rfl) hF
  have j18 : ∀ (n18 : Nat) (Yd : Ob) (x2 : Int32) (H : Heap) (locs : List Loc) (ls : Array Slot), zs_S G A s.heap H locs (wX6 G aYd Yd ++ wX6 G aYo Yo) → lv_has ls 3 [(0, .ref (aYd 0)), (1, .ref (aYo 0)), (2, .int x2)] → F_X6_copy_18 Yo n18 Yd x2 = some Yd_ → W p l e RMX6_copy s m args below meth c H locs 0 0 (MQ below (zs_Qv G (wX6 G aYd Yd_ ++ wX6 G aYo Yo) A) args s 0 0 A) (F0 m 18 ls []) := by
    intro n18
    induction n18 with
    | zero => intro Yd x2 H locs ls _ _ hF; rw [F_X6_copy_18_z] at hF; cases hF
    | succ n18 ih18 =>
      intro Yd x2 H locs ls S hl hF
      rw [F_X6_copy_18_n] at hF
      unfold F_X6_copy_18_s at hF
      refine lv_iload_n hx hb dX6_copy_18 rfl (lv_at hl 2 rfl) ?_
      refine lv_bipush (v := (6 : Int32)) hx hb dX6_copy_19 (by decide) ?_
      refine lv_icmp_ge (tgt := 102) hx hb dX6_copy_21 (by decide) (fun c9 => ?_) (fun c9 => ?_)
      · have hF := zs_t hF c9
        exact j102 Yd _ _ _ S (lv_sub hl [0, 1] rfl) hF
      · have hF := zs_f hF c9
        refine lv_aload_n hx hb dX6_copy_24 rfl (lv_at hl 0 rfl) ?_
        refine zs_get C hK S 0 2 (Cn := RX6) (T := TX6) (N := 9) (ci := 6) rfl rfl (by decide) zn_X6_copy_X6 (List.mem_of_getElem? (i := 3) rfl) rfl dX6_copy_25 ?_
        refine lv_iload_n hx hb dX6_copy_28 rfl (lv_at hl 2 rfl) ?_
        refine lv_aload_n hx hb dX6_copy_29 rfl (lv_at hl 1 rfl) ?_
        refine zs_get C hK S 8 2 (Cn := RX6) (T := TX6) (N := 9) (ci := 6) rfl rfl (by decide) zn_X6_copy_X6 (List.mem_of_getElem? (i := 3) rfl) rfl dX6_copy_30 ?_
        refine lv_iload_n hx hb dX6_copy_33 rfl (lv_at hl 2 rfl) ?_
        obtain ⟨h10, hF⟩ := zs_ckS hF
        refine zs_iald C hK S 9 rfl h10 dX6_copy_34 ?_
        obtain ⟨h11, hF⟩ := zs_ckS hF
        obtain ⟨Ydw12, e13⟩ : ∃ q : Ob, q = zs_up Yd 1 (x2).toNatClampNeg (Yo 1 (x2).toNatClampNeg) := ⟨_, rfl⟩
        have hF := zs_letS hF e13
        refine zs_iast C hK S 1 (ws' := wX6 G aYd Ydw12 ++ wX6 G aYo Yo) rfl h11 (by rw [e13]; rfl) dX6_copy_35 (fun H locs S => ?_)
        refine lv_aload_n hx hb dX6_copy_36 rfl (lv_at hl 0 rfl) ?_
        refine zs_get C hK S 0 3 (Cn := RX6) (T := TX6) (N := 9) (ci := 6) rfl rfl (by decide) zn_X6_copy_X6 (List.mem_of_getElem? (i := 4) rfl) rfl dX6_copy_37 ?_
        refine lv_iload_n hx hb dX6_copy_40 rfl (lv_at hl 2 rfl) ?_
        refine lv_aload_n hx hb dX6_copy_41 rfl (lv_at hl 1 rfl) ?_
        refine zs_get C hK S 8 3 (Cn := RX6) (T := TX6) (N := 9) (ci := 6) rfl rfl (by decide) zn_X6_copy_X6 (List.mem_of_getElem? (i := 4) rfl) rfl dX6_copy_42 ?_
        refine lv_iload_n hx hb dX6_copy_45 rfl (lv_at hl 2 rfl) ?_
        obtain ⟨h14, hF⟩ := zs_ckS hF
        refine zs_iald C hK S 10 rfl h14 dX6_copy_46 ?_
        obtain ⟨h15, hF⟩ := zs_ckS hF
        obtain ⟨Ydw16, e17⟩ : ∃ q : Ob, q = zs_up Ydw12 2 (x2).toNatClampNeg (Yo 2 (x2).toNatClampNeg) := ⟨_, rfl⟩
        have hF := zs_letS hF e17
        refine zs_iast C hK S 2 (ws' := wX6 G aYd Ydw16 ++ wX6 G aYo Yo) rfl h15 (by rw [e17]; rfl) dX6_copy_47 (fun H locs S => ?_)
        refine lv_aload_n hx hb dX6_copy_48 rfl (lv_at hl 0 rfl) ?_
        refine zs_get C hK S 0 4 (Cn := RX6) (T := TX6) (N := 9) (ci := 6) rfl rfl (by decide) zn_X6_copy_X6 (List.mem_of_getElem? (i := 5) rfl) rfl dX6_copy_49 ?_
        refine lv_iload_n hx hb dX6_copy_52 rfl (lv_at hl 2 rfl) ?_
        refine lv_aload_n hx hb dX6_copy_53 rfl (lv_at hl 1 rfl) ?_
        refine zs_get C hK S 8 4 (Cn := RX6) (T := TX6) (N := 9) (ci := 6) rfl rfl (by decide) zn_X6_copy_X6 (List.mem_of_getElem? (i := 5) rfl) rfl dX6_copy_54 ?_
        refine lv_iload_n hx hb dX6_copy_57 rfl (lv_at hl 2 rfl) ?_
        obtain ⟨h18, hF⟩ := zs_ckS hF
        refine zs_iald C hK S 11 rfl h18 dX6_copy_58 ?_
        obtain ⟨h19, hF⟩ := zs_ckS hF
        obtain ⟨Ydw20, e21⟩ : ∃ q : Ob, q = zs_up Ydw16 3 (x2).toNatClampNeg (Yo 3 (x2).toNatClampNeg) := ⟨_, rfl⟩
        have hF := zs_letS hF e21
        refine zs_iast C hK S 3 (ws' := wX6 G aYd Ydw20 ++ wX6 G aYo Yo) rfl h19 (by rw [e21]; rfl) dX6_copy_59 (fun H locs S => ?_)
        refine lv_aload_n hx hb dX6_copy_60 rfl (lv_at hl 0 rfl) ?_
        refine zs_get C hK S 0 5 (Cn := RX6) (T := TX6) (N := 9) (ci := 6) rfl rfl (by decide) zn_X6_copy_X6 (List.mem_of_getElem? (i := 6) rfl) rfl dX6_copy_61 ?_
        refine lv_iload_n hx hb dX6_copy_64 rfl (lv_at hl 2 rfl) ?_
        refine lv_aload_n hx hb dX6_copy_65 rfl (lv_at hl 1 rfl) ?_
        refine zs_get C hK S 8 5 (Cn := RX6) (T := TX6) (N := 9) (ci := 6) rfl rfl (by decide) zn_X6_copy_X6 (List.mem_of_getElem? (i := 6) rfl) rfl dX6_copy_66 ?_
        refine lv_iload_n hx hb dX6_copy_69 rfl (lv_at hl 2 rfl) ?_
        obtain ⟨h22, hF⟩ := zs_ckS hF
        refine zs_iald C hK S 12 rfl h22 dX6_copy_70 ?_
        obtain ⟨h23, hF⟩ := zs_ckS hF
        obtain ⟨Ydw24, e25⟩ : ∃ q : Ob, q = zs_up Ydw20 4 (x2).toNatClampNeg (Yo 4 (x2).toNatClampNeg) := ⟨_, rfl⟩
        have hF := zs_letS hF e25
        refine zs_iast C hK S 4 (ws' := wX6 G aYd Ydw24 ++ wX6 G aYo Yo) rfl h23 (by rw [e25]; rfl) dX6_copy_71 (fun H locs S => ?_)
        refine lv_aload_n hx hb dX6_copy_72 rfl (lv_at hl 0 rfl) ?_
        refine zs_get C hK S 0 7 (Cn := RX6) (T := TX6) (N := 9) (ci := 6) rfl rfl (by decide) zn_X6_copy_X6 (List.mem_of_getElem? (i := 7) rfl) rfl dX6_copy_73 ?_
        refine lv_iload_n hx hb dX6_copy_76 rfl (lv_at hl 2 rfl) ?_
        refine lv_aload_n hx hb dX6_copy_77 rfl (lv_at hl 1 rfl) ?_
        refine zs_get C hK S 8 7 (Cn := RX6) (T := TX6) (N := 9) (ci := 6) rfl rfl (by decide) zn_X6_copy_X6 (List.mem_of_getElem? (i := 7) rfl) rfl dX6_copy_78 ?_
        refine lv_iload_n hx hb dX6_copy_81 rfl (lv_at hl 2 rfl) ?_
        obtain ⟨h26, hF⟩ := zs_ckS hF
        refine zs_iald C hK S 14 rfl h26 dX6_copy_82 ?_
        obtain ⟨h27, hF⟩ := zs_ckS hF
        obtain ⟨Ydw28, e29⟩ : ∃ q : Ob, q = zs_up Ydw24 6 (x2).toNatClampNeg (Yo 6 (x2).toNatClampNeg) := ⟨_, rfl⟩
        have hF := zs_letS hF e29
        refine zs_iast C hK S 6 (ws' := wX6 G aYd Ydw28 ++ wX6 G aYo Yo) rfl h27 (by rw [e29]; rfl) dX6_copy_83 (fun H locs S => ?_)
        refine lv_aload_n hx hb dX6_copy_84 rfl (lv_at hl 0 rfl) ?_
        refine zs_get C hK S 0 8 (Cn := RX6) (T := TX6) (N := 9) (ci := 6) rfl rfl (by decide) zn_X6_copy_X6 (List.mem_of_getElem? (i := 8) rfl) rfl dX6_copy_85 ?_
        refine lv_iload_n hx hb dX6_copy_88 rfl (lv_at hl 2 rfl) ?_
        refine lv_aload_n hx hb dX6_copy_89 rfl (lv_at hl 1 rfl) ?_
        refine zs_get C hK S 8 8 (Cn := RX6) (T := TX6) (N := 9) (ci := 6) rfl rfl (by decide) zn_X6_copy_X6 (List.mem_of_getElem? (i := 8) rfl) rfl dX6_copy_90 ?_
        refine lv_iload_n hx hb dX6_copy_93 rfl (lv_at hl 2 rfl) ?_
        obtain ⟨h30, hF⟩ := zs_ckS hF
        refine zs_iald C hK S 15 rfl h30 dX6_copy_94 ?_
        obtain ⟨h31, hF⟩ := zs_ckS hF
        obtain ⟨Ydw32, e33⟩ : ∃ q : Ob, q = zs_up Ydw28 7 (x2).toNatClampNeg (Yo 7 (x2).toNatClampNeg) := ⟨_, rfl⟩
        have hF := zs_letS hF e33
        refine zs_iast C hK S 7 (ws' := wX6 G aYd Ydw32 ++ wX6 G aYo Yo) rfl h31 (by rw [e33]; rfl) dX6_copy_95 (fun H locs S => ?_)
        obtain ⟨z34, e35⟩ : ∃ q : Int32, q = x2 + (1 : Int32) := ⟨_, rfl⟩
        have hF := zs_letS hF e35
        refine lv_iinc (v := z34) (lv' := [(2, .int z34), (0, .ref (aYd 0)), (1, .ref (aYo 0))]) hx hb dX6_copy_96 hl (k := 2) rfl (by rw [e35]; rfl) (by decide) rfl (fun ls hl => ?_)
        refine lv_goto (tgt := 18) hx hb dX6_copy_99 (by decide) ?_
        exact ih18 Ydw32 z34 _ _ _ S (lv_sub hl [1, 2, 0] rfl) hF
  refine lv_aload_n hx hb dX6_copy_0 rfl (lv_at hl 0 rfl) ?_
  refine lv_aload_n hx hb dX6_copy_1 rfl (lv_at hl 1 rfl) ?_
  refine zs_get C hK S 8 0 (Cn := RX6) (T := TX6) (N := 9) (ci := 6) rfl rfl (by decide) zn_X6_copy_X6 (List.mem_of_getElem? (i := 1) rfl) rfl dX6_copy_2 ?_
  obtain ⟨Ydw36, e37⟩ : ∃ q : Ob, q = zs_up Yd 0 0 (Yo 0 0) := ⟨_, rfl⟩
  have hF := zs_letS hF e37
  refine zs_put C hK S 0 0 (ws' := wX6 G aYd Ydw36 ++ wX6 G aYo Yo) (Cn := RX6) (T := TX6) (N := 9) (ci := 6) rfl rfl (by decide) zn_X6_copy_X6 tyX6_ok nmX6 (List.mem_of_getElem? (i := 1) rfl) rfl rfl rfl (Nat.le_of_ble_eq_true rfl) (by rw [e37]; rfl) dX6_copy_5 (fun H locs S => ?_)
  refine lv_aload_n hx hb dX6_copy_8 rfl (lv_at hl 0 rfl) ?_
  refine lv_aload_n hx hb dX6_copy_9 rfl (lv_at hl 1 rfl) ?_
  refine zs_get C hK S 8 1 (Cn := RX6) (T := TX6) (N := 9) (ci := 6) rfl rfl (by decide) zn_X6_copy_X6 (List.mem_of_getElem? (i := 2) rfl) rfl dX6_copy_10 ?_
  obtain ⟨Ydw38, e39⟩ : ∃ q : Ob, q = zs_up Ydw36 0 1 (Yo 0 1) := ⟨_, rfl⟩
  have hF := zs_letS hF e39
  refine zs_put C hK S 0 1 (ws' := wX6 G aYd Ydw38 ++ wX6 G aYo Yo) (Cn := RX6) (T := TX6) (N := 9) (ci := 6) rfl rfl (by decide) zn_X6_copy_X6 tyX6_ok nmX6 (List.mem_of_getElem? (i := 2) rfl) rfl rfl rfl (Nat.le_of_ble_eq_true rfl) (by rw [e39]; rfl) dX6_copy_13 (fun H locs S => ?_)
  refine lv_iconst (v := (0 : Int32)) hx hb dX6_copy_16 (by decide) ?_
  refine lv_istore_n (lv' := [(2, .int (0 : Int32)), (0, .ref (aYd 0)), (1, .ref (aYo 0))]) hx hb dX6_copy_17 rfl hl (by decide) rfl (fun ls hl => ?_)
  exact j18 1000 Ydw38 (0 : Int32) _ _ _ S (lv_sub hl [1, 2, 0] rfl) hF

abbrev RMX6_hasRoom : Room := { frames := 0, cells := 0, slots := 0, locals := 0 }
theorem zn_X6_hasRoom_X6 : ∀ w ∈ wsX60, w ∈ wsX6_hasRoom := zs_inl wsX60 [2, 3, 4, 5, 6, 7, 8, 9, 10] (by decide +kernel)
set_option maxRecDepth 100000 in
set_option maxHeartbeats 4000000 in
theorem c_X6_hasRoom (l : Launch) (G : GG) (aYd : Ad) (Yd : Ob) (sz : Nat) (rr : Int32) (hF : F_X6_hasRoom Yd = some rr) : Met l yX6_hasRoom wsX6_hasRoom RMX6_hasRoom (va_Pc [.ref (aYd 0)] (zs_pre G (wX6 G aYd Yd) sz)) (zs_Qi G (wX6 G aYd Yd) rr (va_A (wX6 G aYd Yd) sz)) 0 0 (va_A (wX6 G aYd Yd) sz) := by
  refine zs_met (cc := cX6_hasRoom) (maxL := 1) (ret := (some .boolean)) (own := RX6) (Qc := zs_Qi G (wX6 G aYd Yd) rr) (by decide) rfl rfl (Nat.le_of_ble_eq_true rfl) ?_
  intro p e s m args below meth c C A hK hA S _ _ ls hl
  have hl : lv_has ls 1 [(0, .ref (aYd 0))] := hl
  have hx := C.1.1
  have hb := C.1.2.1
  unfold F_X6_hasRoom at hF
  refine lv_aload_n hx hb dX6_hasRoom_0 rfl (lv_at hl 0 rfl) ?_
  refine zs_get C hK S 0 0 (Cn := RX6) (T := TX6) (N := 9) (ci := 6) rfl rfl (by decide) zn_X6_hasRoom_X6 (List.mem_of_getElem? (i := 1) rfl) rfl dX6_hasRoom_1 ?_
  refine lv_bipush (v := (6 : Int32)) hx hb dX6_hasRoom_4 (by decide) ?_
  refine lv_icmp_ge (tgt := 13) hx hb dX6_hasRoom_6 (by decide) (fun c1 => ?_) (fun c1 => ?_)
  · have hF := zs_t hF c1
    refine lv_iconst (v := (0 : Int32)) hx hb dX6_hasRoom_13 (by decide) ?_
    have e2 := zs_s1 hF
    exact zs_zretE C S rfl e2 rfl dX6_hasRoom_14
  · have hF := zs_f hF c1
    refine lv_iconst (v := (1 : Int32)) hx hb dX6_hasRoom_9 (by decide) ?_
    refine lv_goto (tgt := 14) hx hb dX6_hasRoom_10 (by decide) ?_
    have e3 := zs_s1 hF
    exact zs_zretE C S rfl e3 rfl dX6_hasRoom_14

theorem zd_X6_hasRoom : yX6_hasRoom.cls = RX6 ∧ yX6_hasRoom.cls ≠ "java/lang/invoke/MethodHandle" ∧ yX6_hasRoom.cls ≠ "java/lang/invoke/VarHandle" ∧ (parseMethodDescriptor yX6_hasRoom.desc).map (fun d => d.parameters.length) = some 0 := by decide +kernel
abbrev RMX6_addWall : Room := { frames := 1, cells := 0, slots := 0, locals := 20 }
theorem zn_X6_addWall_X6 : ∀ w ∈ wsX60, w ∈ wsX6_addWall := zs_inl wsX60 [9, 10, 11, 12, 13, 14, 15, 16, 17] (by decide +kernel)
set_option maxRecDepth 100000 in
set_option maxHeartbeats 4000000 in
theorem c_X6_addWall (l : Launch) (G : GG) (aYd : Ad) (Yd : Ob) (u1 : Int32) (u2 : Int32) (sz : Nat) (Yd_ : Ob) (hF : F_X6_addWall Yd u1 u2 = some Yd_) : Met l yX6_addWall wsX6_addWall RMX6_addWall (va_Pc [.ref (aYd 0), .int u1, .int u2] (zs_pre G (wX6 G aYd Yd) sz)) (zs_Qv G (wX6 G aYd Yd_) (va_A (wX6 G aYd Yd) sz)) 0 0 (va_A (wX6 G aYd Yd) sz) := by
  refine zs_met (cc := cX6_addWall) (maxL := 3) (ret := none) (own := RX6) (Qc := zs_Qv G (wX6 G aYd Yd_)) (by decide) rfl rfl (Nat.le_of_ble_eq_true rfl) ?_
  intro p e s m args below meth c C A hK hA S _ _ ls hl
  have hl : lv_has ls 3 [(0, .ref (aYd 0)), (1, .int u1), (2, .int u2)] := hl
  have hx := C.1.1
  have hb := C.1.2.1
  unfold F_X6_addWall at hF
  refine lv_aload_n hx hb dX6_addWall_0 rfl (lv_at hl 0 rfl) ?_
  obtain ⟨r1, f2, hF⟩ := zs_bdS hF
  refine zs_calli (wr := ([] : va_W)) (ws' := wX6 G aYd Yd) S hA [0, 1, 2, 3, 4, 5, 6, 7] [] [0, 1, 2, 3, 4, 5, 6, 7] (zs_runV C hK hA S [] [] [0, 1, 2, 3, 4, 5, 6, 7] 0 0 (c_X6_hasRoom l G aYd Yd s.heap.size r1 f2) gX6_addWall_X6_hasRoom rfl rfl rfl zd_X6_hasRoom ⟨Nat.le_of_ble_eq_true rfl, Nat.le_of_ble_eq_true rfl⟩ rfl rfl rfl rfl rfl hl rfl (Nat.le_of_ble_eq_true rfl) dX6_addWall_1 ⟨Nat.le_of_ble_eq_true rfl, Nat.le_of_ble_eq_true rfl⟩) rfl rfl rfl (by decide) rfl rfl (fun H locs S => ?_)
  refine lv_if_eq (tgt := 37) hx hb dX6_addWall_4 (by decide) (fun c3 => ?_) (fun c3 => ?_)
  · have hF := zs_t hF c3
    have e4 := zs_s1 hF
    exact zs_vretE C S (by rw [e4]) dX6_addWall_37
  · have hF := zs_f hF c3
    refine lv_aload_n hx hb dX6_addWall_7 rfl (lv_at hl 0 rfl) ?_
    refine zs_get C hK S 0 2 (Cn := RX6) (T := TX6) (N := 9) (ci := 6) rfl rfl (by decide) zn_X6_addWall_X6 (List.mem_of_getElem? (i := 1) rfl) rfl dX6_addWall_8 ?_
    refine lv_aload_n hx hb dX6_addWall_11 rfl (lv_at hl 0 rfl) ?_
    refine zs_get C hK S 0 0 (Cn := RX6) (T := TX6) (N := 9) (ci := 6) rfl rfl (by decide) zn_X6_addWall_X6 (List.mem_of_getElem? (i := 2) rfl) rfl dX6_addWall_12 ?_
    refine lv_iload_n hx hb dX6_addWall_15 rfl (lv_at hl 1 rfl) ?_
    obtain ⟨h5, hF⟩ := zs_ckS hF
    obtain ⟨Ydw6, e7⟩ : ∃ q : Ob, q = zs_up Yd 1 ((Yd 0 0)).toNatClampNeg u1 := ⟨_, rfl⟩
    have hF := zs_letS hF e7
    refine zs_iast C hK S 1 (ws' := wX6 G aYd Ydw6) rfl h5 (by rw [e7]; rfl) dX6_addWall_16 (fun H locs S => ?_)
    refine lv_aload_n hx hb dX6_addWall_17 rfl (lv_at hl 0 rfl) ?_
    refine zs_get C hK S 0 3 (Cn := RX6) (T := TX6) (N := 9) (ci := 6) rfl rfl (by decide) zn_X6_addWall_X6 (List.mem_of_getElem? (i := 3) rfl) rfl dX6_addWall_18 ?_
    refine lv_aload_n hx hb dX6_addWall_21 rfl (lv_at hl 0 rfl) ?_
    refine zs_get C hK S 0 0 (Cn := RX6) (T := TX6) (N := 9) (ci := 6) rfl rfl (by decide) zn_X6_addWall_X6 (List.mem_of_getElem? (i := 2) rfl) rfl dX6_addWall_22 ?_
    refine lv_iload_n hx hb dX6_addWall_25 rfl (lv_at hl 2 rfl) ?_
    obtain ⟨h8, hF⟩ := zs_ckS hF
    obtain ⟨Ydw9, e10⟩ : ∃ q : Ob, q = zs_up Ydw6 2 ((Ydw6 0 0)).toNatClampNeg u2 := ⟨_, rfl⟩
    have hF := zs_letS hF e10
    refine zs_iast C hK S 2 (ws' := wX6 G aYd Ydw9) rfl h8 (by rw [e10]; rfl) dX6_addWall_26 (fun H locs S => ?_)
    refine lv_aload_n hx hb dX6_addWall_27 rfl (lv_at hl 0 rfl) ?_
    refine lv_dup hx hb dX6_addWall_28 rfl ?_
    refine zs_get C hK S 0 0 (Cn := RX6) (T := TX6) (N := 9) (ci := 6) rfl rfl (by decide) zn_X6_addWall_X6 (List.mem_of_getElem? (i := 2) rfl) rfl dX6_addWall_29 ?_
    refine lv_iconst (v := (1 : Int32)) hx hb dX6_addWall_32 (by decide) ?_
    refine lv_iadd hx hb dX6_addWall_33 ?_
    obtain ⟨Ydw11, e12⟩ : ∃ q : Ob, q = zs_up Ydw9 0 0 ((Ydw9 0 0) + (1 : Int32)) := ⟨_, rfl⟩
    have hF := zs_letS hF e12
    refine zs_put C hK S 0 0 (ws' := wX6 G aYd Ydw11) (Cn := RX6) (T := TX6) (N := 9) (ci := 6) rfl rfl (by decide) zn_X6_addWall_X6 tyX6_ok nmX6 (List.mem_of_getElem? (i := 2) rfl) rfl rfl rfl (Nat.le_of_ble_eq_true rfl) (by rw [e12]; rfl) dX6_addWall_34 (fun H locs S => ?_)
    have e13 := zs_s1 hF
    exact zs_vretE C S (by rw [e13]) dX6_addWall_37

abbrev RMX6_partsLeft : Room := { frames := 1, cells := 0, slots := 0, locals := 21 }
theorem zn_X6_partsLeft_X6 : ∀ w ∈ wsX60, w ∈ wsX6_partsLeft := zs_inl wsX60 [6, 7, 8, 9, 10, 11, 12, 13, 14] (by decide +kernel)
set_option maxRecDepth 100000 in
set_option maxHeartbeats 4000000 in
theorem c_X6_partsLeft (l : Launch) (G : GG) (aYd : Ad) (Yd : Ob) (u1 : Int32) (u2 : Int32) (sz : Nat) (rr : Int32) (hF : F_X6_partsLeft Yd u1 u2 = some rr) : Met l yX6_partsLeft wsX6_partsLeft RMX6_partsLeft (va_Pc [.ref (aYd 0), .int u1, .int u2] (zs_pre G (wX6 G aYd Yd) sz)) (zs_Qi G (wX6 G aYd Yd) rr (va_A (wX6 G aYd Yd) sz)) 0 0 (va_A (wX6 G aYd Yd) sz) := by
  refine zs_met (cc := cX6_partsLeft) (maxL := 3) (ret := (some .int)) (own := RX6) (Qc := zs_Qi G (wX6 G aYd Yd) rr) (by decide) rfl rfl (Nat.le_of_ble_eq_true rfl) ?_
  intro p e s m args below meth c C A hK hA S _ _ ls hl
  have hl : lv_has ls 3 [(0, .ref (aYd 0)), (1, .int u1), (2, .int u2)] := hl
  have hx := C.1.1
  have hb := C.1.2.1
  unfold F_X6_partsLeft at hF
  refine lv_bipush (v := (10 : Int32)) hx hb dX6_partsLeft_0 (by decide) ?_
  refine lv_aload_n hx hb dX6_partsLeft_2 rfl (lv_at hl 0 rfl) ?_
  refine zs_get C hK S 0 7 (Cn := RX6) (T := TX6) (N := 9) (ci := 6) rfl rfl (by decide) zn_X6_partsLeft_X6 (List.mem_of_getElem? (i := 1) rfl) rfl dX6_partsLeft_3 ?_
  refine lv_iload_n hx hb dX6_partsLeft_6 rfl (lv_at hl 1 rfl) ?_
  obtain ⟨h1, hF⟩ := zs_ckS hF
  refine zs_iald C hK S 6 rfl h1 dX6_partsLeft_7 ?_
  refine lv_aload_n hx hb dX6_partsLeft_8 rfl (lv_at hl 0 rfl) ?_
  refine zs_get C hK S 0 7 (Cn := RX6) (T := TX6) (N := 9) (ci := 6) rfl rfl (by decide) zn_X6_partsLeft_X6 (List.mem_of_getElem? (i := 1) rfl) rfl dX6_partsLeft_9 ?_
  refine lv_iload_n hx hb dX6_partsLeft_12 rfl (lv_at hl 2 rfl) ?_
  obtain ⟨h2, hF⟩ := zs_ckS hF
  refine zs_iald C hK S 6 rfl h2 dX6_partsLeft_13 ?_
  refine va_mmax hx hb (C.1.2.2.1.trans hl.1.symm) C.1.2.2.2.1 (C.1.2.2.2.2 _ (List.mem_of_getElem? (i := 2) rfl)) (C.1.2.2.2.2 _ (List.mem_of_getElem? (i := 3) rfl)) (C.1.2.2.2.2 _ (List.mem_of_getElem? (i := 4) rfl)) (C.1.2.2.2.2 _ (List.mem_of_getElem? (i := 5) rfl)) (Nat.le_of_ble_eq_true rfl) (Nat.le_of_ble_eq_true rfl) (Nat.le_of_ble_eq_true rfl) (Nat.le_of_ble_eq_true rfl) dX6_partsLeft_14 ?_
  refine lv_isub hx hb dX6_partsLeft_17 ?_
  have e3 := zs_s1 hF
  exact zs_iretE C S e3 rfl dX6_partsLeft_18

abbrev RMX6_addParts : Room := { frames := 0, cells := 0, slots := 0, locals := 0 }
theorem zn_X6_addParts_X6 : ∀ w ∈ wsX60, w ∈ wsX6_addParts := zs_inl wsX60 [3, 4, 5, 6, 7, 8, 9, 10, 11] (by decide +kernel)
set_option maxRecDepth 100000 in
set_option maxHeartbeats 4000000 in
theorem c_X6_addParts (l : Launch) (G : GG) (aYd : Ad) (Yd : Ob) (u1 : Int32) (u2 : Int32) (u3 : Int32) (sz : Nat) (Yd_ : Ob) (hF : F_X6_addParts Yd u1 u2 u3 = some Yd_) : Met l yX6_addParts wsX6_addParts RMX6_addParts (va_Pc [.ref (aYd 0), .int u1, .int u2, .int u3] (zs_pre G (wX6 G aYd Yd) sz)) (zs_Qv G (wX6 G aYd Yd_) (va_A (wX6 G aYd Yd) sz)) 0 0 (va_A (wX6 G aYd Yd) sz) := by
  refine zs_met (cc := cX6_addParts) (maxL := 4) (ret := none) (own := RX6) (Qc := zs_Qv G (wX6 G aYd Yd_)) (by decide) rfl rfl (Nat.le_of_ble_eq_true rfl) ?_
  intro p e s m args below meth c C A hK hA S _ _ ls hl
  have hl : lv_has ls 4 [(0, .ref (aYd 0)), (1, .int u1), (2, .int u2), (3, .int u3)] := hl
  have hx := C.1.1
  have hb := C.1.2.1
  unfold F_X6_addParts at hF
  refine lv_aload_n hx hb dX6_addParts_0 rfl (lv_at hl 0 rfl) ?_
  refine zs_get C hK S 0 6 (Cn := RX6) (T := TX6) (N := 9) (ci := 6) rfl rfl (by decide) zn_X6_addParts_X6 (List.mem_of_getElem? (i := 1) rfl) rfl dX6_addParts_1 ?_
  refine lv_iload_n hx hb dX6_addParts_4 rfl (lv_at hl 1 rfl) ?_
  refine lv_bipush (v := (6 : Int32)) hx hb dX6_addParts_5 (by decide) ?_
  refine lv_imul hx hb dX6_addParts_7 ?_
  refine lv_iload_n hx hb dX6_addParts_8 rfl (lv_at hl 2 rfl) ?_
  refine lv_iadd hx hb dX6_addParts_9 ?_
  refine lv_dup2_11 hx hb dX6_addParts_10 rfl rfl ?_
  obtain ⟨h1, hF⟩ := zs_ckS hF
  refine zs_iald C hK S 5 rfl h1 dX6_addParts_11 ?_
  refine lv_iload_n hx hb dX6_addParts_12 rfl (lv_at hl 3 rfl) ?_
  refine lv_iadd hx hb dX6_addParts_13 ?_
  obtain ⟨h2, hF⟩ := zs_ckS hF
  obtain ⟨Ydw3, e4⟩ : ∃ q : Ob, q = zs_up Yd 5 (((u1 * (6 : Int32)) + u2)).toNatClampNeg ((Yd 5 (((u1 * (6 : Int32)) + u2)).toNatClampNeg) + u3) := ⟨_, rfl⟩
  have hF := zs_letS hF e4
  refine zs_iast C hK S 5 (ws' := wX6 G aYd Ydw3) rfl h2 (by rw [e4]; rfl) dX6_addParts_14 (fun H locs S => ?_)
  refine lv_aload_n hx hb dX6_addParts_15 rfl (lv_at hl 0 rfl) ?_
  refine zs_get C hK S 0 6 (Cn := RX6) (T := TX6) (N := 9) (ci := 6) rfl rfl (by decide) zn_X6_addParts_X6 (List.mem_of_getElem? (i := 1) rfl) rfl dX6_addParts_16 ?_
  refine lv_iload_n hx hb dX6_addParts_19 rfl (lv_at hl 2 rfl) ?_
  refine lv_bipush (v := (6 : Int32)) hx hb dX6_addParts_20 (by decide) ?_
  refine lv_imul hx hb dX6_addParts_22 ?_
  refine lv_iload_n hx hb dX6_addParts_23 rfl (lv_at hl 1 rfl) ?_
  refine lv_iadd hx hb dX6_addParts_24 ?_
  refine lv_dup2_11 hx hb dX6_addParts_25 rfl rfl ?_
  obtain ⟨h5, hF⟩ := zs_ckS hF
  refine zs_iald C hK S 5 rfl h5 dX6_addParts_26 ?_
  refine lv_iload_n hx hb dX6_addParts_27 rfl (lv_at hl 3 rfl) ?_
  refine lv_iadd hx hb dX6_addParts_28 ?_
  obtain ⟨h6, hF⟩ := zs_ckS hF
  obtain ⟨Ydw7, e8⟩ : ∃ q : Ob, q = zs_up Ydw3 5 (((u2 * (6 : Int32)) + u1)).toNatClampNeg ((Ydw3 5 (((u2 * (6 : Int32)) + u1)).toNatClampNeg) + u3) := ⟨_, rfl⟩
  have hF := zs_letS hF e8
  refine zs_iast C hK S 5 (ws' := wX6 G aYd Ydw7) rfl h6 (by rw [e8]; rfl) dX6_addParts_29 (fun H locs S => ?_)
  refine lv_aload_n hx hb dX6_addParts_30 rfl (lv_at hl 0 rfl) ?_
  refine zs_get C hK S 0 7 (Cn := RX6) (T := TX6) (N := 9) (ci := 6) rfl rfl (by decide) zn_X6_addParts_X6 (List.mem_of_getElem? (i := 2) rfl) rfl dX6_addParts_31 ?_
  refine lv_iload_n hx hb dX6_addParts_34 rfl (lv_at hl 1 rfl) ?_
  refine lv_dup2_11 hx hb dX6_addParts_35 rfl rfl ?_
  obtain ⟨h9, hF⟩ := zs_ckS hF
  refine zs_iald C hK S 6 rfl h9 dX6_addParts_36 ?_
  refine lv_iload_n hx hb dX6_addParts_37 rfl (lv_at hl 3 rfl) ?_
  refine lv_iadd hx hb dX6_addParts_38 ?_
  obtain ⟨h10, hF⟩ := zs_ckS hF
  obtain ⟨Ydw11, e12⟩ : ∃ q : Ob, q = zs_up Ydw7 6 (u1).toNatClampNeg ((Ydw7 6 (u1).toNatClampNeg) + u3) := ⟨_, rfl⟩
  have hF := zs_letS hF e12
  refine zs_iast C hK S 6 (ws' := wX6 G aYd Ydw11) rfl h10 (by rw [e12]; rfl) dX6_addParts_39 (fun H locs S => ?_)
  refine lv_aload_n hx hb dX6_addParts_40 rfl (lv_at hl 0 rfl) ?_
  refine zs_get C hK S 0 7 (Cn := RX6) (T := TX6) (N := 9) (ci := 6) rfl rfl (by decide) zn_X6_addParts_X6 (List.mem_of_getElem? (i := 2) rfl) rfl dX6_addParts_41 ?_
  refine lv_iload_n hx hb dX6_addParts_44 rfl (lv_at hl 2 rfl) ?_
  refine lv_dup2_11 hx hb dX6_addParts_45 rfl rfl ?_
  obtain ⟨h13, hF⟩ := zs_ckS hF
  refine zs_iald C hK S 6 rfl h13 dX6_addParts_46 ?_
  refine lv_iload_n hx hb dX6_addParts_47 rfl (lv_at hl 3 rfl) ?_
  refine lv_iadd hx hb dX6_addParts_48 ?_
  obtain ⟨h14, hF⟩ := zs_ckS hF
  obtain ⟨Ydw15, e16⟩ : ∃ q : Ob, q = zs_up Ydw11 6 (u2).toNatClampNeg ((Ydw11 6 (u2).toNatClampNeg) + u3) := ⟨_, rfl⟩
  have hF := zs_letS hF e16
  refine zs_iast C hK S 6 (ws' := wX6 G aYd Ydw15) rfl h14 (by rw [e16]; rfl) dX6_addParts_49 (fun H locs S => ?_)
  have e17 := zs_s1 hF
  exact zs_vretE C S (by rw [e17]) dX6_addParts_50

abbrev RMX6_dark : Room := { frames := 0, cells := 0, slots := 0, locals := 0 }
theorem zn_X6_dark_X6 : ∀ w ∈ wsX60, w ∈ wsX6_dark := zs_inl wsX60 [2, 3, 4, 5, 6, 7, 8, 9, 10] (by decide +kernel)
set_option maxRecDepth 100000 in
set_option maxHeartbeats 4000000 in
theorem c_X6_dark (l : Launch) (G : GG) (aYd : Ad) (Yd : Ob) (u1 : Int32) (sz : Nat) (rr : Int32) (hF : F_X6_dark Yd u1 = some rr) : Met l yX6_dark wsX6_dark RMX6_dark (va_Pc [.ref (aYd 0), .int u1] (zs_pre G (wX6 G aYd Yd) sz)) (zs_Qi G (wX6 G aYd Yd) rr (va_A (wX6 G aYd Yd) sz)) 0 0 (va_A (wX6 G aYd Yd) sz) := by
  refine zs_met (cc := cX6_dark) (maxL := 2) (ret := (some .int)) (own := RX6) (Qc := zs_Qi G (wX6 G aYd Yd) rr) (by decide) rfl rfl (Nat.le_of_ble_eq_true rfl) ?_
  intro p e s m args below meth c C A hK hA S _ _ ls hl
  have hl : lv_has ls 2 [(0, .ref (aYd 0)), (1, .int u1)] := hl
  have hx := C.1.1
  have hb := C.1.2.1
  unfold F_X6_dark at hF
  refine lv_bipush (v := (10 : Int32)) hx hb dX6_dark_0 (by decide) ?_
  refine lv_aload_n hx hb dX6_dark_2 rfl (lv_at hl 0 rfl) ?_
  refine zs_get C hK S 0 7 (Cn := RX6) (T := TX6) (N := 9) (ci := 6) rfl rfl (by decide) zn_X6_dark_X6 (List.mem_of_getElem? (i := 1) rfl) rfl dX6_dark_3 ?_
  refine lv_iload_n hx hb dX6_dark_6 rfl (lv_at hl 1 rfl) ?_
  obtain ⟨h1, hF⟩ := zs_ckS hF
  refine zs_iald C hK S 6 rfl h1 dX6_dark_7 ?_
  refine lv_isub hx hb dX6_dark_8 ?_
  have e2 := zs_s1 hF
  exact zs_iretE C S e2 rfl dX6_dark_9

