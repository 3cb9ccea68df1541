abbrev RMX4_hasRoomFor : Room := { frames := 0, cells := 0, slots := 0, locals := 0 }
theorem zn_X4_hasRoomFor_X4 : ∀ w ∈ wsX40, w ∈ wsX4_hasRoomFor := zs_inl wsX40 [2, 3] (by decide +kernel)
set_option maxRecDepth 100000 in
set_option maxHeartbeats 4000000 in
theorem c_X4_hasRoomFor (l : Launch) (G : GG) (aTx : Ad) (Tx : Ob) (u1 : Int32) (sz : Nat) (rr : Int32) (hF : F_X4_hasRoomFor Tx u1 = some rr) : Met l yX4_hasRoomFor wsX4_hasRoomFor RMX4_hasRoomFor (va_Pc [.ref (aTx 0), .int u1] (zs_pre G (wX4 G aTx Tx) sz)) (zs_Qi G (wX4 G aTx Tx) rr (va_A (wX4 G aTx Tx) sz)) 0 0 (va_A (wX4 G aTx Tx) sz) := by
  refine zs_met (cc := cX4_hasRoomFor) (maxL := 2) (ret := (some .boolean)) (own := RX4) (Qc := zs_Qi G (wX4 G aTx Tx) rr) (by decide) rfl rfl (Nat.le_of_ble_eq_true rfl) ?_
  intro p e s m args below meth c C A hK hA S _ _ ls hl
  have hl : lv_has ls 2 [(0, .ref (aTx 0)), (1, .int u1)] := hl
  have hx := C.1.1
  have hb := C.1.2.1
  unfold F_X4_hasRoomFor at hF
  refine lv_iload_n hx hb dX4_hasRoomFor_0 rfl (lv_at hl 1 rfl) ?_
  refine lv_sipush (v := (250 : Int32)) hx hb dX4_hasRoomFor_1 (by decide) ?_
  refine lv_aload_n hx hb dX4_hasRoomFor_4 rfl (lv_at hl 0 rfl) ?_
  refine zs_get C hK S 0 1 (Cn := RX4) (T := TX4) (N := 2) (ci := 4) rfl rfl (by decide) zn_X4_hasRoomFor_X4 (List.mem_of_getElem? (i := 1) rfl) rfl dX4_hasRoomFor_5 ?_
  refine lv_isub hx hb dX4_hasRoomFor_8 ?_
  refine lv_icmp_gt (tgt := 16) hx hb dX4_hasRoomFor_9 (by decide) (fun c1 => ?_) (fun c1 => ?_)
  · have hF := zs_t hF c1
    refine lv_iconst (v := (0 : Int32)) hx hb dX4_hasRoomFor_16 (by decide) ?_
    have e2 := zs_s1 hF
    exact zs_zretE C S rfl e2 rfl dX4_hasRoomFor_17
  · have hF := zs_f hF c1
    refine lv_iconst (v := (1 : Int32)) hx hb dX4_hasRoomFor_12 (by decide) ?_
    refine lv_goto (tgt := 17) hx hb dX4_hasRoomFor_13 (by decide) ?_
    have e3 := zs_s1 hF
    exact zs_zretE C S rfl e3 rfl dX4_hasRoomFor_17

abbrev RMX4_append : Room := { frames := 0, cells := 0, slots := 0, locals := 0 }
theorem zn_X4_append_X4 : ∀ w ∈ wsX40, w ∈ wsX4_append := zs_inl wsX40 [3, 4] (by decide +kernel)
set_option maxRecDepth 100000 in
set_option maxHeartbeats 4000000 in
theorem c_X4_append (l : Launch) (G : GG) (aTx : Ad) (Tx : Ob) (u1 : Int64) (u2 : Int32) (sz : Nat) (Tx_ : Ob) (hF : F_X4_append Tx u1 u2 = some Tx_) : Met l yX4_append wsX4_append RMX4_append (va_Pc [.ref (aTx 0), .long u1, .int u2] (zs_pre G (wX4 G aTx Tx) sz)) (zs_Qv G (wX4 G aTx Tx_) (va_A (wX4 G aTx Tx) sz)) 0 0 (va_A (wX4 G aTx Tx) sz) := by
  refine zs_met (cc := cX4_append) (maxL := 5) (ret := none) (own := RX4) (Qc := zs_Qv G (wX4 G aTx Tx_)) (by decide) rfl rfl (Nat.le_of_ble_eq_true rfl) ?_
  intro p e s m args below meth c C A hK hA S _ _ ls hl
  have hl : lv_has ls 5 [(0, .ref (aTx 0)), (1, .long u1), (3, .int u2)] := hl
  have hx := C.1.1
  have hb := C.1.2.1
  unfold F_X4_append at hF
  have j5 : ∀ (n5 : Nat) (Tx : Ob) (x1 : Int64) (x4 : Int32) (H : Heap) (locs : List Loc) (ls : Array Slot), zs_S G A s.heap H locs (wX4 G aTx Tx) → lv_has ls 5 [(0, .ref (aTx 0)), (1, .long x1), (4, .int x4)] → F_X4_append_5 n5 Tx x1 x4 = some Tx_ → W p l e RMX4_append s m args below meth c H locs 0 0 (MQ below (zs_Qv G (wX4 G aTx Tx_) A) args s 0 0 A) (F0 m 5 ls []) := by
    intro n5
    induction n5 with
    | zero => intro Tx x1 x4 H locs ls _ _ hF; rw [F_X4_append_5_z] at hF; cases hF
    | succ n5 ih5 =>
      intro Tx x1 x4 H locs ls S hl hF
      rw [F_X4_append_5_n] at hF
      unfold F_X4_append_5_s at hF
      refine lv_iload hx hb dX4_append_5 (lv_at hl 2 rfl) ?_
      refine lv_if_lt (tgt := 54) hx hb dX4_append_7 (by decide) (fun c1 => ?_) (fun c1 => ?_)
      · have hF := zs_t hF c1
        have e2 := zs_s1 hF
        exact zs_vretE C S (by rw [e2]) dX4_append_54
      · have hF := zs_f hF c1
        refine lv_aload_n hx hb dX4_append_10 rfl (lv_at hl 0 rfl) ?_
        refine zs_get C hK S 0 1 (Cn := RX4) (T := TX4) (N := 2) (ci := 4) rfl rfl (by decide) zn_X4_append_X4 (List.mem_of_getElem? (i := 1) rfl) rfl dX4_append_11 ?_
        refine lv_sipush (v := (250 : Int32)) hx hb dX4_append_14 (by decide) ?_
        refine lv_icmp_ge (tgt := 54) hx hb dX4_append_17 (by decide) (fun c3 => ?_) (fun c3 => ?_)
        · have hF := zs_t hF c3
          have e4 := zs_s1 hF
          exact zs_vretE C S (by rw [e4]) dX4_append_54
        · have hF := zs_f hF c3
          refine lv_aload_n hx hb dX4_append_20 rfl (lv_at hl 0 rfl) ?_
          refine zs_get C hK S 0 0 (Cn := RX4) (T := TX4) (N := 2) (ci := 4) rfl rfl (by decide) zn_X4_append_X4 (List.mem_of_getElem? (i := 2) rfl) rfl dX4_append_21 ?_
          refine lv_aload_n hx hb dX4_append_24 rfl (lv_at hl 0 rfl) ?_
          refine zs_get C hK S 0 1 (Cn := RX4) (T := TX4) (N := 2) (ci := 4) rfl rfl (by decide) zn_X4_append_X4 (List.mem_of_getElem? (i := 1) rfl) rfl dX4_append_25 ?_
          refine lv_lload_n hx hb dX4_append_28 rfl (lv_at hl 1 rfl) ?_
          refine lv_bipush (v := (8 : Int32)) hx hb dX4_append_29 (by decide) ?_
          refine lv_iload hx hb dX4_append_31 (lv_at hl 2 rfl) ?_
          refine lv_imul hx hb dX4_append_33 ?_
          refine lv_lushr (v := (((x1).toUInt64 >>> ((((8 : Int32) * x4)).toInt64.toUInt64 &&& Int64.toUInt64 63)).toInt64)) hx hb dX4_append_34 rfl ?_
          refine lv_l2i (v := (((((x1).toUInt64 >>> ((((8 : Int32) * x4)).toInt64.toUInt64 &&& Int64.toUInt64 63)).toInt64)).toInt32)) hx hb dX4_append_35 rfl ?_
          refine lv_i2b (v := (((((((x1).toUInt64 >>> ((((8 : Int32) * x4)).toInt64.toUInt64 &&& Int64.toUInt64 63)).toInt64)).toInt32)).toInt8.toInt32)) hx hb dX4_append_36 rfl ?_
          obtain ⟨h5, hF⟩ := zs_ckS hF
          obtain ⟨Txw6, e7⟩ : ∃ q : Ob, q = zs_up Tx 1 ((Tx 0 1)).toNatClampNeg (vp_nar .byte (((((((x1).toUInt64 >>> ((((8 : Int32) * x4)).toInt64.toUInt64 &&& Int64.toUInt64 63)).toInt64)).toInt32)).toInt8.toInt32)) := ⟨_, rfl⟩
          have hF := zs_letS hF e7
          refine zs_bast C hK S 1 (ws' := wX4 G aTx Txw6) rfl h5 (by rw [e7]; rfl) dX4_append_37 (fun H locs S => ?_)
          refine lv_aload_n hx hb dX4_append_38 rfl (lv_at hl 0 rfl) ?_
          refine lv_dup hx hb dX4_append_39 rfl ?_
          refine zs_get C hK S 0 1 (Cn := RX4) (T := TX4) (N := 2) (ci := 4) rfl rfl (by decide) zn_X4_append_X4 (List.mem_of_getElem? (i := 1) rfl) rfl dX4_append_40 ?_
          refine lv_iconst (v := (1 : Int32)) hx hb dX4_append_43 (by decide) ?_
          refine lv_iadd hx hb dX4_append_44 ?_
          obtain ⟨Txw8, e9⟩ : ∃ q : Ob, q = zs_up Txw6 0 1 ((Txw6 0 1) + (1 : Int32)) := ⟨_, rfl⟩
          have hF := zs_letS hF e9
          refine zs_put C hK S 0 1 (ws' := wX4 G aTx Txw8) (Cn := RX4) (T := TX4) (N := 2) (ci := 4) rfl rfl (by decide) zn_X4_append_X4 tyX4_ok nmX4 (List.mem_of_getElem? (i := 1) rfl) rfl rfl rfl (Nat.le_of_ble_eq_true rfl) (by rw [e9]; rfl) dX4_append_45 (fun H locs S => ?_)
          obtain ⟨z10, e11⟩ : ∃ q : Int32, q = x4 + (-1 : Int32) := ⟨_, rfl⟩
          have hF := zs_letS hF e11
          refine lv_iinc (v := z10) (lv' := [(4, .int z10), (0, .ref (aTx 0)), (1, .long x1)]) hx hb dX4_append_48 hl (k := 2) rfl (by rw [e11]; rfl) (by decide) rfl (fun ls hl => ?_)
          refine lv_goto (tgt := 5) hx hb dX4_append_51 (by decide) ?_
          exact ih5 Txw8 x1 z10 _ _ _ S (lv_sub hl [1, 2, 0] rfl) hF
  refine lv_iload_n hx hb dX4_append_0 rfl (lv_at hl 2 rfl) ?_
  refine lv_iconst (v := (1 : Int32)) hx hb dX4_append_1 (by decide) ?_
  refine lv_isub hx hb dX4_append_2 ?_
  refine lv_topi (fun z12 e13 => ?_)
  have hF := zs_letS hF e13
  refine lv_istore (lv' := [(4, .int z12), (0, .ref (aTx 0)), (1, .long u1), (3, .int u2)]) hx hb dX4_append_3 hl (by decide) rfl (fun ls hl => ?_)
  exact j5 1000 Tx u1 z12 _ _ _ S (lv_sub hl [1, 2, 0] rfl) hF

abbrev RMX4_isLetter : Room := { frames := 0, cells := 0, slots := 0, locals := 0 }
theorem zn_X4_isLetter_X4 : ∀ w ∈ wsX40, w ∈ wsX4_isLetter := zs_inl wsX40 [3, 4] (by decide +kernel)
set_option maxRecDepth 100000 in
set_option maxHeartbeats 4000000 in
theorem c_X4_isLetter (l : Launch) (G : GG) (aTx : Ad) (Tx : Ob) (u1 : Int32) (sz : Nat) (rr : Int32) (hF : F_X4_isLetter Tx u1 = some rr) : Met l yX4_isLetter wsX4_isLetter RMX4_isLetter (va_Pc [.ref (aTx 0), .int u1] (zs_pre G (wX4 G aTx Tx) sz)) (zs_Qi G (wX4 G aTx Tx) rr (va_A (wX4 G aTx Tx) sz)) 0 0 (va_A (wX4 G aTx Tx) sz) := by
  refine zs_met (cc := cX4_isLetter) (maxL := 2) (ret := (some .boolean)) (own := RX4) (Qc := zs_Qi G (wX4 G aTx Tx) rr) (by decide) rfl rfl (Nat.le_of_ble_eq_true rfl) ?_
  intro p e s m args below meth c C A hK hA S _ _ ls hl
  have hl : lv_has ls 2 [(0, .ref (aTx 0)), (1, .int u1)] := hl
  have hx := C.1.1
  have hb := C.1.2.1
  unfold F_X4_isLetter at hF
  refine lv_iload_n hx hb dX4_isLetter_0 rfl (lv_at hl 1 rfl) ?_
  refine lv_aload_n hx hb dX4_isLetter_1 rfl (lv_at hl 0 rfl) ?_
  refine zs_get C hK S 0 1 (Cn := RX4) (T := TX4) (N := 2) (ci := 4) rfl rfl (by decide) zn_X4_isLetter_X4 (List.mem_of_getElem? (i := 1) rfl) rfl dX4_isLetter_2 ?_
  refine lv_icmp_ge (tgt := 34) hx hb dX4_isLetter_5 (by decide) (fun c1 => ?_) (fun c1 => ?_)
  · have hF := zs_t hF c1
    refine lv_iconst (v := (0 : Int32)) hx hb dX4_isLetter_34 (by decide) ?_
    have e2 := zs_s1 hF
    exact zs_zretE C S rfl e2 rfl dX4_isLetter_35
  · have hF := zs_f hF c1
    refine lv_aload_n hx hb dX4_isLetter_8 rfl (lv_at hl 0 rfl) ?_
    refine zs_get C hK S 0 0 (Cn := RX4) (T := TX4) (N := 2) (ci := 4) rfl rfl (by decide) zn_X4_isLetter_X4 (List.mem_of_getElem? (i := 2) rfl) rfl dX4_isLetter_9 ?_
    refine lv_iload_n hx hb dX4_isLetter_12 rfl (lv_at hl 1 rfl) ?_
    obtain ⟨h3, hF⟩ := zs_ckS hF
    refine zs_bald C hK S 1 rfl h3 dX4_isLetter_13 ?_
    refine lv_bipush (v := (97 : Int32)) hx hb dX4_isLetter_14 (by decide) ?_
    refine lv_icmp_lt (tgt := 34) hx hb dX4_isLetter_16 (by decide) (fun c4 => ?_) (fun c4 => ?_)
    · have hF := zs_t hF c4
      refine lv_iconst (v := (0 : Int32)) hx hb dX4_isLetter_34 (by decide) ?_
      have e5 := zs_s1 hF
      exact zs_zretE C S rfl e5 rfl dX4_isLetter_35
    · have hF := zs_f hF c4
      refine lv_aload_n hx hb dX4_isLetter_19 rfl (lv_at hl 0 rfl) ?_
      refine zs_get C hK S 0 0 (Cn := RX4) (T := TX4) (N := 2) (ci := 4) rfl rfl (by decide) zn_X4_isLetter_X4 (List.mem_of_getElem? (i := 2) rfl) rfl dX4_isLetter_20 ?_
      refine lv_iload_n hx hb dX4_isLetter_23 rfl (lv_at hl 1 rfl) ?_
      obtain ⟨h6, hF⟩ := zs_ckS hF
      refine zs_bald C hK S 1 rfl h6 dX4_isLetter_24 ?_
      refine lv_bipush (v := (122 : Int32)) hx hb dX4_isLetter_25 (by decide) ?_
      refine lv_icmp_gt (tgt := 34) hx hb dX4_isLetter_27 (by decide) (fun c7 => ?_) (fun c7 => ?_)
      · have hF := zs_t hF c7
        refine lv_iconst (v := (0 : Int32)) hx hb dX4_isLetter_34 (by decide) ?_
        have e8 := zs_s1 hF
        exact zs_zretE C S rfl e8 rfl dX4_isLetter_35
      · have hF := zs_f hF c7
        refine lv_iconst (v := (1 : Int32)) hx hb dX4_isLetter_30 (by decide) ?_
        refine lv_goto (tgt := 35) hx hb dX4_isLetter_31 (by decide) ?_
        have e9 := zs_s1 hF
        exact zs_zretE C S rfl e9 rfl dX4_isLetter_35

abbrev RMX4_isDigit : Room := { frames := 0, cells := 0, slots := 0, locals := 0 }
theorem zn_X4_isDigit_X4 : ∀ w ∈ wsX40, w ∈ wsX4_isDigit := zs_inl wsX40 [3, 4] (by decide +kernel)
set_option maxRecDepth 100000 in
set_option maxHeartbeats 4000000 in
theorem c_X4_isDigit (l : Launch) (G : GG) (aTx : Ad) (Tx : Ob) (u1 : Int32) (sz : Nat) (rr : Int32) (hF : F_X4_isDigit Tx u1 = some rr) : Met l yX4_isDigit wsX4_isDigit RMX4_isDigit (va_Pc [.ref (aTx 0), .int u1] (zs_pre G (wX4 G aTx Tx) sz)) (zs_Qi G (wX4 G aTx Tx) rr (va_A (wX4 G aTx Tx) sz)) 0 0 (va_A (wX4 G aTx Tx) sz) := by
  refine zs_met (cc := cX4_isDigit) (maxL := 2) (ret := (some .boolean)) (own := RX4) (Qc := zs_Qi G (wX4 G aTx Tx) rr) (by decide) rfl rfl (Nat.le_of_ble_eq_true rfl) ?_
  intro p e s m args below meth c C A hK hA S _ _ ls hl
  have hl : lv_has ls 2 [(0, .ref (aTx 0)), (1, .int u1)] := hl
  have hx := C.1.1
  have hb := C.1.2.1
  unfold F_X4_isDigit at hF
  refine lv_iload_n hx hb dX4_isDigit_0 rfl (lv_at hl 1 rfl) ?_
  refine lv_aload_n hx hb dX4_isDigit_1 rfl (lv_at hl 0 rfl) ?_
  refine zs_get C hK S 0 1 (Cn := RX4) (T := TX4) (N := 2) (ci := 4) rfl rfl (by decide) zn_X4_isDigit_X4 (List.mem_of_getElem? (i := 1) rfl) rfl dX4_isDigit_2 ?_
  refine lv_icmp_ge (tgt := 34) hx hb dX4_isDigit_5 (by decide) (fun c1 => ?_) (fun c1 => ?_)
  · have hF := zs_t hF c1
    refine lv_iconst (v := (0 : Int32)) hx hb dX4_isDigit_34 (by decide) ?_
    have e2 := zs_s1 hF
    exact zs_zretE C S rfl e2 rfl dX4_isDigit_35
  · have hF := zs_f hF c1
    refine lv_aload_n hx hb dX4_isDigit_8 rfl (lv_at hl 0 rfl) ?_
    refine zs_get C hK S 0 0 (Cn := RX4) (T := TX4) (N := 2) (ci := 4) rfl rfl (by decide) zn_X4_isDigit_X4 (List.mem_of_getElem? (i := 2) rfl) rfl dX4_isDigit_9 ?_
    refine lv_iload_n hx hb dX4_isDigit_12 rfl (lv_at hl 1 rfl) ?_
    obtain ⟨h3, hF⟩ := zs_ckS hF
    refine zs_bald C hK S 1 rfl h3 dX4_isDigit_13 ?_
    refine lv_bipush (v := (48 : Int32)) hx hb dX4_isDigit_14 (by decide) ?_
    refine lv_icmp_lt (tgt := 34) hx hb dX4_isDigit_16 (by decide) (fun c4 => ?_) (fun c4 => ?_)
    · have hF := zs_t hF c4
      refine lv_iconst (v := (0 : Int32)) hx hb dX4_isDigit_34 (by decide) ?_
      have e5 := zs_s1 hF
      exact zs_zretE C S rfl e5 rfl dX4_isDigit_35
    · have hF := zs_f hF c4
      refine lv_aload_n hx hb dX4_isDigit_19 rfl (lv_at hl 0 rfl) ?_
      refine zs_get C hK S 0 0 (Cn := RX4) (T := TX4) (N := 2) (ci := 4) rfl rfl (by decide) zn_X4_isDigit_X4 (List.mem_of_getElem? (i := 2) rfl) rfl dX4_isDigit_20 ?_
      refine lv_iload_n hx hb dX4_isDigit_23 rfl (lv_at hl 1 rfl) ?_
      obtain ⟨h6, hF⟩ := zs_ckS hF
      refine zs_bald C hK S 1 rfl h6 dX4_isDigit_24 ?_
      refine lv_bipush (v := (57 : Int32)) hx hb dX4_isDigit_25 (by decide) ?_
      refine lv_icmp_gt (tgt := 34) hx hb dX4_isDigit_27 (by decide) (fun c7 => ?_) (fun c7 => ?_)
      · have hF := zs_t hF c7
        refine lv_iconst (v := (0 : Int32)) hx hb dX4_isDigit_34 (by decide) ?_
        have e8 := zs_s1 hF
        exact zs_zretE C S rfl e8 rfl dX4_isDigit_35
      · have hF := zs_f hF c7
        refine lv_iconst (v := (1 : Int32)) hx hb dX4_isDigit_30 (by decide) ?_
        refine lv_goto (tgt := 35) hx hb dX4_isDigit_31 (by decide) ?_
        have e9 := zs_s1 hF
        exact zs_zretE C S rfl e9 rfl dX4_isDigit_35

abbrev RMX4_isWord : Room := { frames := 4, cells := 0, slots := 0, locals := 85 }
theorem zn_X4_isWord_X4 : ∀ w ∈ wsX40, w ∈ wsX4_isWord := zs_inl wsX40 [51, 52] (by decide +kernel)
set_option maxRecDepth 100000 in
set_option maxHeartbeats 4000000 in
theorem c_X4_isWord (l : Launch) (G : GG) (aTx : Ad) (Tx : Ob) (u1 : Nat) (hk : u1 < 4) (u2 : Int32) (u3 : Int32) (sz : Nat) (rr : Int32) (hF : F_X4_isWord Tx u1 u2 u3 = some rr) : Met l yX4_isWord wsX4_isWord RMX4_isWord (va_Pc [.ref (aTx 0), .ref (G.2.2.2.2.1 u1), .int u2, .int u3] (zs_pre G (wX4 G aTx Tx) sz)) (zs_Qi G (wX4 G aTx Tx) rr (va_A (wX4 G aTx Tx) sz)) 0 0 (va_A (wX4 G aTx Tx) sz) := by
  refine zs_met (cc := cX4_isWord) (maxL := 5) (ret := (some .boolean)) (own := RX4) (Qc := zs_Qi G (wX4 G aTx Tx) rr) (by decide) rfl rfl (Nat.le_of_ble_eq_true rfl) ?_
  intro p e s m args below meth c C A hK hA S _ _ ls hl
  have hl : lv_has ls 5 [(0, .ref (aTx 0)), (1, .ref (G.2.2.2.2.1 u1)), (2, .int u2), (3, .int u3)] := hl
  have hx := C.1.1
  have hb := C.1.2.1
  unfold F_X4_isWord at hF
  have j15 : ∀ (n15 : Nat) (x2 : Int32) (x4 : Int32) (H : Heap) (locs : List Loc) (ls : Array Slot), zs_S G A s.heap H locs (wX4 G aTx Tx) → lv_has ls 5 [(0, .ref (aTx 0)), (1, .ref (G.2.2.2.2.1 u1)), (2, .int x2), (4, .int x4)] → F_X4_isWord_15 Tx u1 n15 x2 x4 = some rr → W p l e RMX4_isWord s m args below meth c H locs 0 0 (MQ below (zs_Qi G (wX4 G aTx Tx) rr A) args s 0 0 A) (F0 m 15 ls []) := by
    intro n15
    induction n15 with
    | zero => intro x2 x4 H locs ls _ _ hF; rw [F_X4_isWord_15_z] at hF; cases hF
    | succ n15 ih15 =>
      intro x2 x4 H locs ls S hl hF
      rw [F_X4_isWord_15_n] at hF
      unfold F_X4_isWord_15_s at hF
      refine lv_iload hx hb dX4_isWord_15 (lv_at hl 3 rfl) ?_
      refine lv_aload_n hx hb dX4_isWord_17 rfl (lv_at hl 1 rfl) ?_
      refine zs_calliP S hA (zs_runVs C hK hA S [] [.int x4] u1 0 hk (c_J0_length l G u1 hk H.size) gX4_isWord_J0_length_8abf5 rfl rfl rfl zd_J0_length ⟨Nat.le_of_ble_eq_true rfl, Nat.le_of_ble_eq_true rfl⟩ rfl hl rfl (Nat.le_of_ble_eq_true rfl) dX4_isWord_18 ⟨Nat.le_of_ble_eq_true rfl, Nat.le_of_ble_eq_true rfl⟩) (fun H locs S => ?_)
      refine lv_icmp_ge (tgt := 50) hx hb dX4_isWord_21 (by decide) (fun c1 => ?_) (fun c1 => ?_)
      · have hF := zs_t hF c1
        refine lv_iconst (v := (1 : Int32)) hx hb dX4_isWord_50 (by decide) ?_
        have e2 := zs_s1 hF
        exact zs_zretE C S rfl e2 rfl dX4_isWord_51
      · have hF := zs_f hF c1
        refine lv_aload_n hx hb dX4_isWord_24 rfl (lv_at hl 0 rfl) ?_
        refine zs_get C hK S 0 0 (Cn := RX4) (T := TX4) (N := 2) (ci := 4) rfl rfl (by decide) zn_X4_isWord_X4 (List.mem_of_getElem? (i := 1) rfl) rfl dX4_isWord_25 ?_
        refine lv_iload_n hx hb dX4_isWord_28 rfl (lv_at hl 2 rfl) ?_
        refine lv_iload hx hb dX4_isWord_29 (lv_at hl 3 rfl) ?_
        refine lv_iadd hx hb dX4_isWord_31 ?_
        obtain ⟨h3, hF⟩ := zs_ckS hF
        refine zs_bald C hK S 1 rfl h3 dX4_isWord_32 ?_
        refine lv_aload_n hx hb dX4_isWord_33 rfl (lv_at hl 1 rfl) ?_
        refine lv_iload hx hb dX4_isWord_34 (lv_at hl 3 rfl) ?_
        obtain ⟨h4, hF⟩ := zs_chS hF
        refine zs_calliP S hA (zs_runVs C hK hA S [.int x4] [.int (Tx 1 ((x2 + x4)).toNatClampNeg)] u1 1 hk (c_J0_charAt l G u1 hk x4 h4.1 h4.2 H.size) gX4_isWord_J0_charAt_5068e rfl rfl rfl zd_J0_charAt ⟨Nat.le_of_ble_eq_true rfl, Nat.le_of_ble_eq_true rfl⟩ rfl hl rfl (Nat.le_of_ble_eq_true rfl) dX4_isWord_36 ⟨Nat.le_of_ble_eq_true rfl, Nat.le_of_ble_eq_true rfl⟩) (fun H locs S => ?_)
        refine lv_icmp_eq (tgt := 44) hx hb dX4_isWord_39 (by decide) (fun c5 => ?_) (fun c5 => ?_)
        · have hF := zs_t hF c5
          obtain ⟨z6, e7⟩ : ∃ q : Int32, q = x4 + (1 : Int32) := ⟨_, rfl⟩
          have hF := zs_letS hF e7
          refine lv_iinc (v := z6) (lv' := [(4, .int z6), (0, .ref (aTx 0)), (1, .ref (G.2.2.2.2.1 u1)), (2, .int x2)]) hx hb dX4_isWord_44 hl (k := 3) rfl (by rw [e7]; rfl) (by decide) rfl (fun ls hl => ?_)
          refine lv_goto (tgt := 15) hx hb dX4_isWord_47 (by decide) ?_
          exact ih15 x2 z6 _ _ _ S (lv_sub hl [1, 2, 3, 0] rfl) hF
        · have hF := zs_f hF c5
          refine lv_iconst (v := (0 : Int32)) hx hb dX4_isWord_42 (by decide) ?_
          have e8 := zs_s1 hF
          exact zs_zretE C S rfl e8 rfl dX4_isWord_43
  refine lv_iload_n hx hb dX4_isWord_0 rfl (lv_at hl 3 rfl) ?_
  refine lv_iload_n hx hb dX4_isWord_1 rfl (lv_at hl 2 rfl) ?_
  refine lv_isub hx hb dX4_isWord_2 ?_
  refine lv_aload_n hx hb dX4_isWord_3 rfl (lv_at hl 1 rfl) ?_
  refine zs_calliP S hA (zs_runVs C hK hA S [] [.int (u3 - u2)] u1 0 hk (c_J0_length l G u1 hk s.heap.size) gX4_isWord_J0_length_8abf5 rfl rfl rfl zd_J0_length ⟨Nat.le_of_ble_eq_true rfl, Nat.le_of_ble_eq_true rfl⟩ rfl hl rfl (Nat.le_of_ble_eq_true rfl) dX4_isWord_4 ⟨Nat.le_of_ble_eq_true rfl, Nat.le_of_ble_eq_true rfl⟩) (fun H locs S => ?_)
  refine lv_icmp_eq (tgt := 12) hx hb dX4_isWord_7 (by decide) (fun c9 => ?_) (fun c9 => ?_)
  · have hF := zs_t hF c9
    refine lv_iconst (v := (0 : Int32)) hx hb dX4_isWord_12 (by decide) ?_
    refine lv_istore (lv' := [(4, .int (0 : Int32)), (0, .ref (aTx 0)), (1, .ref (G.2.2.2.2.1 u1)), (2, .int u2), (3, .int u3)]) hx hb dX4_isWord_13 hl (by decide) rfl (fun ls hl => ?_)
    exact j15 1000 u2 (0 : Int32) _ _ _ S (lv_sub hl [1, 2, 3, 0] rfl) hF
  · have hF := zs_f hF c9
    refine lv_iconst (v := (0 : Int32)) hx hb dX4_isWord_10 (by decide) ?_
    have e10 := zs_s1 hF
    exact zs_zretE C S rfl e10 rfl dX4_isWord_11

abbrev RMX5_add : Room := { frames := 0, cells := 0, slots := 0, locals := 0 }
theorem zn_X5_add_X5 : ∀ w ∈ wsX50, w ∈ wsX5_add := zs_inl wsX50 [5, 6, 7, 8] (by decide +kernel)
set_option maxRecDepth 100000 in
set_option maxHeartbeats 4000000 in
theorem c_X5_add (l : Launch) (G : GG) (aTk : Ad) (Tk : Ob) (u1 : Int32) (u2 : Int32) (u3 : Int32) (sz : Nat) (Tk_ : Ob) (hF : F_X5_add Tk u1 u2 u3 = some Tk_) : Met l yX5_add wsX5_add RMX5_add (va_Pc [.ref (aTk 0), .int u1, .int u2, .int u3] (zs_pre G (wX5 G aTk Tk) sz)) (zs_Qv G (wX5 G aTk Tk_) (va_A (wX5 G aTk Tk) sz)) 0 0 (va_A (wX5 G aTk Tk) sz) := by
  refine zs_met (cc := cX5_add) (maxL := 4) (ret := none) (own := RX5) (Qc := zs_Qv G (wX5 G aTk Tk_)) (by decide) rfl rfl (Nat.le_of_ble_eq_true rfl) ?_
  intro p e s m args below meth c C A hK hA S _ _ ls hl
  have hl : lv_has ls 4 [(0, .ref (aTk 0)), (1, .int u1), (2, .int u2), (3, .int u3)] := hl
  have hx := C.1.1
  have hb := C.1.2.1
  unfold F_X5_add at hF
  refine lv_aload_n hx hb dX5_add_0 rfl (lv_at hl 0 rfl) ?_
  refine zs_get C hK S 0 3 (Cn := RX5) (T := TX5) (N := 4) (ci := 5) rfl rfl (by decide) zn_X5_add_X5 (List.mem_of_getElem? (i := 1) rfl) rfl dX5_add_1 ?_
  refine lv_sipush (v := (251 : Int32)) hx hb dX5_add_4 (by decide) ?_
  refine lv_icmp_ge (tgt := 50) hx hb dX5_add_7 (by decide) (fun c1 => ?_) (fun c1 => ?_)
  · have hF := zs_t hF c1
    have e2 := zs_s1 hF
    exact zs_vretE C S (by rw [e2]) dX5_add_50
  · have hF := zs_f hF c1
    refine lv_aload_n hx hb dX5_add_10 rfl (lv_at hl 0 rfl) ?_
    refine zs_get C hK S 0 0 (Cn := RX5) (T := TX5) (N := 4) (ci := 5) rfl rfl (by decide) zn_X5_add_X5 (List.mem_of_getElem? (i := 2) rfl) rfl dX5_add_11 ?_
    refine lv_aload_n hx hb dX5_add_14 rfl (lv_at hl 0 rfl) ?_
    refine zs_get C hK S 0 3 (Cn := RX5) (T := TX5) (N := 4) (ci := 5) rfl rfl (by decide) zn_X5_add_X5 (List.mem_of_getElem? (i := 1) rfl) rfl dX5_add_15 ?_
    refine lv_iload_n hx hb dX5_add_18 rfl (lv_at hl 1 rfl) ?_
    obtain ⟨h3, hF⟩ := zs_ckS hF
    obtain ⟨Tkw4, e5⟩ : ∃ q : Ob, q = zs_up Tk 1 ((Tk 0 3)).toNatClampNeg u1 := ⟨_, rfl⟩
    have hF := zs_letS hF e5
    refine zs_iast C hK S 1 (ws' := wX5 G aTk Tkw4) rfl h3 (by rw [e5]; rfl) dX5_add_19 (fun H locs S => ?_)
    refine lv_aload_n hx hb dX5_add_20 rfl (lv_at hl 0 rfl) ?_
    refine zs_get C hK S 0 1 (Cn := RX5) (T := TX5) (N := 4) (ci := 5) rfl rfl (by decide) zn_X5_add_X5 (List.mem_of_getElem? (i := 3) rfl) rfl dX5_add_21 ?_
    refine lv_aload_n hx hb dX5_add_24 rfl (lv_at hl 0 rfl) ?_
    refine zs_get C hK S 0 3 (Cn := RX5) (T := TX5) (N := 4) (ci := 5) rfl rfl (by decide) zn_X5_add_X5 (List.mem_of_getElem? (i := 1) rfl) rfl dX5_add_25 ?_
    refine lv_iload_n hx hb dX5_add_28 rfl (lv_at hl 2 rfl) ?_
    obtain ⟨h6, hF⟩ := zs_ckS hF
    obtain ⟨Tkw7, e8⟩ : ∃ q : Ob, q = zs_up Tkw4 2 ((Tkw4 0 3)).toNatClampNeg u2 := ⟨_, rfl⟩
    have hF := zs_letS hF e8
    refine zs_iast C hK S 2 (ws' := wX5 G aTk Tkw7) rfl h6 (by rw [e8]; rfl) dX5_add_29 (fun H locs S => ?_)
    refine lv_aload_n hx hb dX5_add_30 rfl (lv_at hl 0 rfl) ?_
    refine zs_get C hK S 0 2 (Cn := RX5) (T := TX5) (N := 4) (ci := 5) rfl rfl (by decide) zn_X5_add_X5 (List.mem_of_getElem? (i := 4) rfl) rfl dX5_add_31 ?_
    refine lv_aload_n hx hb dX5_add_34 rfl (lv_at hl 0 rfl) ?_
    refine zs_get C hK S 0 3 (Cn := RX5) (T := TX5) (N := 4) (ci := 5) rfl rfl (by decide) zn_X5_add_X5 (List.mem_of_getElem? (i := 1) rfl) rfl dX5_add_35 ?_
    refine lv_iload_n hx hb dX5_add_38 rfl (lv_at hl 3 rfl) ?_
    obtain ⟨h9, hF⟩ := zs_ckS hF
    obtain ⟨Tkw10, e11⟩ : ∃ q : Ob, q = zs_up Tkw7 3 ((Tkw7 0 3)).toNatClampNeg u3 := ⟨_, rfl⟩
    have hF := zs_letS hF e11
    refine zs_iast C hK S 3 (ws' := wX5 G aTk Tkw10) rfl h9 (by rw [e11]; rfl) dX5_add_39 (fun H locs S => ?_)
    refine lv_aload_n hx hb dX5_add_40 rfl (lv_at hl 0 rfl) ?_
    refine lv_dup hx hb dX5_add_41 rfl ?_
    refine zs_get C hK S 0 3 (Cn := RX5) (T := TX5) (N := 4) (ci := 5) rfl rfl (by decide) zn_X5_add_X5 (List.mem_of_getElem? (i := 1) rfl) rfl dX5_add_42 ?_
    refine lv_iconst (v := (1 : Int32)) hx hb dX5_add_45 (by decide) ?_
    refine lv_iadd hx hb dX5_add_46 ?_
    obtain ⟨Tkw12, e13⟩ : ∃ q : Ob, q = zs_up Tkw10 0 3 ((Tkw10 0 3) + (1 : Int32)) := ⟨_, rfl⟩
    have hF := zs_letS hF e13
    refine zs_put C hK S 0 3 (ws' := wX5 G aTk Tkw12) (Cn := RX5) (T := TX5) (N := 4) (ci := 5) rfl rfl (by decide) zn_X5_add_X5 tyX5_ok nmX5 (List.mem_of_getElem? (i := 1) rfl) rfl rfl rfl (Nat.le_of_ble_eq_true rfl) (by rw [e13]; rfl) dX5_add_47 (fun H locs S => ?_)
    have e14 := zs_s1 hF
    exact zs_vretE C S (by rw [e14]) dX5_add_50

abbrev RMX5_skipBlanks : Room := { frames := 0, cells := 0, slots := 0, locals := 0 }
theorem zn_X5_skipBlanks_X4 : ∀ w ∈ wsX40, w ∈ wsX5_skipBlanks := zs_inl wsX40 [3, 4] (by decide +kernel)
set_option maxRecDepth 100000 in
set_option maxHeartbeats 4000000 in
theorem c_X5_skipBlanks (l : Launch) (G : GG) (aTk aTx : Ad) (Tk : Ob) (Tx : Ob) (u2 : Int32) (sz : Nat) (rr : Int32) (hF : F_X5_skipBlanks Tk Tx u2 = some rr) : Met l yX5_skipBlanks wsX5_skipBlanks RMX5_skipBlanks (va_Pc [.ref (aTk 0), .ref (aTx 0), .int u2] (zs_pre G (wX5 G aTk Tk ++ wX4 G aTx Tx) sz)) (zs_Qi G (wX5 G aTk Tk ++ wX4 G aTx Tx) rr (va_A (wX5 G aTk Tk ++ wX4 G aTx Tx) sz)) 0 0 (va_A (wX5 G aTk Tk ++ wX4 G aTx Tx) sz) := by
  refine zs_met (cc := cX5_skipBlanks) (maxL := 4) (ret := (some .int)) (own := RX5) (Qc := zs_Qi G (wX5 G aTk Tk ++ wX4 G aTx Tx) rr) (by decide) rfl rfl (Nat.le_of_ble_eq_true rfl) ?_
  intro p e s m args below meth c C A hK hA S _ _ ls hl
  have hl : lv_has ls 4 [(0, .ref (aTk 0)), (1, .ref (aTx 0)), (2, .int u2)] := hl
  have hx := C.1.1
  have hb := C.1.2.1
  unfold F_X5_skipBlanks at hF
  have j2 : ∀ (n2 : Nat) (x3 : Int32) (H : Heap) (locs : List Loc) (ls : Array Slot), zs_S G A s.heap H locs (wX5 G aTk Tk ++ wX4 G aTx Tx) → lv_has ls 4 [(1, .ref (aTx 0)), (3, .int x3)] → F_X5_skipBlanks_2 Tk Tx n2 x3 = some rr → W p l e RMX5_skipBlanks s m args below meth c H locs 0 0 (MQ below (zs_Qi G (wX5 G aTk Tk ++ wX4 G aTx Tx) rr A) args s 0 0 A) (F0 m 2 ls []) := by
    intro n2
    induction n2 with
    | zero => intro x3 H locs ls _ _ hF; rw [F_X5_skipBlanks_2_z] at hF; cases hF
    | succ n2 ih2 =>
      intro x3 H locs ls S hl hF
      rw [F_X5_skipBlanks_2_n] at hF
      unfold F_X5_skipBlanks_2_s at hF
      refine lv_iload_n hx hb dX5_skipBlanks_2 rfl (lv_at hl 1 rfl) ?_
      refine lv_aload_n hx hb dX5_skipBlanks_3 rfl (lv_at hl 0 rfl) ?_
      refine zs_get C hK S 4 1 (Cn := RX4) (T := TX4) (N := 2) (ci := 4) rfl rfl (by decide) zn_X5_skipBlanks_X4 (List.mem_of_getElem? (i := 1) rfl) rfl dX5_skipBlanks_4 ?_
      refine lv_icmp_ge (tgt := 27) hx hb dX5_skipBlanks_7 (by decide) (fun c1 => ?_) (fun c1 => ?_)
      · have hF := zs_t hF c1
        refine lv_iload_n hx hb dX5_skipBlanks_27 rfl (lv_at hl 1 rfl) ?_
        have e2 := zs_s1 hF
        exact zs_iretE C S e2 rfl dX5_skipBlanks_28
      · have hF := zs_f hF c1
        refine lv_aload_n hx hb dX5_skipBlanks_10 rfl (lv_at hl 0 rfl) ?_
        refine zs_get C hK S 4 0 (Cn := RX4) (T := TX4) (N := 2) (ci := 4) rfl rfl (by decide) zn_X5_skipBlanks_X4 (List.mem_of_getElem? (i := 2) rfl) rfl dX5_skipBlanks_11 ?_
        refine lv_iload_n hx hb dX5_skipBlanks_14 rfl (lv_at hl 1 rfl) ?_
        obtain ⟨h3, hF⟩ := zs_ckS hF
        refine zs_bald C hK S 5 rfl h3 dX5_skipBlanks_15 ?_
        refine lv_bipush (v := (32 : Int32)) hx hb dX5_skipBlanks_16 (by decide) ?_
        refine lv_icmp_ne (tgt := 27) hx hb dX5_skipBlanks_18 (by decide) (fun c4 => ?_) (fun c4 => ?_)
        · have hF := zs_f hF c4
          refine lv_iload_n hx hb dX5_skipBlanks_27 rfl (lv_at hl 1 rfl) ?_
          have e5 := zs_s1 hF
          exact zs_iretE C S e5 rfl dX5_skipBlanks_28
        · have hF := zs_t hF c4
          obtain ⟨z6, e7⟩ : ∃ q : Int32, q = x3 + (1 : Int32) := ⟨_, rfl⟩
          have hF := zs_letS hF e7
          refine lv_iinc (v := z6) (lv' := [(3, .int z6), (1, .ref (aTx 0))]) hx hb dX5_skipBlanks_21 hl (k := 1) rfl (by rw [e7]; rfl) (by decide) rfl (fun ls hl => ?_)
          refine lv_goto (tgt := 2) hx hb dX5_skipBlanks_24 (by decide) ?_
          exact ih2 z6 _ _ _ S (lv_sub hl [1, 0] rfl) hF
  refine lv_iload_n hx hb dX5_skipBlanks_0 rfl (lv_at hl 2 rfl) ?_
  refine lv_istore_n (lv' := [(3, .int u2), (0, .ref (aTk 0)), (1, .ref (aTx 0)), (2, .int u2)]) hx hb dX5_skipBlanks_1 rfl hl (by decide) rfl (fun ls hl => ?_)
  exact j2 1000 u2 _ _ _ S (lv_sub hl [2, 0] rfl) hF

theorem zd_X4_isWord : yX4_isWord.cls = RX4 ∧ yX4_isWord.cls ≠ "java/lang/invoke/MethodHandle" ∧ yX4_isWord.cls ≠ "java/lang/invoke/VarHandle" ∧ (parseMethodDescriptor yX4_isWord.desc).map (fun d => d.parameters.length) = some 3 := by decide +kernel
abbrev RMX5_whichWord : Room := { frames := 5, cells := 0, slots := 0, locals := 109 }
set_option maxRecDepth 100000 in
set_option maxHeartbeats 4000000 in
theorem c_X5_whichWord (l : Launch) (G : GG) (aTk aTx : Ad) (Tk : Ob) (Tx : Ob) (u2 : Int32) (u3 : Int32) (sz : Nat) (rr : Int32) (hF : F_X5_whichWord Tk Tx u2 u3 = some rr) : Met l yX5_whichWord wsX5_whichWord RMX5_whichWord (va_Pc [.ref (aTk 0), .ref (aTx 0), .int u2, .int u3] (zs_pre G (wX5 G aTk Tk ++ wX4 G aTx Tx) sz)) (zs_Qi G (wX5 G aTk Tk ++ wX4 G aTx Tx) rr (va_A (wX5 G aTk Tk ++ wX4 G aTx Tx) sz)) 0 0 (va_A (wX5 G aTk Tk ++ wX4 G aTx Tx) sz) := by
  refine zs_met (cc := cX5_whichWord) (maxL := 4) (ret := (some .int)) (own := RX5) (Qc := zs_Qi G (wX5 G aTk Tk ++ wX4 G aTx Tx) rr) (by decide) rfl rfl (Nat.le_of_ble_eq_true rfl) ?_
  intro p e s m args below meth c C A hK hA S _ _ ls hl
  have hl : lv_has ls 4 [(0, .ref (aTk 0)), (1, .ref (aTx 0)), (2, .int u2), (3, .int u3)] := hl
  have hx := C.1.1
  have hb := C.1.2.1
  unfold F_X5_whichWord at hF
  refine lv_aload_n hx hb dX5_whichWord_0 rfl (lv_at hl 1 rfl) ?_
  refine va_ldcS hx hb C.1.2.2.2.1 hK.1.2.2.1 dX5_whichWord_1 ?_
  refine lv_iload_n hx hb dX5_whichWord_3 rfl (lv_at hl 2 rfl) ?_
  refine lv_iload_n hx hb dX5_whichWord_4 rfl (lv_at hl 3 rfl) ?_
  obtain ⟨r1, f2, hF⟩ := zs_bdS hF
  refine zs_calli (wr := wX5 G aTk Tk) (ws' := wX5 G aTk Tk ++ wX4 G aTx Tx) S hA [4, 5] [0, 1, 2, 3] [0, 1, 2, 3, 4, 5] (zs_runV C hK hA S [.ref (G.2.2.2.2.1 0), .int u2, .int u3] [] [4, 5] 4 3 (c_X4_isWord l G aTx Tx 0 (by decide) u2 u3 s.heap.size r1 f2) gX5_whichWord_X4_isWord rfl rfl rfl zd_X4_isWord ⟨Nat.le_of_ble_eq_true rfl, Nat.le_of_ble_eq_true rfl⟩ rfl rfl rfl rfl rfl hl rfl (Nat.le_of_ble_eq_true rfl) dX5_whichWord_5 ⟨Nat.le_of_ble_eq_true rfl, Nat.le_of_ble_eq_true rfl⟩) rfl rfl rfl (by decide) rfl rfl (fun H locs S => ?_)
  refine lv_if_eq (tgt := 13) hx hb dX5_whichWord_8 (by decide) (fun c3 => ?_) (fun c3 => ?_)
  · have hF := zs_t hF c3
    refine lv_aload_n hx hb dX5_whichWord_13 rfl (lv_at hl 1 rfl) ?_
    refine va_ldcS hx hb C.1.2.2.2.1 hK.1.2.2.2.1 dX5_whichWord_14 ?_
    refine lv_iload_n hx hb dX5_whichWord_16 rfl (lv_at hl 2 rfl) ?_
    refine lv_iload_n hx hb dX5_whichWord_17 rfl (lv_at hl 3 rfl) ?_
    obtain ⟨r4, f5, hF⟩ := zs_bdS hF
    refine zs_calli (wr := wX5 G aTk Tk) (ws' := wX5 G aTk Tk ++ wX4 G aTx Tx) S hA [4, 5] [0, 1, 2, 3] [0, 1, 2, 3, 4, 5] (zs_runV C hK hA S [.ref (G.2.2.2.2.1 1), .int u2, .int u3] [] [4, 5] 4 3 (c_X4_isWord l G aTx Tx 1 (by decide) u2 u3 H.size r4 f5) gX5_whichWord_X4_isWord rfl rfl rfl zd_X4_isWord ⟨Nat.le_of_ble_eq_true rfl, Nat.le_of_ble_eq_true rfl⟩ rfl rfl rfl rfl rfl hl rfl (Nat.le_of_ble_eq_true rfl) dX5_whichWord_18 ⟨Nat.le_of_ble_eq_true rfl, Nat.le_of_ble_eq_true rfl⟩) rfl rfl rfl (by decide) rfl rfl (fun H locs S => ?_)
    refine lv_if_eq (tgt := 26) hx hb dX5_whichWord_21 (by decide) (fun c6 => ?_) (fun c6 => ?_)
    · have hF := zs_t hF c6
      refine lv_aload_n hx hb dX5_whichWord_26 rfl (lv_at hl 1 rfl) ?_
      refine va_ldcS hx hb C.1.2.2.2.1 hK.1.2.2.2.2.1 dX5_whichWord_27 ?_
      refine lv_iload_n hx hb dX5_whichWord_29 rfl (lv_at hl 2 rfl) ?_
      refine lv_iload_n hx hb dX5_whichWord_30 rfl (lv_at hl 3 rfl) ?_
      obtain ⟨r7, f8, hF⟩ := zs_bdS hF
      refine zs_calli (wr := wX5 G aTk Tk) (ws' := wX5 G aTk Tk ++ wX4 G aTx Tx) S hA [4, 5] [0, 1, 2, 3] [0, 1, 2, 3, 4, 5] (zs_runV C hK hA S [.ref (G.2.2.2.2.1 2), .int u2, .int u3] [] [4, 5] 4 3 (c_X4_isWord l G aTx Tx 2 (by decide) u2 u3 H.size r7 f8) gX5_whichWord_X4_isWord rfl rfl rfl zd_X4_isWord ⟨Nat.le_of_ble_eq_true rfl, Nat.le_of_ble_eq_true rfl⟩ rfl rfl rfl rfl rfl hl rfl (Nat.le_of_ble_eq_true rfl) dX5_whichWord_31 ⟨Nat.le_of_ble_eq_true rfl, Nat.le_of_ble_eq_true rfl⟩) rfl rfl rfl (by decide) rfl rfl (fun H locs S => ?_)
      refine lv_if_eq (tgt := 39) hx hb dX5_whichWord_34 (by decide) (fun c9 => ?_) (fun c9 => ?_)
      · have hF := zs_t hF c9
        refine lv_aload_n hx hb dX5_whichWord_39 rfl (lv_at hl 1 rfl) ?_
        refine va_ldcS hx hb C.1.2.2.2.1 hK.1.2.2.2.2.2 dX5_whichWord_40 ?_
        refine lv_iload_n hx hb dX5_whichWord_42 rfl (lv_at hl 2 rfl) ?_
        refine lv_iload_n hx hb dX5_whichWord_43 rfl (lv_at hl 3 rfl) ?_
        obtain ⟨r10, f11, hF⟩ := zs_bdS hF
        refine zs_calli (wr := wX5 G aTk Tk) (ws' := wX5 G aTk Tk ++ wX4 G aTx Tx) S hA [4, 5] [0, 1, 2, 3] [0, 1, 2, 3, 4, 5] (zs_runV C hK hA S [.ref (G.2.2.2.2.1 3), .int u2, .int u3] [] [4, 5] 4 3 (c_X4_isWord l G aTx Tx 3 (by decide) u2 u3 H.size r10 f11) gX5_whichWord_X4_isWord rfl rfl rfl zd_X4_isWord ⟨Nat.le_of_ble_eq_true rfl, Nat.le_of_ble_eq_true rfl⟩ rfl rfl rfl rfl rfl hl rfl (Nat.le_of_ble_eq_true rfl) dX5_whichWord_44 ⟨Nat.le_of_ble_eq_true rfl, Nat.le_of_ble_eq_true rfl⟩) rfl rfl rfl (by decide) rfl rfl (fun H locs S => ?_)
        refine lv_if_eq (tgt := 54) hx hb dX5_whichWord_47 (by decide) (fun c12 => ?_) (fun c12 => ?_)
        · have hF := zs_t hF c12
          refine lv_iconst (v := (0 : Int32)) hx hb dX5_whichWord_54 (by decide) ?_
          have e13 := zs_s1 hF
          exact zs_iretE C S e13 rfl dX5_whichWord_55
        · have hF := zs_f hF c12
          refine lv_iconst (v := (4 : Int32)) hx hb dX5_whichWord_50 (by decide) ?_
          refine lv_goto (tgt := 55) hx hb dX5_whichWord_51 (by decide) ?_
          have e14 := zs_s1 hF
          exact zs_iretE C S e14 rfl dX5_whichWord_55
      · have hF := zs_f hF c9
        refine lv_iconst (v := (3 : Int32)) hx hb dX5_whichWord_37 (by decide) ?_
        have e15 := zs_s1 hF
        exact zs_iretE C S e15 rfl dX5_whichWord_38
    · have hF := zs_f hF c6
      refine lv_iconst (v := (2 : Int32)) hx hb dX5_whichWord_24 (by decide) ?_
      have e16 := zs_s1 hF
      exact zs_iretE C S e16 rfl dX5_whichWord_25
  · have hF := zs_f hF c3
    refine lv_iconst (v := (1 : Int32)) hx hb dX5_whichWord_11 (by decide) ?_
    have e17 := zs_s1 hF
    exact zs_iretE C S e17 rfl dX5_whichWord_12

theorem zd_X4_isLetter : yX4_isLetter.cls = RX4 ∧ yX4_isLetter.cls ≠ "java/lang/invoke/MethodHandle" ∧ yX4_isLetter.cls ≠ "java/lang/invoke/VarHandle" ∧ (parseMethodDescriptor yX4_isLetter.desc).map (fun d => d.parameters.length) = some 1 := by decide +kernel
theorem zd_X5_add : yX5_add.cls = RX5 ∧ yX5_add.cls ≠ "java/lang/invoke/MethodHandle" ∧ yX5_add.cls ≠ "java/lang/invoke/VarHandle" ∧ (parseMethodDescriptor yX5_add.desc).map (fun d => d.parameters.length) = some 3 := by decide +kernel
theorem zd_X5_whichWord : yX5_whichWord.cls = RX5 ∧ yX5_whichWord.cls ≠ "java/lang/invoke/MethodHandle" ∧ yX5_whichWord.cls ≠ "java/lang/invoke/VarHandle" ∧ (parseMethodDescriptor yX5_whichWord.desc).map (fun d => d.parameters.length) = some 3 := by decide +kernel
abbrev RMX5_cutWord : Room := { frames := 6, cells := 0, slots := 0, locals := 132 }
theorem zn_X5_cutWord_X4 : ∀ w ∈ wsX40, w ∈ wsX5_cutWord := zs_inl wsX40 [75, 76] (by decide +kernel)
set_option maxRecDepth 100000 in
set_option maxHeartbeats 4000000 in
theorem c_X5_cutWord (l : Launch) (G : GG) (aTk aTx : Ad) (Tk : Ob) (Tx : Ob) (u2 : Int32) (sz : Nat) (rr : Int32) (Tk_ : Ob) (hF : F_X5_cutWord Tk Tx u2 = some (rr, Tk_)) : Met l yX5_cutWord wsX5_cutWord RMX5_cutWord (va_Pc [.ref (aTk 0), .ref (aTx 0), .int u2] (zs_pre G (wX5 G aTk Tk ++ wX4 G aTx Tx) sz)) (zs_Qi G (wX5 G aTk Tk_ ++ wX4 G aTx Tx) rr (va_A (wX5 G aTk Tk ++ wX4 G aTx Tx) sz)) 0 0 (va_A (wX5 G aTk Tk ++ wX4 G aTx Tx) sz) := by
  refine zs_met (cc := cX5_cutWord) (maxL := 5) (ret := (some .int)) (own := RX5) (Qc := zs_Qi G (wX5 G aTk Tk_ ++ wX4 G aTx Tx) rr) (by decide) rfl rfl (Nat.le_of_ble_eq_true rfl) ?_
  intro p e s m args below meth c C A hK hA S _ _ ls hl
  have hl : lv_has ls 5 [(0, .ref (aTk 0)), (1, .ref (aTx 0)), (2, .int u2)] := hl
  have hx := C.1.1
  have hb := C.1.2.1
  unfold F_X5_cutWord at hF
  have j45 : ∀ (Tk : Ob) (x3 : Int32) (x4 : Int32) (y0 : Int32) (y1 : Int32) (H : Heap) (locs : List Loc) (ls : Array Slot), zs_S G A s.heap H locs (wX5 G aTk Tk ++ wX4 G aTx Tx) → lv_has ls 5 [(3, .int x3), (4, .int x4)] → F_X5_cutWord_45 Tx Tk x3 x4 y0 y1 = some (rr, Tk_) → W p l e RMX5_cutWord s m args below meth c H locs 0 0 (MQ below (zs_Qi G (wX5 G aTk Tk_ ++ wX4 G aTx Tx) rr A) args s 0 0 A) (F0 m 45 ls [.int y0, .int y1, .ref (aTk 0)]) := by
    intro Tk x3 x4 y0 y1 H locs ls S hl hF
    unfold F_X5_cutWord_45 at hF
    refine lv_iload hx hb dX5_cutWord_45 (lv_at hl 1 rfl) ?_
    obtain ⟨Tkw1, f2, hF⟩ := zs_bdS hF
    refine zs_callv (wr := wX4 G aTx Tx) (ws' := wX5 G aTk Tkw1 ++ wX4 G aTx Tx) S hA [0, 1, 2, 3] [4, 5] [2, 3, 4, 5, 0, 1] (zs_runV C hK hA S [.int y1, .int y0, .int x4] [] [0, 1, 2, 3] 0 3 (c_X5_add l G aTk Tk y1 y0 x4 H.size Tkw1 f2) gX5_cutWord_X5_add rfl rfl rfl zd_X5_add ⟨Nat.le_of_ble_eq_true rfl, Nat.le_of_ble_eq_true rfl⟩ rfl rfl rfl rfl rfl hl rfl (Nat.le_of_ble_eq_true rfl) dX5_cutWord_47 ⟨Nat.le_of_ble_eq_true rfl, Nat.le_of_ble_eq_true rfl⟩) rfl rfl rfl (by decide) rfl rfl (fun H locs S => ?_)
    refine lv_iload_n hx hb dX5_cutWord_50 rfl (lv_at hl 0 rfl) ?_
    obtain ⟨e3, e4⟩ := zs_s2 hF
    exact zs_iretE C S e3 (by rw [e4]) dX5_cutWord_51
  have j24 : ∀ (Tk : Ob) (x2 : Int32) (x3 : Int32) (H : Heap) (locs : List Loc) (ls : Array Slot), zs_S G A s.heap H locs (wX5 G aTk Tk ++ wX4 G aTx Tx) → lv_has ls 5 [(0, .ref (aTk 0)), (1, .ref (aTx 0)), (2, .int x2), (3, .int x3)] → F_X5_cutWord_24 Tx Tk x2 x3 = some (rr, Tk_) → W p l e RMX5_cutWord s m args below meth c H locs 0 0 (MQ below (zs_Qi G (wX5 G aTk Tk_ ++ wX4 G aTx Tx) rr A) args s 0 0 A) (F0 m 24 ls []) := by
    intro Tk x2 x3 H locs ls S hl hF
    unfold F_X5_cutWord_24 at hF
    refine lv_aload_n hx hb dX5_cutWord_24 rfl (lv_at hl 0 rfl) ?_
    refine lv_aload_n hx hb dX5_cutWord_25 rfl (lv_at hl 1 rfl) ?_
    refine lv_iload_n hx hb dX5_cutWord_26 rfl (lv_at hl 2 rfl) ?_
    refine lv_iload_n hx hb dX5_cutWord_27 rfl (lv_at hl 3 rfl) ?_
    obtain ⟨r5, f6, hF⟩ := zs_bdS hF
    refine zs_calli (wr := ([] : va_W)) (ws' := wX5 G aTk Tk ++ wX4 G aTx Tx) S hA [0, 1, 2, 3, 4, 5] [] [0, 1, 2, 3, 4, 5] (zs_runV C hK hA S [.ref (aTx 0), .int x2, .int x3] [] [0, 1, 2, 3, 4, 5] 0 3 (c_X5_whichWord l G aTk aTx Tk Tx x2 x3 H.size r5 f6) gX5_cutWord_X5_whichWord rfl rfl rfl zd_X5_whichWord ⟨Nat.le_of_ble_eq_true rfl, Nat.le_of_ble_eq_true rfl⟩ rfl rfl rfl rfl rfl hl rfl (Nat.le_of_ble_eq_true rfl) dX5_cutWord_28 ⟨Nat.le_of_ble_eq_true rfl, Nat.le_of_ble_eq_true rfl⟩) rfl rfl rfl (by decide) rfl rfl (fun H locs S => ?_)
    refine lv_istore (lv' := [(4, .int r5), (0, .ref (aTk 0)), (1, .ref (aTx 0)), (2, .int x2), (3, .int x3)]) hx hb dX5_cutWord_31 hl (by decide) rfl (fun ls hl => ?_)
    refine lv_aload_n hx hb dX5_cutWord_33 rfl (lv_at hl 1 rfl) ?_
    refine lv_iload_n hx hb dX5_cutWord_34 rfl (lv_at hl 3 rfl) ?_
    refine lv_iload hx hb dX5_cutWord_35 (lv_at hl 0 rfl) ?_
    refine lv_if_ne (tgt := 44) hx hb dX5_cutWord_37 (by decide) (fun c7 => ?_) (fun c7 => ?_)
    · have hF := zs_f hF c7
      refine lv_iconst (v := (1 : Int32)) hx hb dX5_cutWord_44 (by decide) ?_
      exact j45 Tk x3 r5 (1 : Int32) x2 _ _ _ S (lv_sub hl [4, 0] rfl) hF
    · have hF := zs_t hF c7
      refine lv_iconst (v := (4 : Int32)) hx hb dX5_cutWord_40 (by decide) ?_
      refine lv_goto (tgt := 45) hx hb dX5_cutWord_41 (by decide) ?_
      exact j45 Tk x3 r5 (4 : Int32) x2 _ _ _ S (lv_sub hl [4, 0] rfl) hF
  have j2 : ∀ (n2 : Nat) (Tk : Ob) (x2 : Int32) (x3 : Int32) (H : Heap) (locs : List Loc) (ls : Array Slot), zs_S G A s.heap H locs (wX5 G aTk Tk ++ wX4 G aTx Tx) → lv_has ls 5 [(0, .ref (aTk 0)), (1, .ref (aTx 0)), (2, .int x2), (3, .int x3)] → F_X5_cutWord_2 Tx n2 Tk x2 x3 = some (rr, Tk_) → W p l e RMX5_cutWord s m args below meth c H locs 0 0 (MQ below (zs_Qi G (wX5 G aTk Tk_ ++ wX4 G aTx Tx) rr A) args s 0 0 A) (F0 m 2 ls []) := by
    intro n2
    induction n2 with
    | zero => intro Tk x2 x3 H locs ls _ _ hF; rw [F_X5_cutWord_2_z] at hF; cases hF
    | succ n2 ih2 =>
      intro Tk x2 x3 H locs ls S hl hF
      rw [F_X5_cutWord_2_n] at hF
      unfold F_X5_cutWord_2_s at hF
      refine lv_iload_n hx hb dX5_cutWord_2 rfl (lv_at hl 3 rfl) ?_
      refine lv_aload_n hx hb dX5_cutWord_3 rfl (lv_at hl 1 rfl) ?_
      refine zs_get C hK S 4 1 (Cn := RX4) (T := TX4) (N := 2) (ci := 4) rfl rfl (by decide) zn_X5_cutWord_X4 (List.mem_of_getElem? (i := 1) rfl) rfl dX5_cutWord_4 ?_
      refine lv_icmp_ge (tgt := 24) hx hb dX5_cutWord_7 (by decide) (fun c8 => ?_) (fun c8 => ?_)
      · have hF := zs_t hF c8
        exact j24 Tk x2 x3 _ _ _ S (lv_sub hl [0, 1, 2, 3] rfl) hF
      · have hF := zs_f hF c8
        refine lv_aload_n hx hb dX5_cutWord_10 rfl (lv_at hl 1 rfl) ?_
        refine lv_iload_n hx hb dX5_cutWord_11 rfl (lv_at hl 3 rfl) ?_
        obtain ⟨r9, f10, hF⟩ := zs_bdS hF
        refine zs_calli (wr := wX5 G aTk Tk) (ws' := wX5 G aTk Tk ++ wX4 G aTx Tx) S hA [4, 5] [0, 1, 2, 3] [0, 1, 2, 3, 4, 5] (zs_runV C hK hA S [.int x3] [] [4, 5] 4 1 (c_X4_isLetter l G aTx Tx x3 H.size r9 f10) gX5_cutWord_X4_isLetter rfl rfl rfl zd_X4_isLetter ⟨Nat.le_of_ble_eq_true rfl, Nat.le_of_ble_eq_true rfl⟩ rfl rfl rfl rfl rfl hl rfl (Nat.le_of_ble_eq_true rfl) dX5_cutWord_12 ⟨Nat.le_of_ble_eq_true rfl, Nat.le_of_ble_eq_true rfl⟩) rfl rfl rfl (by decide) rfl rfl (fun H locs S => ?_)
        refine lv_if_eq (tgt := 24) hx hb dX5_cutWord_15 (by decide) (fun c11 => ?_) (fun c11 => ?_)
        · have hF := zs_t hF c11
          exact j24 Tk x2 x3 _ _ _ S (lv_sub hl [0, 1, 2, 3] rfl) hF
        · have hF := zs_f hF c11
          obtain ⟨z12, e13⟩ : ∃ q : Int32, q = x3 + (1 : Int32) := ⟨_, rfl⟩
          have hF := zs_letS hF e13
          refine lv_iinc (v := z12) (lv' := [(3, .int z12), (0, .ref (aTk 0)), (1, .ref (aTx 0)), (2, .int x2)]) hx hb dX5_cutWord_18 hl (k := 3) rfl (by rw [e13]; rfl) (by decide) rfl (fun ls hl => ?_)
          refine lv_goto (tgt := 2) hx hb dX5_cutWord_21 (by decide) ?_
          exact ih2 Tk x2 z12 _ _ _ S (lv_sub hl [1, 2, 3, 0] rfl) hF
  refine lv_iload_n hx hb dX5_cutWord_0 rfl (lv_at hl 2 rfl) ?_
  refine lv_istore_n (lv' := [(3, .int u2), (0, .ref (aTk 0)), (1, .ref (aTx 0)), (2, .int u2)]) hx hb dX5_cutWord_1 rfl hl (by decide) rfl (fun ls hl => ?_)
  exact j2 1000 Tk u2 u2 _ _ _ S (lv_sub hl [1, 2, 3, 0] rfl) hF

theorem zd_X4_isDigit : yX4_isDigit.cls = RX4 ∧ yX4_isDigit.cls ≠ "java/lang/invoke/MethodHandle" ∧ yX4_isDigit.cls ≠ "java/lang/invoke/VarHandle" ∧ (parseMethodDescriptor yX4_isDigit.desc).map (fun d => d.parameters.length) = some 1 := by decide +kernel
abbrev RMX5_cutNumber : Room := { frames := 1, cells := 0, slots := 0, locals := 23 }
theorem zn_X5_cutNumber_X4 : ∀ w ∈ wsX40, w ∈ wsX5_cutNumber := zs_inl wsX40 [19, 20] (by decide +kernel)
set_option maxRecDepth 100000 in
set_option maxHeartbeats 4000000 in
theorem c_X5_cutNumber (l : Launch) (G : GG) (aTk aTx : Ad) (Tk : Ob) (Tx : Ob) (u2 : Int32) (sz : Nat) (rr : Int32) (Tk_ : Ob) (hF : F_X5_cutNumber Tk Tx u2 = some (rr, Tk_)) : Met l yX5_cutNumber wsX5_cutNumber RMX5_cutNumber (va_Pc [.ref (aTk 0), .ref (aTx 0), .int u2] (zs_pre G (wX5 G aTk Tk ++ wX4 G aTx Tx) sz)) (zs_Qi G (wX5 G aTk Tk_ ++ wX4 G aTx Tx) rr (va_A (wX5 G aTk Tk ++ wX4 G aTx Tx) sz)) 0 0 (va_A (wX5 G aTk Tk ++ wX4 G aTx Tx) sz) := by
  refine zs_met (cc := cX5_cutNumber) (maxL := 7) (ret := (some .int)) (own := RX5) (Qc := zs_Qi G (wX5 G aTk Tk_ ++ wX4 G aTx Tx) rr) (by decide) rfl rfl (Nat.le_of_ble_eq_true rfl) ?_
  intro p e s m args below meth c C A hK hA S _ _ ls hl
  have hl : lv_has ls 7 [(0, .ref (aTk 0)), (1, .ref (aTx 0)), (2, .int u2)] := hl
  have hx := C.1.1
  have hb := C.1.2.1
  unfold F_X5_cutNumber at hF
  have j98 : ∀ (Tk : Ob) (x3 : Int32) (x5 : Int32) (y0 : Int32) (y1 : Int32) (H : Heap) (locs : List Loc) (ls : Array Slot), zs_S G A s.heap H locs (wX5 G aTk Tk ++ wX4 G aTx Tx) → lv_has ls 7 [(3, .int x3), (5, .int x5)] → F_X5_cutNumber_98 Tx Tk x3 x5 y0 y1 = some (rr, Tk_) → W p l e RMX5_cutNumber s m args below meth c H locs 0 0 (MQ below (zs_Qi G (wX5 G aTk Tk_ ++ wX4 G aTx Tx) rr A) args s 0 0 A) (F0 m 98 ls [.int y0, .int y1, .ref (aTk 0)]) := by
    intro Tk x3 x5 y0 y1 H locs ls S hl hF
    unfold F_X5_cutNumber_98 at hF
    refine lv_iload hx hb dX5_cutNumber_98 (lv_at hl 1 rfl) ?_
    obtain ⟨Tkw1, f2, hF⟩ := zs_bdS hF
    refine zs_callv (wr := wX4 G aTx Tx) (ws' := wX5 G aTk Tkw1 ++ wX4 G aTx Tx) S hA [0, 1, 2, 3] [4, 5] [2, 3, 4, 5, 0, 1] (zs_runV C hK hA S [.int y1, .int y0, .int x5] [] [0, 1, 2, 3] 0 3 (c_X5_add l G aTk Tk y1 y0 x5 H.size Tkw1 f2) gX5_cutNumber_X5_add rfl rfl rfl zd_X5_add ⟨Nat.le_of_ble_eq_true rfl, Nat.le_of_ble_eq_true rfl⟩ rfl rfl rfl rfl rfl hl rfl (Nat.le_of_ble_eq_true rfl) dX5_cutNumber_100 ⟨Nat.le_of_ble_eq_true rfl, Nat.le_of_ble_eq_true rfl⟩) rfl rfl rfl (by decide) rfl rfl (fun H locs S => ?_)
    refine lv_iload_n hx hb dX5_cutNumber_103 rfl (lv_at hl 0 rfl) ?_
    obtain ⟨e3, e4⟩ := zs_s2 hF
    exact zs_iretE C S e3 (by rw [e4]) dX5_cutNumber_104
  have j93 : ∀ (Tk : Ob) (x3 : Int32) (x5 : Int32) (y0 : Int32) (H : Heap) (locs : List Loc) (ls : Array Slot), zs_S G A s.heap H locs (wX5 G aTk Tk ++ wX4 G aTx Tx) → lv_has ls 7 [(3, .int x3), (5, .int x5)] → F_X5_cutNumber_93 Tx Tk x3 x5 y0 = some (rr, Tk_) → W p l e RMX5_cutNumber s m args below meth c H locs 0 0 (MQ below (zs_Qi G (wX5 G aTk Tk_ ++ wX4 G aTx Tx) rr A) args s 0 0 A) (F0 m 93 ls [.int y0, .ref (aTk 0)]) := by
    intro Tk x3 x5 y0 H locs ls S hl hF
    unfold F_X5_cutNumber_93 at hF
    refine lv_iconst (v := (4 : Int32)) hx hb dX5_cutNumber_93 (by decide) ?_
    refine lv_goto (tgt := 98) hx hb dX5_cutNumber_94 (by decide) ?_
    exact j98 Tk x3 x5 (4 : Int32) y0 _ _ _ S (lv_sub hl [0, 1] rfl) hF
  have j78 : ∀ (Tk : Ob) (x2 : Int32) (x3 : Int32) (x4 : Int32) (x5 : Int32) (y0 : Int32) (H : Heap) (locs : List Loc) (ls : Array Slot), zs_S G A s.heap H locs (wX5 G aTk Tk ++ wX4 G aTx Tx) → lv_has ls 7 [(0, .ref (aTk 0)), (2, .int x2), (3, .int x3), (4, .int x4), (5, .int x5)] → F_X5_cutNumber_78 Tx Tk x2 x3 x4 x5 y0 = some (rr, Tk_) → W p l e RMX5_cutNumber s m args below meth c H locs 0 0 (MQ below (zs_Qi G (wX5 G aTk Tk_ ++ wX4 G aTx Tx) rr A) args s 0 0 A) (F0 m 78 ls [.int y0]) := by
    intro Tk x2 x3 x4 x5 y0 H locs ls S hl hF
    unfold F_X5_cutNumber_78 at hF
    refine lv_istore (lv' := [(6, .int y0), (0, .ref (aTk 0)), (2, .int x2), (3, .int x3), (4, .int x4), (5, .int x5)]) hx hb dX5_cutNumber_78 hl (by decide) rfl (fun ls hl => ?_)
    refine lv_aload_n hx hb dX5_cutNumber_80 rfl (lv_at hl 1 rfl) ?_
    refine lv_iload_n hx hb dX5_cutNumber_81 rfl (lv_at hl 2 rfl) ?_
    refine lv_iload hx hb dX5_cutNumber_82 (lv_at hl 4 rfl) ?_
    refine lv_iconst (v := (2 : Int32)) hx hb dX5_cutNumber_84 (by decide) ?_
    refine lv_icmp_gt (tgt := 93) hx hb dX5_cutNumber_85 (by decide) (fun c5 => ?_) (fun c5 => ?_)
    · have hF := zs_t hF c5
      exact j93 Tk x3 x5 x2 _ _ _ S (lv_sub hl [3, 5] rfl) hF
    · have hF := zs_f hF c5
      refine lv_iload hx hb dX5_cutNumber_88 (lv_at hl 0 rfl) ?_
      refine lv_if_eq (tgt := 97) hx hb dX5_cutNumber_90 (by decide) (fun c6 => ?_) (fun c6 => ?_)
      · have hF := zs_t hF c6
        refine lv_iconst (v := (2 : Int32)) hx hb dX5_cutNumber_97 (by decide) ?_
        exact j98 Tk x3 x5 (2 : Int32) x2 _ _ _ S (lv_sub hl [3, 5] rfl) hF
      · have hF := zs_f hF c6
        exact j93 Tk x3 x5 x2 _ _ _ S (lv_sub hl [3, 5] rfl) hF
  have j77 : ∀ (Tk : Ob) (x2 : Int32) (x3 : Int32) (x4 : Int32) (x5 : Int32) (H : Heap) (locs : List Loc) (ls : Array Slot), zs_S G A s.heap H locs (wX5 G aTk Tk ++ wX4 G aTx Tx) → lv_has ls 7 [(0, .ref (aTk 0)), (2, .int x2), (3, .int x3), (4, .int x4), (5, .int x5)] → F_X5_cutNumber_77 Tx Tk x2 x3 x4 x5 = some (rr, Tk_) → W p l e RMX5_cutNumber s m args below meth c H locs 0 0 (MQ below (zs_Qi G (wX5 G aTk Tk_ ++ wX4 G aTx Tx) rr A) args s 0 0 A) (F0 m 77 ls []) := by
    intro Tk x2 x3 x4 x5 H locs ls S hl hF
    unfold F_X5_cutNumber_77 at hF
    refine lv_iconst (v := (0 : Int32)) hx hb dX5_cutNumber_77 (by decide) ?_
    exact j78 Tk x2 x3 x4 x5 (0 : Int32) _ _ _ S (lv_sub hl [0, 1, 2, 3, 4] rfl) hF
  have j56 : ∀ (Tk : Ob) (x2 : Int32) (x3 : Int32) (x4 : Int32) (x5 : Int32) (H : Heap) (locs : List Loc) (ls : Array Slot), zs_S G A s.heap H locs (wX5 G aTk Tk ++ wX4 G aTx Tx) → lv_has ls 7 [(0, .ref (aTk 0)), (1, .ref (aTx 0)), (2, .int x2), (3, .int x3), (4, .int x4), (5, .int x5)] → F_X5_cutNumber_56 Tx Tk x2 x3 x4 x5 = some (rr, Tk_) → W p l e RMX5_cutNumber s m args below meth c H locs 0 0 (MQ below (zs_Qi G (wX5 G aTk Tk_ ++ wX4 G aTx Tx) rr A) args s 0 0 A) (F0 m 56 ls []) := by
    intro Tk x2 x3 x4 x5 H locs ls S hl hF
    unfold F_X5_cutNumber_56 at hF
    refine lv_iload hx hb dX5_cutNumber_56 (lv_at hl 4 rfl) ?_
    refine lv_iconst (v := (1 : Int32)) hx hb dX5_cutNumber_58 (by decide) ?_
    refine lv_icmp_le (tgt := 77) hx hb dX5_cutNumber_59 (by decide) (fun c7 => ?_) (fun c7 => ?_)
    · have hF := zs_t hF c7
      exact j77 Tk x2 x3 x4 x5 _ _ _ S (lv_sub hl [0, 2, 3, 4, 5] rfl) hF
    · have hF := zs_f hF c7
      refine lv_aload_n hx hb dX5_cutNumber_62 rfl (lv_at hl 1 rfl) ?_
      refine zs_get C hK S 4 0 (Cn := RX4) (T := TX4) (N := 2) (ci := 4) rfl rfl (by decide) zn_X5_cutNumber_X4 (List.mem_of_getElem? (i := 2) rfl) rfl dX5_cutNumber_63 ?_
      refine lv_iload_n hx hb dX5_cutNumber_66 rfl (lv_at hl 2 rfl) ?_
      obtain ⟨h8, hF⟩ := zs_ckS hF
      refine zs_bald C hK S 5 rfl h8 dX5_cutNumber_67 ?_
      refine lv_bipush (v := (48 : Int32)) hx hb dX5_cutNumber_68 (by decide) ?_
      refine lv_icmp_ne (tgt := 77) hx hb dX5_cutNumber_70 (by decide) (fun c9 => ?_) (fun c9 => ?_)
      · have hF := zs_f hF c9
        exact j77 Tk x2 x3 x4 x5 _ _ _ S (lv_sub hl [0, 2, 3, 4, 5] rfl) hF
      · have hF := zs_t hF c9
        refine lv_iconst (v := (1 : Int32)) hx hb dX5_cutNumber_73 (by decide) ?_
        refine lv_goto (tgt := 78) hx hb dX5_cutNumber_74 (by decide) ?_
        exact j78 Tk x2 x3 x4 x5 (1 : Int32) _ _ _ S (lv_sub hl [0, 2, 3, 4, 5] rfl) hF
  have j8 : ∀ (n8 : Nat) (Tk : Ob) (x2 : Int32) (x3 : Int32) (x4 : Int32) (x5 : Int32) (H : Heap) (locs : List Loc) (ls : Array Slot), zs_S G A s.heap H locs (wX5 G aTk Tk ++ wX4 G aTx Tx) → lv_has ls 7 [(0, .ref (aTk 0)), (1, .ref (aTx 0)), (2, .int x2), (3, .int x3), (4, .int x4), (5, .int x5)] → F_X5_cutNumber_8 Tx n8 Tk x2 x3 x4 x5 = some (rr, Tk_) → W p l e RMX5_cutNumber s m args below meth c H locs 0 0 (MQ below (zs_Qi G (wX5 G aTk Tk_ ++ wX4 G aTx Tx) rr A) args s 0 0 A) (F0 m 8 ls []) := by
    intro n8
    induction n8 with
    | zero => intro Tk x2 x3 x4 x5 H locs ls _ _ hF; rw [F_X5_cutNumber_8_z] at hF; cases hF
    | succ n8 ih8 =>
      have j50 : ∀ (Tk : Ob) (x2 : Int32) (x3 : Int32) (x4 : Int32) (x5 : Int32) (H : Heap) (locs : List Loc) (ls : Array Slot), zs_S G A s.heap H locs (wX5 G aTk Tk ++ wX4 G aTx Tx) → lv_has ls 7 [(0, .ref (aTk 0)), (1, .ref (aTx 0)), (2, .int x2), (3, .int x3), (4, .int x4), (5, .int x5)] → F_X5_cutNumber_50 Tx (F_X5_cutNumber_8 Tx n8) Tk x2 x3 x4 x5 = some (rr, Tk_) → W p l e RMX5_cutNumber s m args below meth c H locs 0 0 (MQ below (zs_Qi G (wX5 G aTk Tk_ ++ wX4 G aTx Tx) rr A) args s 0 0 A) (F0 m 50 ls []) := by
        intro Tk x2 x3 x4 x5 H locs ls S hl hF
        unfold F_X5_cutNumber_50 at hF
        obtain ⟨z10, e11⟩ : ∃ q : Int32, q = x3 + (1 : Int32) := ⟨_, rfl⟩
        have hF := zs_letS hF e11
        refine lv_iinc (v := z10) (lv' := [(3, .int z10), (0, .ref (aTk 0)), (1, .ref (aTx 0)), (2, .int x2), (4, .int x4), (5, .int x5)]) hx hb dX5_cutNumber_50 hl (k := 3) rfl (by rw [e11]; rfl) (by decide) rfl (fun ls hl => ?_)
        refine lv_goto (tgt := 8) hx hb dX5_cutNumber_53 (by decide) ?_
        exact ih8 Tk x2 z10 x4 x5 _ _ _ S (lv_sub hl [1, 2, 3, 0, 4, 5] rfl) hF
      intro Tk x2 x3 x4 x5 H locs ls S hl hF
      rw [F_X5_cutNumber_8_n] at hF
      unfold F_X5_cutNumber_8_s at hF
      refine lv_iload_n hx hb dX5_cutNumber_8 rfl (lv_at hl 3 rfl) ?_
      refine lv_aload_n hx hb dX5_cutNumber_9 rfl (lv_at hl 1 rfl) ?_
      refine zs_get C hK S 4 1 (Cn := RX4) (T := TX4) (N := 2) (ci := 4) rfl rfl (by decide) zn_X5_cutNumber_X4 (List.mem_of_getElem? (i := 1) rfl) rfl dX5_cutNumber_10 ?_
      refine lv_icmp_ge (tgt := 56) hx hb dX5_cutNumber_13 (by decide) (fun c12 => ?_) (fun c12 => ?_)
      · have hF := zs_t hF c12
        exact j56 Tk x2 x3 x4 x5 _ _ _ S (lv_sub hl [0, 1, 2, 3, 4, 5] rfl) hF
      · have hF := zs_f hF c12
        refine lv_aload_n hx hb dX5_cutNumber_16 rfl (lv_at hl 1 rfl) ?_
        refine lv_iload_n hx hb dX5_cutNumber_17 rfl (lv_at hl 3 rfl) ?_
        obtain ⟨r13, f14, hF⟩ := zs_bdS hF
        refine zs_calli (wr := wX5 G aTk Tk) (ws' := wX5 G aTk Tk ++ wX4 G aTx Tx) S hA [4, 5] [0, 1, 2, 3] [0, 1, 2, 3, 4, 5] (zs_runV C hK hA S [.int x3] [] [4, 5] 4 1 (c_X4_isDigit l G aTx Tx x3 H.size r13 f14) gX5_cutNumber_X4_isDigit rfl rfl rfl zd_X4_isDigit ⟨Nat.le_of_ble_eq_true rfl, Nat.le_of_ble_eq_true rfl⟩ rfl rfl rfl rfl rfl hl rfl (Nat.le_of_ble_eq_true rfl) dX5_cutNumber_18 ⟨Nat.le_of_ble_eq_true rfl, Nat.le_of_ble_eq_true rfl⟩) rfl rfl rfl (by decide) rfl rfl (fun H locs S => ?_)
        refine lv_if_eq (tgt := 56) hx hb dX5_cutNumber_21 (by decide) (fun c15 => ?_) (fun c15 => ?_)
        · have hF := zs_t hF c15
          exact j56 Tk x2 x3 x4 x5 _ _ _ S (lv_sub hl [0, 1, 2, 3, 4, 5] rfl) hF
        · have hF := zs_f hF c15
          obtain ⟨z16, e17⟩ : ∃ q : Int32, q = x4 + (1 : Int32) := ⟨_, rfl⟩
          have hF := zs_letS hF e17
          refine lv_iinc (v := z16) (lv' := [(4, .int z16), (0, .ref (aTk 0)), (1, .ref (aTx 0)), (2, .int x2), (3, .int x3), (5, .int x5)]) hx hb dX5_cutNumber_24 hl (k := 4) rfl (by rw [e17]; rfl) (by decide) rfl (fun ls hl => ?_)
          refine lv_iload hx hb dX5_cutNumber_27 (lv_at hl 0 rfl) ?_
          refine lv_iconst (v := (2 : Int32)) hx hb dX5_cutNumber_29 (by decide) ?_
          refine lv_icmp_gt (tgt := 50) hx hb dX5_cutNumber_30 (by decide) (fun c18 => ?_) (fun c18 => ?_)
          · have hF := zs_t hF c18
            exact j50 Tk x2 x3 z16 x5 _ _ _ S (lv_sub hl [1, 2, 3, 4, 0, 5] rfl) hF
          · have hF := zs_f hF c18
            refine lv_bipush (v := (10 : Int32)) hx hb dX5_cutNumber_33 (by decide) ?_
            refine lv_iload hx hb dX5_cutNumber_35 (lv_at hl 5 rfl) ?_
            refine lv_imul hx hb dX5_cutNumber_37 ?_
            refine lv_aload_n hx hb dX5_cutNumber_38 rfl (lv_at hl 2 rfl) ?_
            refine zs_get C hK S 4 0 (Cn := RX4) (T := TX4) (N := 2) (ci := 4) rfl rfl (by decide) zn_X5_cutNumber_X4 (List.mem_of_getElem? (i := 2) rfl) rfl dX5_cutNumber_39 ?_
            refine lv_iload_n hx hb dX5_cutNumber_42 rfl (lv_at hl 4 rfl) ?_
            obtain ⟨h19, hF⟩ := zs_ckS hF
            refine zs_bald C hK S 5 rfl h19 dX5_cutNumber_43 ?_
            refine lv_iadd hx hb dX5_cutNumber_44 ?_
            refine lv_bipush (v := (48 : Int32)) hx hb dX5_cutNumber_45 (by decide) ?_
            refine lv_isub hx hb dX5_cutNumber_47 ?_
            refine lv_topi (fun z20 e21 => ?_)
            have hF := zs_letS hF e21
            refine lv_istore (lv' := [(5, .int z20), (4, .int z16), (0, .ref (aTk 0)), (1, .ref (aTx 0)), (2, .int x2), (3, .int x3)]) hx hb dX5_cutNumber_48 hl (by decide) rfl (fun ls hl => ?_)
            exact j50 Tk x2 x3 z16 z20 _ _ _ S (lv_sub hl [2, 3, 4, 5, 1, 0] rfl) hF
  refine lv_iload_n hx hb dX5_cutNumber_0 rfl (lv_at hl 2 rfl) ?_
  refine lv_istore_n (lv' := [(3, .int u2), (0, .ref (aTk 0)), (1, .ref (aTx 0)), (2, .int u2)]) hx hb dX5_cutNumber_1 rfl hl (by decide) rfl (fun ls hl => ?_)
  refine lv_iconst (v := (0 : Int32)) hx hb dX5_cutNumber_2 (by decide) ?_
  refine lv_istore (lv' := [(4, .int (0 : Int32)), (3, .int u2), (0, .ref (aTk 0)), (1, .ref (aTx 0)), (2, .int u2)]) hx hb dX5_cutNumber_3 hl (by decide) rfl (fun ls hl => ?_)
  refine lv_iconst (v := (0 : Int32)) hx hb dX5_cutNumber_5 (by decide) ?_
  refine lv_istore (lv' := [(5, .int (0 : Int32)), (4, .int (0 : Int32)), (3, .int u2), (0, .ref (aTk 0)), (1, .ref (aTx 0)), (2, .int u2)]) hx hb dX5_cutNumber_6 hl (by decide) rfl (fun ls hl => ?_)
  exact j8 1000 Tk u2 u2 (0 : Int32) (0 : Int32) _ _ _ S (lv_sub hl [3, 4, 5, 2, 1, 0] rfl) hF

theorem zd_X5_cutNumber : yX5_cutNumber.cls = RX5 ∧ yX5_cutNumber.cls ≠ "java/lang/invoke/MethodHandle" ∧ yX5_cutNumber.cls ≠ "java/lang/invoke/VarHandle" ∧ (parseMethodDescriptor yX5_cutNumber.desc).map (fun d => d.parameters.length) = some 2 := by decide +kernel
theorem zd_X5_cutWord : yX5_cutWord.cls = RX5 ∧ yX5_cutWord.cls ≠ "java/lang/invoke/MethodHandle" ∧ yX5_cutWord.cls ≠ "java/lang/invoke/VarHandle" ∧ (parseMethodDescriptor yX5_cutWord.desc).map (fun d => d.parameters.length) = some 2 := by decide +kernel
abbrev RMX5_cutOne : Room := { frames := 7, cells := 0, slots := 0, locals := 156 }
theorem zn_X5_cutOne_X4 : ∀ w ∈ wsX40, w ∈ wsX5_cutOne := zs_inl wsX40 [88, 89] (by decide +kernel)
set_option maxRecDepth 100000 in
set_option maxHeartbeats 4000000 in
theorem c_X5_cutOne (l : Launch) (G : GG) (aTk aTx : Ad) (Tk : Ob) (Tx : Ob) (u2 : Int32) (sz : Nat) (rr : Int32) (Tk_ : Ob) (hF : F_X5_cutOne Tk Tx u2 = some (rr, Tk_)) : Met l yX5_cutOne wsX5_cutOne RMX5_cutOne (va_Pc [.ref (aTk 0), .ref (aTx 0), .int u2] (zs_pre G (wX5 G aTk Tk ++ wX4 G aTx Tx) sz)) (zs_Qi G (wX5 G aTk Tk_ ++ wX4 G aTx Tx) rr (va_A (wX5 G aTk Tk ++ wX4 G aTx Tx) sz)) 0 0 (va_A (wX5 G aTk Tk ++ wX4 G aTx Tx) sz) := by
  refine zs_met (cc := cX5_cutOne) (maxL := 3) (ret := (some .int)) (own := RX5) (Qc := zs_Qi G (wX5 G aTk Tk_ ++ wX4 G aTx Tx) rr) (by decide) rfl rfl (Nat.le_of_ble_eq_true rfl) ?_
  intro p e s m args below meth c C A hK hA S _ _ ls hl
  have hl : lv_has ls 3 [(0, .ref (aTk 0)), (1, .ref (aTx 0)), (2, .int u2)] := hl
  have hx := C.1.1
  have hb := C.1.2.1
  unfold F_X5_cutOne at hF
  have j48 : ∀ (Tk : Ob) (x2 : Int32) (y0 : Int32) (y1 : Int32) (H : Heap) (locs : List Loc) (ls : Array Slot), zs_S G A s.heap H locs (wX5 G aTk Tk ++ wX4 G aTx Tx) → lv_has ls 3 [(2, .int x2)] → F_X5_cutOne_48 Tx Tk x2 y0 y1 = some (rr, Tk_) → W p l e RMX5_cutOne s m args below meth c H locs 0 0 (MQ below (zs_Qi G (wX5 G aTk Tk_ ++ wX4 G aTx Tx) rr A) args s 0 0 A) (F0 m 48 ls [.int y0, .int y1, .ref (aTk 0)]) := by
    intro Tk x2 y0 y1 H locs ls S hl hF
    unfold F_X5_cutOne_48 at hF
    refine lv_iconst (v := (0 : Int32)) hx hb dX5_cutOne_48 (by decide) ?_
    obtain ⟨Tkw1, f2, hF⟩ := zs_bdS hF
    refine zs_callv (wr := wX4 G aTx Tx) (ws' := wX5 G aTk Tkw1 ++ wX4 G aTx Tx) S hA [0, 1, 2, 3] [4, 5] [2, 3, 4, 5, 0, 1] (zs_runV C hK hA S [.int y1, .int y0, .int (0 : Int32)] [] [0, 1, 2, 3] 0 3 (c_X5_add l G aTk Tk y1 y0 ((0 : Int32)) H.size Tkw1 f2) gX5_cutOne_X5_add rfl rfl rfl zd_X5_add ⟨Nat.le_of_ble_eq_true rfl, Nat.le_of_ble_eq_true rfl⟩ rfl rfl rfl rfl rfl hl rfl (Nat.le_of_ble_eq_true rfl) dX5_cutOne_49 ⟨Nat.le_of_ble_eq_true rfl, Nat.le_of_ble_eq_true rfl⟩) rfl rfl rfl (by decide) rfl rfl (fun H locs S => ?_)
    refine lv_iload_n hx hb dX5_cutOne_52 rfl (lv_at hl 0 rfl) ?_
    refine lv_iconst (v := (1 : Int32)) hx hb dX5_cutOne_53 (by decide) ?_
    refine lv_iadd hx hb dX5_cutOne_54 ?_
    obtain ⟨e3, e4⟩ := zs_s2 hF
    exact zs_iretE C S e3 (by rw [e4]) dX5_cutOne_55
  refine lv_aload_n hx hb dX5_cutOne_0 rfl (lv_at hl 1 rfl) ?_
  refine lv_iload_n hx hb dX5_cutOne_1 rfl (lv_at hl 2 rfl) ?_
  obtain ⟨r5, f6, hF⟩ := zs_bdS hF
  refine zs_calli (wr := wX5 G aTk Tk) (ws' := wX5 G aTk Tk ++ wX4 G aTx Tx) S hA [4, 5] [0, 1, 2, 3] [0, 1, 2, 3, 4, 5] (zs_runV C hK hA S [.int u2] [] [4, 5] 4 1 (c_X4_isLetter l G aTx Tx u2 s.heap.size r5 f6) gX5_cutOne_X4_isLetter rfl rfl rfl zd_X4_isLetter ⟨Nat.le_of_ble_eq_true rfl, Nat.le_of_ble_eq_true rfl⟩ rfl rfl rfl rfl rfl hl rfl (Nat.le_of_ble_eq_true rfl) dX5_cutOne_2 ⟨Nat.le_of_ble_eq_true rfl, Nat.le_of_ble_eq_true rfl⟩) rfl rfl rfl (by decide) rfl rfl (fun H locs S => ?_)
  refine lv_if_eq (tgt := 15) hx hb dX5_cutOne_5 (by decide) (fun c7 => ?_) (fun c7 => ?_)
  · have hF := zs_t hF c7
    refine lv_aload_n hx hb dX5_cutOne_15 rfl (lv_at hl 1 rfl) ?_
    refine lv_iload_n hx hb dX5_cutOne_16 rfl (lv_at hl 2 rfl) ?_
    obtain ⟨r8, f9, hF⟩ := zs_bdS hF
    refine zs_calli (wr := wX5 G aTk Tk) (ws' := wX5 G aTk Tk ++ wX4 G aTx Tx) S hA [4, 5] [0, 1, 2, 3] [0, 1, 2, 3, 4, 5] (zs_runV C hK hA S [.int u2] [] [4, 5] 4 1 (c_X4_isDigit l G aTx Tx u2 H.size r8 f9) gX5_cutOne_X4_isDigit rfl rfl rfl zd_X4_isDigit ⟨Nat.le_of_ble_eq_true rfl, Nat.le_of_ble_eq_true rfl⟩ rfl rfl rfl rfl rfl hl rfl (Nat.le_of_ble_eq_true rfl) dX5_cutOne_17 ⟨Nat.le_of_ble_eq_true rfl, Nat.le_of_ble_eq_true rfl⟩) rfl rfl rfl (by decide) rfl rfl (fun H locs S => ?_)
    refine lv_if_eq (tgt := 30) hx hb dX5_cutOne_20 (by decide) (fun c10 => ?_) (fun c10 => ?_)
    · have hF := zs_t hF c10
      refine lv_aload_n hx hb dX5_cutOne_30 rfl (lv_at hl 0 rfl) ?_
      refine lv_iload_n hx hb dX5_cutOne_31 rfl (lv_at hl 2 rfl) ?_
      refine lv_aload_n hx hb dX5_cutOne_32 rfl (lv_at hl 1 rfl) ?_
      refine zs_get C hK S 4 0 (Cn := RX4) (T := TX4) (N := 2) (ci := 4) rfl rfl (by decide) zn_X5_cutOne_X4 (List.mem_of_getElem? (i := 1) rfl) rfl dX5_cutOne_33 ?_
      refine lv_iload_n hx hb dX5_cutOne_36 rfl (lv_at hl 2 rfl) ?_
      obtain ⟨h11, hF⟩ := zs_ckS hF
      refine zs_bald C hK S 5 rfl h11 dX5_cutOne_37 ?_
      refine lv_bipush (v := (59 : Int32)) hx hb dX5_cutOne_38 (by decide) ?_
      refine lv_icmp_ne (tgt := 47) hx hb dX5_cutOne_40 (by decide) (fun c12 => ?_) (fun c12 => ?_)
      · have hF := zs_f hF c12
        refine lv_iconst (v := (4 : Int32)) hx hb dX5_cutOne_47 (by decide) ?_
        exact j48 Tk u2 (4 : Int32) u2 _ _ _ S (lv_sub hl [2] rfl) hF
      · have hF := zs_t hF c12
        refine lv_iconst (v := (3 : Int32)) hx hb dX5_cutOne_43 (by decide) ?_
        refine lv_goto (tgt := 48) hx hb dX5_cutOne_44 (by decide) ?_
        exact j48 Tk u2 (3 : Int32) u2 _ _ _ S (lv_sub hl [2] rfl) hF
    · have hF := zs_f hF c10
      refine lv_aload_n hx hb dX5_cutOne_23 rfl (lv_at hl 0 rfl) ?_
      refine lv_aload_n hx hb dX5_cutOne_24 rfl (lv_at hl 1 rfl) ?_
      refine lv_iload_n hx hb dX5_cutOne_25 rfl (lv_at hl 2 rfl) ?_
      obtain ⟨r13, Tkw14, f15, hF⟩ := zs_b2S hF
      refine zs_calli (wr := ([] : va_W)) (ws' := wX5 G aTk Tkw14 ++ wX4 G aTx Tx) S hA [0, 1, 2, 3, 4, 5] [] [0, 1, 2, 3, 4, 5] (zs_runV C hK hA S [.ref (aTx 0), .int u2] [] [0, 1, 2, 3, 4, 5] 0 2 (c_X5_cutNumber l G aTk aTx Tk Tx u2 H.size r13 Tkw14 f15) gX5_cutOne_X5_cutNumber rfl rfl rfl zd_X5_cutNumber ⟨Nat.le_of_ble_eq_true rfl, Nat.le_of_ble_eq_true rfl⟩ rfl rfl rfl rfl rfl hl rfl (Nat.le_of_ble_eq_true rfl) dX5_cutOne_26 ⟨Nat.le_of_ble_eq_true rfl, Nat.le_of_ble_eq_true rfl⟩) rfl rfl rfl (by decide) rfl rfl (fun H locs S => ?_)
      obtain ⟨e16, e17⟩ := zs_s2 hF
      exact zs_iretE C S e16 (by rw [e17]) dX5_cutOne_29
  · have hF := zs_f hF c7
    refine lv_aload_n hx hb dX5_cutOne_8 rfl (lv_at hl 0 rfl) ?_
    refine lv_aload_n hx hb dX5_cutOne_9 rfl (lv_at hl 1 rfl) ?_
    refine lv_iload_n hx hb dX5_cutOne_10 rfl (lv_at hl 2 rfl) ?_
    obtain ⟨r18, Tkw19, f20, hF⟩ := zs_b2S hF
    refine zs_calli (wr := ([] : va_W)) (ws' := wX5 G aTk Tkw19 ++ wX4 G aTx Tx) S hA [0, 1, 2, 3, 4, 5] [] [0, 1, 2, 3, 4, 5] (zs_runV C hK hA S [.ref (aTx 0), .int u2] [] [0, 1, 2, 3, 4, 5] 0 2 (c_X5_cutWord l G aTk aTx Tk Tx u2 H.size r18 Tkw19 f20) gX5_cutOne_X5_cutWord rfl rfl rfl zd_X5_cutWord ⟨Nat.le_of_ble_eq_true rfl, Nat.le_of_ble_eq_true rfl⟩ rfl rfl rfl rfl rfl hl rfl (Nat.le_of_ble_eq_true rfl) dX5_cutOne_11 ⟨Nat.le_of_ble_eq_true rfl, Nat.le_of_ble_eq_true rfl⟩) rfl rfl rfl (by decide) rfl rfl (fun H locs S => ?_)
    obtain ⟨e21, e22⟩ := zs_s2 hF
    exact zs_iretE C S e21 (by rw [e22]) dX5_cutOne_14

theorem zd_X5_cutOne : yX5_cutOne.cls = RX5 ∧ yX5_cutOne.cls ≠ "java/lang/invoke/MethodHandle" ∧ yX5_cutOne.cls ≠ "java/lang/invoke/VarHandle" ∧ (parseMethodDescriptor yX5_cutOne.desc).map (fun d => d.parameters.length) = some 2 := by decide +kernel
theorem zd_X5_skipBlanks : yX5_skipBlanks.cls = RX5 ∧ yX5_skipBlanks.cls ≠ "java/lang/invoke/MethodHandle" ∧ yX5_skipBlanks.cls ≠ "java/lang/invoke/VarHandle" ∧ (parseMethodDescriptor yX5_skipBlanks.desc).map (fun d => d.parameters.length) = some 2 := by decide +kernel
abbrev RMX5_cut : Room := { frames := 8, cells := 0, slots := 0, locals := 178 }
theorem zn_X5_cut_X4 : ∀ w ∈ wsX40, w ∈ wsX5_cut := zs_inl wsX40 [100, 101] (by decide +kernel)
theorem zn_X5_cut_X5 : ∀ w ∈ wsX50, w ∈ wsX5_cut := zs_inl wsX50 [96, 97, 98, 99] (by decide +kernel)
set_option maxRecDepth 100000 in
set_option maxHeartbeats 4000000 in
theorem c_X5_cut (l : Launch) (G : GG) (aTk aTx : Ad) (Tk : Ob) (Tx : Ob) (sz : Nat) (Tk_ : Ob) (hF : F_X5_cut Tk Tx = some Tk_) : Met l yX5_cut wsX5_cut RMX5_cut (va_Pc [.ref (aTk 0), .ref (aTx 0)] (zs_pre G (wX5 G aTk Tk ++ wX4 G aTx Tx) sz)) (zs_Qv G (wX5 G aTk Tk_ ++ wX4 G aTx Tx) (va_A (wX5 G aTk Tk ++ wX4 G aTx Tx) sz)) 0 0 (va_A (wX5 G aTk Tk ++ wX4 G aTx Tx) sz) := by
  refine zs_met (cc := cX5_cut) (maxL := 4) (ret := none) (own := RX5) (Qc := zs_Qv G (wX5 G aTk Tk_ ++ wX4 G aTx Tx)) (by decide) rfl rfl (Nat.le_of_ble_eq_true rfl) ?_
  intro p e s m args below meth c C A hK hA S _ _ ls hl
  have hl : lv_has ls 4 [(0, .ref (aTk 0)), (1, .ref (aTx 0))] := hl
  have hx := C.1.1
  have hb := C.1.2.1
  unfold F_X5_cut at hF
  have j47 : ∀ (Tk : Ob) (H : Heap) (locs : List Loc) (ls : Array Slot), zs_S G A s.heap H locs (wX5 G aTk Tk ++ wX4 G aTx Tx) → lv_has ls 4 [(0, .ref (aTk 0)), (1, .ref (aTx 0))] → F_X5_cut_47 Tx Tk = some Tk_ → W p l e RMX5_cut s m args below meth c H locs 0 0 (MQ below (zs_Qv G (wX5 G aTk Tk_ ++ wX4 G aTx Tx) A) args s 0 0 A) (F0 m 47 ls []) := by
    intro Tk H locs ls S hl hF
    unfold F_X5_cut_47 at hF
    refine lv_aload_n hx hb dX5_cut_47 rfl (lv_at hl 0 rfl) ?_
    refine lv_aload_n hx hb dX5_cut_48 rfl (lv_at hl 1 rfl) ?_
    refine zs_get C hK S 4 1 (Cn := RX4) (T := TX4) (N := 2) (ci := 4) rfl rfl (by decide) zn_X5_cut_X4 (List.mem_of_getElem? (i := 2) rfl) rfl dX5_cut_49 ?_
    refine lv_iconst (v := (0 : Int32)) hx hb dX5_cut_52 (by decide) ?_
    refine lv_iconst (v := (0 : Int32)) hx hb dX5_cut_53 (by decide) ?_
    obtain ⟨Tkw1, f2, hF⟩ := zs_bdS hF
    refine zs_callv (wr := wX4 G aTx Tx) (ws' := wX5 G aTk Tkw1 ++ wX4 G aTx Tx) S hA [0, 1, 2, 3] [4, 5] [2, 3, 4, 5, 0, 1] (zs_runV C hK hA S [.int (Tx 0 1), .int (0 : Int32), .int (0 : Int32)] [] [0, 1, 2, 3] 0 3 (c_X5_add l G aTk Tk ((Tx 0 1)) ((0 : Int32)) ((0 : Int32)) H.size Tkw1 f2) gX5_cut_X5_add rfl rfl rfl zd_X5_add ⟨Nat.le_of_ble_eq_true rfl, Nat.le_of_ble_eq_true rfl⟩ rfl rfl rfl rfl rfl hl rfl (Nat.le_of_ble_eq_true rfl) dX5_cut_54 ⟨Nat.le_of_ble_eq_true rfl, Nat.le_of_ble_eq_true rfl⟩) rfl rfl rfl (by decide) rfl rfl (fun H locs S => ?_)
    have e3 := zs_s1 hF
    exact zs_vretE C S (by rw [e3]) dX5_cut_57
  have j14 : ∀ (n14 : Nat) (Tk : Ob) (x2 : Int32) (x3 : Int32) (H : Heap) (locs : List Loc) (ls : Array Slot), zs_S G A s.heap H locs (wX5 G aTk Tk ++ wX4 G aTx Tx) → lv_has ls 4 [(0, .ref (aTk 0)), (1, .ref (aTx 0)), (2, .int x2), (3, .int x3)] → F_X5_cut_14 Tx n14 Tk x2 x3 = some Tk_ → W p l e RMX5_cut s m args below meth c H locs 0 0 (MQ below (zs_Qv G (wX5 G aTk Tk_ ++ wX4 G aTx Tx) A) args s 0 0 A) (F0 m 14 ls []) := by
    intro n14
    induction n14 with
    | zero => intro Tk x2 x3 H locs ls _ _ hF; rw [F_X5_cut_14_z] at hF; cases hF
    | succ n14 ih14 =>
      intro Tk x2 x3 H locs ls S hl hF
      rw [F_X5_cut_14_n] at hF
      unfold F_X5_cut_14_s at hF
      refine lv_iload_n hx hb dX5_cut_14 rfl (lv_at hl 3 rfl) ?_
      refine lv_sipush (v := (250 : Int32)) hx hb dX5_cut_15 (by decide) ?_
      refine lv_icmp_ge (tgt := 47) hx hb dX5_cut_18 (by decide) (fun c4 => ?_) (fun c4 => ?_)
      · have hF := zs_t hF c4
        exact j47 Tk _ _ _ S (lv_sub hl [0, 1] rfl) hF
      · have hF := zs_f hF c4
        refine lv_iload_n hx hb dX5_cut_21 rfl (lv_at hl 2 rfl) ?_
        refine lv_aload_n hx hb dX5_cut_22 rfl (lv_at hl 1 rfl) ?_
        refine zs_get C hK S 4 1 (Cn := RX4) (T := TX4) (N := 2) (ci := 4) rfl rfl (by decide) zn_X5_cut_X4 (List.mem_of_getElem? (i := 2) rfl) rfl dX5_cut_23 ?_
        refine lv_icmp_ge (tgt := 47) hx hb dX5_cut_26 (by decide) (fun c5 => ?_) (fun c5 => ?_)
        · have hF := zs_t hF c5
          exact j47 Tk _ _ _ S (lv_sub hl [0, 1] rfl) hF
        · have hF := zs_f hF c5
          refine lv_aload_n hx hb dX5_cut_29 rfl (lv_at hl 0 rfl) ?_
          refine lv_aload_n hx hb dX5_cut_30 rfl (lv_at hl 1 rfl) ?_
          refine lv_aload_n hx hb dX5_cut_31 rfl (lv_at hl 0 rfl) ?_
          refine lv_aload_n hx hb dX5_cut_32 rfl (lv_at hl 1 rfl) ?_
          refine lv_iload_n hx hb dX5_cut_33 rfl (lv_at hl 2 rfl) ?_
          obtain ⟨r6, Tkw7, f8, hF⟩ := zs_b2S hF
          refine zs_calli (wr := ([] : va_W)) (ws' := wX5 G aTk Tkw7 ++ wX4 G aTx Tx) S hA [0, 1, 2, 3, 4, 5] [] [0, 1, 2, 3, 4, 5] (zs_runV C hK hA S [.ref (aTx 0), .int x2] [.ref (aTx 0), .ref (aTk 0)] [0, 1, 2, 3, 4, 5] 0 2 (c_X5_cutOne l G aTk aTx Tk Tx x2 H.size r6 Tkw7 f8) gX5_cut_X5_cutOne rfl rfl rfl zd_X5_cutOne ⟨Nat.le_of_ble_eq_true rfl, Nat.le_of_ble_eq_true rfl⟩ rfl rfl rfl rfl rfl hl rfl (Nat.le_of_ble_eq_true rfl) dX5_cut_34 ⟨Nat.le_of_ble_eq_true rfl, Nat.le_of_ble_eq_true rfl⟩) rfl rfl rfl (by decide) rfl rfl (fun H locs S => ?_)
          obtain ⟨r9, f10, hF⟩ := zs_bdS hF
          refine zs_calli (wr := ([] : va_W)) (ws' := wX5 G aTk Tkw7 ++ wX4 G aTx Tx) S hA [0, 1, 2, 3, 4, 5] [] [0, 1, 2, 3, 4, 5] (zs_runV C hK hA S [.ref (aTx 0), .int r6] [] [0, 1, 2, 3, 4, 5] 0 2 (c_X5_skipBlanks l G aTk aTx Tkw7 Tx r6 H.size r9 f10) gX5_cut_X5_skipBlanks rfl rfl rfl zd_X5_skipBlanks ⟨Nat.le_of_ble_eq_true rfl, Nat.le_of_ble_eq_true rfl⟩ rfl rfl rfl rfl rfl hl rfl (Nat.le_of_ble_eq_true rfl) dX5_cut_37 ⟨Nat.le_of_ble_eq_true rfl, Nat.le_of_ble_eq_true rfl⟩) rfl rfl rfl (by decide) rfl rfl (fun H locs S => ?_)
          refine lv_istore_n (lv' := [(2, .int r9), (0, .ref (aTk 0)), (1, .ref (aTx 0)), (3, .int x3)]) hx hb dX5_cut_40 rfl hl (by decide) rfl (fun ls hl => ?_)
          obtain ⟨z11, e12⟩ : ∃ q : Int32, q = x3 + (1 : Int32) := ⟨_, rfl⟩
          have hF := zs_letS hF e12
          refine lv_iinc (v := z11) (lv' := [(3, .int z11), (2, .int r9), (0, .ref (aTk 0)), (1, .ref (aTx 0))]) hx hb dX5_cut_41 hl (k := 3) rfl (by rw [e12]; rfl) (by decide) rfl (fun ls hl => ?_)
          refine lv_goto (tgt := 14) hx hb dX5_cut_44 (by decide) ?_
          exact ih14 Tkw7 r9 z11 _ _ _ S (lv_sub hl [2, 3, 1, 0] rfl) hF
  refine lv_aload_n hx hb dX5_cut_0 rfl (lv_at hl 0 rfl) ?_
  refine lv_iconst (v := (0 : Int32)) hx hb dX5_cut_1 (by decide) ?_
  obtain ⟨Tkw13, e14⟩ : ∃ q : Ob, q = zs_up Tk 0 3 (0 : Int32) := ⟨_, rfl⟩
  have hF := zs_letS hF e14
  refine zs_put C hK S 0 3 (ws' := wX5 G aTk Tkw13 ++ wX4 G aTx Tx) (Cn := RX5) (T := TX5) (N := 4) (ci := 5) rfl rfl (by decide) zn_X5_cut_X5 tyX5_ok nmX5 (List.mem_of_getElem? (i := 1) rfl) rfl rfl rfl (Nat.le_of_ble_eq_true rfl) (by rw [e14]; rfl) dX5_cut_2 (fun H locs S => ?_)
  refine lv_aload_n hx hb dX5_cut_5 rfl (lv_at hl 0 rfl) ?_
  refine lv_aload_n hx hb dX5_cut_6 rfl (lv_at hl 1 rfl) ?_
  refine lv_iconst (v := (0 : Int32)) hx hb dX5_cut_7 (by decide) ?_
  obtain ⟨r15, f16, hF⟩ := zs_bdS hF
  refine zs_calli (wr := ([] : va_W)) (ws' := wX5 G aTk Tkw13 ++ wX4 G aTx Tx) S hA [0, 1, 2, 3, 4, 5] [] [0, 1, 2, 3, 4, 5] (zs_runV C hK hA S [.ref (aTx 0), .int (0 : Int32)] [] [0, 1, 2, 3, 4, 5] 0 2 (c_X5_skipBlanks l G aTk aTx Tkw13 Tx ((0 : Int32)) H.size r15 f16) gX5_cut_X5_skipBlanks rfl rfl rfl zd_X5_skipBlanks ⟨Nat.le_of_ble_eq_true rfl, Nat.le_of_ble_eq_true rfl⟩ rfl rfl rfl rfl rfl hl rfl (Nat.le_of_ble_eq_true rfl) dX5_cut_8 ⟨Nat.le_of_ble_eq_true rfl, Nat.le_of_ble_eq_true rfl⟩) rfl rfl rfl (by decide) rfl rfl (fun H locs S => ?_)
  refine lv_istore_n (lv' := [(2, .int r15), (0, .ref (aTk 0)), (1, .ref (aTx 0))]) hx hb dX5_cut_11 rfl hl (by decide) rfl (fun ls hl => ?_)
  refine lv_iconst (v := (0 : Int32)) hx hb dX5_cut_12 (by decide) ?_
  refine lv_istore_n (lv' := [(3, .int (0 : Int32)), (2, .int r15), (0, .ref (aTk 0)), (1, .ref (aTx 0))]) hx hb dX5_cut_13 rfl hl (by decide) rfl (fun ls hl => ?_)
  exact j14 1000 Tkw13 r15 (0 : Int32) _ _ _ S (lv_sub hl [2, 3, 1, 0] rfl) hF

abbrev RMX2_readToken : Room := { frames := 0, cells := 0, slots := 0, locals := 0 }
theorem zn_X2_readToken_X2 : ∀ w ∈ wsX20, w ∈ wsX2_readToken := zs_inl wsX20 [10, 11, 12, 13, 14, 15] (by decide +kernel)
theorem zn_X2_readToken_X5 : ∀ w ∈ wsX50, w ∈ wsX2_readToken := zs_inl wsX50 [16, 17, 18, 19] (by decide +kernel)
set_option maxRecDepth 100000 in
set_option maxHeartbeats 4000000 in
theorem c_X2_readToken (l : Launch) (G : GG) (aRd aTk : Ad) (Rd : Ob) (Tk : Ob) (sz : Nat) (Rd_ : Ob) (hF : F_X2_readToken Rd Tk = some Rd_) : Met l yX2_readToken wsX2_readToken RMX2_readToken (va_Pc [.ref (aRd 0)] (zs_pre G (wX2 G aRd aTk Rd ++ wX5 G aTk Tk) sz)) (zs_Qv G (wX2 G aRd aTk Rd_ ++ wX5 G aTk Tk) (va_A (wX2 G aRd aTk Rd ++ wX5 G aTk Tk) sz)) 0 0 (va_A (wX2 G aRd aTk Rd ++ wX5 G aTk Tk) sz) := by
  refine zs_met (cc := cX2_readToken) (maxL := 1) (ret := none) (own := RX2) (Qc := zs_Qv G (wX2 G aRd aTk Rd_ ++ wX5 G aTk Tk)) (by decide) rfl rfl (Nat.le_of_ble_eq_true rfl) ?_
  intro p e s m args below meth c C A hK hA S _ _ ls hl
  have hl : lv_has ls 1 [(0, .ref (aRd 0))] := hl
  have hx := C.1.1
  have hb := C.1.2.1
  unfold F_X2_readToken at hF
  refine lv_aload_n hx hb dX2_readToken_0 rfl (lv_at hl 0 rfl) ?_
  refine zs_get C hK S 0 4 (Cn := RX2) (T := TX2) (N := 6) (ci := 2) rfl rfl (by decide) zn_X2_readToken_X2 (List.mem_of_getElem? (i := 1) rfl) rfl dX2_readToken_1 ?_
  refine lv_aload_n hx hb dX2_readToken_4 rfl (lv_at hl 0 rfl) ?_
  refine zs_get C hK S 0 0 (Cn := RX2) (T := TX2) (N := 6) (ci := 2) rfl rfl (by decide) zn_X2_readToken_X2 (List.mem_of_getElem? (i := 2) rfl) rfl dX2_readToken_5 ?_
  refine zs_get C hK S 1 3 (Cn := RX5) (T := TX5) (N := 4) (ci := 5) rfl rfl (by decide) zn_X2_readToken_X5 (List.mem_of_getElem? (i := 3) rfl) rfl dX2_readToken_8 ?_
  refine lv_icmp_ge (tgt := 72) hx hb dX2_readToken_11 (by decide) (fun c1 => ?_) (fun c1 => ?_)
  · have hF := zs_t hF c1
    have e2 := zs_s1 hF
    exact zs_vretE C S (by rw [e2]) dX2_readToken_72
  · have hF := zs_f hF c1
    refine lv_aload_n hx hb dX2_readToken_14 rfl (lv_at hl 0 rfl) ?_
    refine lv_aload_n hx hb dX2_readToken_15 rfl (lv_at hl 0 rfl) ?_
    refine zs_get C hK S 0 0 (Cn := RX2) (T := TX2) (N := 6) (ci := 2) rfl rfl (by decide) zn_X2_readToken_X2 (List.mem_of_getElem? (i := 2) rfl) rfl dX2_readToken_16 ?_
    refine zs_get C hK S 1 0 (Cn := RX5) (T := TX5) (N := 4) (ci := 5) rfl rfl (by decide) zn_X2_readToken_X5 (List.mem_of_getElem? (i := 4) rfl) rfl dX2_readToken_19 ?_
    refine lv_aload_n hx hb dX2_readToken_22 rfl (lv_at hl 0 rfl) ?_
    refine zs_get C hK S 0 4 (Cn := RX2) (T := TX2) (N := 6) (ci := 2) rfl rfl (by decide) zn_X2_readToken_X2 (List.mem_of_getElem? (i := 1) rfl) rfl dX2_readToken_23 ?_
    obtain ⟨h3, hF⟩ := zs_ckS hF
    refine zs_iald C hK S 2 rfl h3 dX2_readToken_26 ?_
    obtain ⟨Rdw4, e5⟩ : ∃ q : Ob, q = zs_up Rd 0 1 (Tk 1 ((Rd 0 4)).toNatClampNeg) := ⟨_, rfl⟩
    have hF := zs_letS hF e5
    refine zs_put C hK S 0 1 (ws' := wX2 G aRd aTk Rdw4 ++ wX5 G aTk Tk) (Cn := RX2) (T := TX2) (N := 6) (ci := 2) rfl rfl (by decide) zn_X2_readToken_X2 tyX2_ok nmX2 (List.mem_of_getElem? (i := 5) rfl) rfl rfl rfl (Nat.le_of_ble_eq_true rfl) (by rw [e5]; rfl) dX2_readToken_27 (fun H locs S => ?_)
    refine lv_aload_n hx hb dX2_readToken_30 rfl (lv_at hl 0 rfl) ?_
    refine lv_aload_n hx hb dX2_readToken_31 rfl (lv_at hl 0 rfl) ?_
    refine zs_get C hK S 0 0 (Cn := RX2) (T := TX2) (N := 6) (ci := 2) rfl rfl (by decide) zn_X2_readToken_X2 (List.mem_of_getElem? (i := 2) rfl) rfl dX2_readToken_32 ?_
    refine zs_get C hK S 1 1 (Cn := RX5) (T := TX5) (N := 4) (ci := 5) rfl rfl (by decide) zn_X2_readToken_X5 (List.mem_of_getElem? (i := 6) rfl) rfl dX2_readToken_35 ?_
    refine lv_aload_n hx hb dX2_readToken_38 rfl (lv_at hl 0 rfl) ?_
    refine zs_get C hK S 0 4 (Cn := RX2) (T := TX2) (N := 6) (ci := 2) rfl rfl (by decide) zn_X2_readToken_X2 (List.mem_of_getElem? (i := 1) rfl) rfl dX2_readToken_39 ?_
    obtain ⟨h6, hF⟩ := zs_ckS hF
    refine zs_iald C hK S 3 rfl h6 dX2_readToken_42 ?_
    obtain ⟨Rdw7, e8⟩ : ∃ q : Ob, q = zs_up Rdw4 0 2 (Tk 2 ((Rdw4 0 4)).toNatClampNeg) := ⟨_, rfl⟩
    have hF := zs_letS hF e8
    refine zs_put C hK S 0 2 (ws' := wX2 G aRd aTk Rdw7 ++ wX5 G aTk Tk) (Cn := RX2) (T := TX2) (N := 6) (ci := 2) rfl rfl (by decide) zn_X2_readToken_X2 tyX2_ok nmX2 (List.mem_of_getElem? (i := 7) rfl) rfl rfl rfl (Nat.le_of_ble_eq_true rfl) (by rw [e8]; rfl) dX2_readToken_43 (fun H locs S => ?_)
    refine lv_aload_n hx hb dX2_readToken_46 rfl (lv_at hl 0 rfl) ?_
    refine lv_aload_n hx hb dX2_readToken_47 rfl (lv_at hl 0 rfl) ?_
    refine zs_get C hK S 0 0 (Cn := RX2) (T := TX2) (N := 6) (ci := 2) rfl rfl (by decide) zn_X2_readToken_X2 (List.mem_of_getElem? (i := 2) rfl) rfl dX2_readToken_48 ?_
    refine zs_get C hK S 1 2 (Cn := RX5) (T := TX5) (N := 4) (ci := 5) rfl rfl (by decide) zn_X2_readToken_X5 (List.mem_of_getElem? (i := 8) rfl) rfl dX2_readToken_51 ?_
    refine lv_aload_n hx hb dX2_readToken_54 rfl (lv_at hl 0 rfl) ?_
    refine zs_get C hK S 0 4 (Cn := RX2) (T := TX2) (N := 6) (ci := 2) rfl rfl (by decide) zn_X2_readToken_X2 (List.mem_of_getElem? (i := 1) rfl) rfl dX2_readToken_55 ?_
    obtain ⟨h9, hF⟩ := zs_ckS hF
    refine zs_iald C hK S 4 rfl h9 dX2_readToken_58 ?_
    obtain ⟨Rdw10, e11⟩ : ∃ q : Ob, q = zs_up Rdw7 0 3 (Tk 3 ((Rdw7 0 4)).toNatClampNeg) := ⟨_, rfl⟩
    have hF := zs_letS hF e11
    refine zs_put C hK S 0 3 (ws' := wX2 G aRd aTk Rdw10 ++ wX5 G aTk Tk) (Cn := RX2) (T := TX2) (N := 6) (ci := 2) rfl rfl (by decide) zn_X2_readToken_X2 tyX2_ok nmX2 (List.mem_of_getElem? (i := 9) rfl) rfl rfl rfl (Nat.le_of_ble_eq_true rfl) (by rw [e11]; rfl) dX2_readToken_59 (fun H locs S => ?_)
    refine lv_aload_n hx hb dX2_readToken_62 rfl (lv_at hl 0 rfl) ?_
    refine lv_dup hx hb dX2_readToken_63 rfl ?_
    refine zs_get C hK S 0 4 (Cn := RX2) (T := TX2) (N := 6) (ci := 2) rfl rfl (by decide) zn_X2_readToken_X2 (List.mem_of_getElem? (i := 1) rfl) rfl dX2_readToken_64 ?_
    refine lv_iconst (v := (1 : Int32)) hx hb dX2_readToken_67 (by decide) ?_
    refine lv_iadd hx hb dX2_readToken_68 ?_
    obtain ⟨Rdw12, e13⟩ : ∃ q : Ob, q = zs_up Rdw10 0 4 ((Rdw10 0 4) + (1 : Int32)) := ⟨_, rfl⟩
    have hF := zs_letS hF e13
    refine zs_put C hK S 0 4 (ws' := wX2 G aRd aTk Rdw12 ++ wX5 G aTk Tk) (Cn := RX2) (T := TX2) (N := 6) (ci := 2) rfl rfl (by decide) zn_X2_readToken_X2 tyX2_ok nmX2 (List.mem_of_getElem? (i := 1) rfl) rfl rfl rfl (Nat.le_of_ble_eq_true rfl) (by rw [e13]; rfl) dX2_readToken_69 (fun H locs S => ?_)
    have e14 := zs_s1 hF
    exact zs_vretE C S (by rw [e14]) dX2_readToken_72

theorem zd_X2_readToken : yX2_readToken.cls = RX2 ∧ yX2_readToken.cls ≠ "java/lang/invoke/MethodHandle" ∧ yX2_readToken.cls ≠ "java/lang/invoke/VarHandle" ∧ (parseMethodDescriptor yX2_readToken.desc).map (fun d => d.parameters.length) = some 0 := by decide +kernel
abbrev RMX2_readNumber : Room := { frames := 1, cells := 0, slots := 0, locals := 20 }
theorem zn_X2_readNumber_X2 : ∀ w ∈ wsX20, w ∈ wsX2_readNumber := zs_inl wsX20 [15, 16, 17, 18, 19, 20] (by decide +kernel)
set_option maxRecDepth 100000 in
set_option maxHeartbeats 4000000 in
theorem c_X2_readNumber (l : Launch) (G : GG) (aRd aTk : Ad) (Rd : Ob) (Tk : Ob) (u1 : Int32) (u2 : Int32) (sz : Nat) (rr : Int32) (Rd_ : Ob) (hF : F_X2_readNumber Rd Tk u1 u2 = some (rr, Rd_)) : Met l yX2_readNumber wsX2_readNumber RMX2_readNumber (va_Pc [.ref (aRd 0), .int u1, .int u2] (zs_pre G (wX2 G aRd aTk Rd ++ wX5 G aTk Tk) sz)) (zs_Qi G (wX2 G aRd aTk Rd_ ++ wX5 G aTk Tk) rr (va_A (wX2 G aRd aTk Rd ++ wX5 G aTk Tk) sz)) 0 0 (va_A (wX2 G aRd aTk Rd ++ wX5 G aTk Tk) sz) := by
  refine zs_met (cc := cX2_readNumber) (maxL := 3) (ret := (some .boolean)) (own := RX2) (Qc := zs_Qi G (wX2 G aRd aTk Rd_ ++ wX5 G aTk Tk) rr) (by decide) rfl rfl (Nat.le_of_ble_eq_true rfl) ?_
  intro p e s m args below meth c C A hK hA S _ _ ls hl
  have hl : lv_has ls 3 [(0, .ref (aRd 0)), (1, .int u1), (2, .int u2)] := hl
  have hx := C.1.1
  have hb := C.1.2.1
  unfold F_X2_readNumber at hF
  refine lv_aload_n hx hb dX2_readNumber_0 rfl (lv_at hl 0 rfl) ?_
  obtain ⟨Rdw1, f2, hF⟩ := zs_bdS hF
  refine zs_callv (wr := ([] : va_W)) (ws' := wX2 G aRd aTk Rdw1 ++ wX5 G aTk Tk) S hA [0, 1, 2, 3, 4] [] [0, 1, 2, 3, 4] (zs_runV C hK hA S [] [] [0, 1, 2, 3, 4] 0 0 (c_X2_readToken l G aRd aTk Rd Tk s.heap.size Rdw1 f2) gX2_readNumber_X2_readToken rfl rfl rfl zd_X2_readToken ⟨Nat.le_of_ble_eq_true rfl, Nat.le_of_ble_eq_true rfl⟩ rfl rfl rfl rfl rfl hl rfl (Nat.le_of_ble_eq_true rfl) dX2_readNumber_1 ⟨Nat.le_of_ble_eq_true rfl, Nat.le_of_ble_eq_true rfl⟩) rfl rfl rfl (by decide) rfl rfl (fun H locs S => ?_)
  refine lv_aload_n hx hb dX2_readNumber_4 rfl (lv_at hl 0 rfl) ?_
  refine zs_get C hK S 0 2 (Cn := RX2) (T := TX2) (N := 6) (ci := 2) rfl rfl (by decide) zn_X2_readNumber_X2 (List.mem_of_getElem? (i := 1) rfl) rfl dX2_readNumber_5 ?_
  refine lv_iconst (v := (2 : Int32)) hx hb dX2_readNumber_8 (by decide) ?_
  refine lv_icmp_ne (tgt := 32) hx hb dX2_readNumber_9 (by decide) (fun c3 => ?_) (fun c3 => ?_)
  · have hF := zs_f hF c3
    refine lv_iconst (v := (0 : Int32)) hx hb dX2_readNumber_32 (by decide) ?_
    obtain ⟨e4, e5⟩ := zs_s2 hF
    exact zs_zretE C S rfl e4 (by rw [e5]) dX2_readNumber_33
  · have hF := zs_t hF c3
    refine lv_aload_n hx hb dX2_readNumber_12 rfl (lv_at hl 0 rfl) ?_
    refine zs_get C hK S 0 3 (Cn := RX2) (T := TX2) (N := 6) (ci := 2) rfl rfl (by decide) zn_X2_readNumber_X2 (List.mem_of_getElem? (i := 2) rfl) rfl dX2_readNumber_13 ?_
    refine lv_iload_n hx hb dX2_readNumber_16 rfl (lv_at hl 1 rfl) ?_
    refine lv_icmp_lt (tgt := 32) hx hb dX2_readNumber_17 (by decide) (fun c6 => ?_) (fun c6 => ?_)
    · have hF := zs_t hF c6
      refine lv_iconst (v := (0 : Int32)) hx hb dX2_readNumber_32 (by decide) ?_
      obtain ⟨e7, e8⟩ := zs_s2 hF
      exact zs_zretE C S rfl e7 (by rw [e8]) dX2_readNumber_33
    · have hF := zs_f hF c6
      refine lv_aload_n hx hb dX2_readNumber_20 rfl (lv_at hl 0 rfl) ?_
      refine zs_get C hK S 0 3 (Cn := RX2) (T := TX2) (N := 6) (ci := 2) rfl rfl (by decide) zn_X2_readNumber_X2 (List.mem_of_getElem? (i := 2) rfl) rfl dX2_readNumber_21 ?_
      refine lv_iload_n hx hb dX2_readNumber_24 rfl (lv_at hl 2 rfl) ?_
      refine lv_icmp_gt (tgt := 32) hx hb dX2_readNumber_25 (by decide) (fun c9 => ?_) (fun c9 => ?_)
      · have hF := zs_t hF c9
        refine lv_iconst (v := (0 : Int32)) hx hb dX2_readNumber_32 (by decide) ?_
        obtain ⟨e10, e11⟩ := zs_s2 hF
        exact zs_zretE C S rfl e10 (by rw [e11]) dX2_readNumber_33
      · have hF := zs_f hF c9
        refine lv_iconst (v := (1 : Int32)) hx hb dX2_readNumber_28 (by decide) ?_
        refine lv_goto (tgt := 33) hx hb dX2_readNumber_29 (by decide) ?_
        obtain ⟨e12, e13⟩ := zs_s2 hF
        exact zs_zretE C S rfl e12 (by rw [e13]) dX2_readNumber_33

abbrev RMX2_readSemicolon : Room := { frames := 1, cells := 0, slots := 0, locals := 20 }
theorem zn_X2_readSemicolon_X2 : ∀ w ∈ wsX20, w ∈ wsX2_readSemicolon := zs_inl wsX20 [15, 16, 17, 18, 19, 20] (by decide +kernel)
set_option maxRecDepth 100000 in
set_option maxHeartbeats 4000000 in
theorem c_X2_readSemicolon (l : Launch) (G : GG) (aRd aTk : Ad) (Rd : Ob) (Tk : Ob) (sz : Nat) (rr : Int32) (Rd_ : Ob) (hF : F_X2_readSemicolon Rd Tk = some (rr, Rd_)) : Met l yX2_readSemicolon wsX2_readSemicolon RMX2_readSemicolon (va_Pc [.ref (aRd 0)] (zs_pre G (wX2 G aRd aTk Rd ++ wX5 G aTk Tk) sz)) (zs_Qi G (wX2 G aRd aTk Rd_ ++ wX5 G aTk Tk) rr (va_A (wX2 G aRd aTk Rd ++ wX5 G aTk Tk) sz)) 0 0 (va_A (wX2 G aRd aTk Rd ++ wX5 G aTk Tk) sz) := by
  refine zs_met (cc := cX2_readSemicolon) (maxL := 1) (ret := (some .boolean)) (own := RX2) (Qc := zs_Qi G (wX2 G aRd aTk Rd_ ++ wX5 G aTk Tk) rr) (by decide) rfl rfl (Nat.le_of_ble_eq_true rfl) ?_
  intro p e s m args below meth c C A hK hA S _ _ ls hl
  have hl : lv_has ls 1 [(0, .ref (aRd 0))] := hl
  have hx := C.1.1
  have hb := C.1.2.1
  unfold F_X2_readSemicolon at hF
  refine lv_aload_n hx hb dX2_readSemicolon_0 rfl (lv_at hl 0 rfl) ?_
  obtain ⟨Rdw1, f2, hF⟩ := zs_bdS hF
  refine zs_callv (wr := ([] : va_W)) (ws' := wX2 G aRd aTk Rdw1 ++ wX5 G aTk Tk) S hA [0, 1, 2, 3, 4] [] [0, 1, 2, 3, 4] (zs_runV C hK hA S [] [] [0, 1, 2, 3, 4] 0 0 (c_X2_readToken l G aRd aTk Rd Tk s.heap.size Rdw1 f2) gX2_readSemicolon_X2_readToken rfl rfl rfl zd_X2_readToken ⟨Nat.le_of_ble_eq_true rfl, Nat.le_of_ble_eq_true rfl⟩ rfl rfl rfl rfl rfl hl rfl (Nat.le_of_ble_eq_true rfl) dX2_readSemicolon_1 ⟨Nat.le_of_ble_eq_true rfl, Nat.le_of_ble_eq_true rfl⟩) rfl rfl rfl (by decide) rfl rfl (fun H locs S => ?_)
  refine lv_aload_n hx hb dX2_readSemicolon_4 rfl (lv_at hl 0 rfl) ?_
  refine zs_get C hK S 0 2 (Cn := RX2) (T := TX2) (N := 6) (ci := 2) rfl rfl (by decide) zn_X2_readSemicolon_X2 (List.mem_of_getElem? (i := 1) rfl) rfl dX2_readSemicolon_5 ?_
  refine lv_iconst (v := (3 : Int32)) hx hb dX2_readSemicolon_8 (by decide) ?_
  refine lv_icmp_ne (tgt := 16) hx hb dX2_readSemicolon_9 (by decide) (fun c3 => ?_) (fun c3 => ?_)
  · have hF := zs_f hF c3
    refine lv_iconst (v := (0 : Int32)) hx hb dX2_readSemicolon_16 (by decide) ?_
    obtain ⟨e4, e5⟩ := zs_s2 hF
    exact zs_zretE C S rfl e4 (by rw [e5]) dX2_readSemicolon_17
  · have hF := zs_t hF c3
    refine lv_iconst (v := (1 : Int32)) hx hb dX2_readSemicolon_12 (by decide) ?_
    refine lv_goto (tgt := 17) hx hb dX2_readSemicolon_13 (by decide) ?_
    obtain ⟨e6, e7⟩ := zs_s2 hF
    exact zs_zretE C S rfl e6 (by rw [e7]) dX2_readSemicolon_17

theorem zd_X2_readNumber : yX2_readNumber.cls = RX2 ∧ yX2_readNumber.cls ≠ "java/lang/invoke/MethodHandle" ∧ yX2_readNumber.cls ≠ "java/lang/invoke/VarHandle" ∧ (parseMethodDescriptor yX2_readNumber.desc).map (fun d => d.parameters.length) = some 2 := by decide +kernel
theorem zd_X2_readSemicolon : yX2_readSemicolon.cls = RX2 ∧ yX2_readSemicolon.cls ≠ "java/lang/invoke/MethodHandle" ∧ yX2_readSemicolon.cls ≠ "java/lang/invoke/VarHandle" ∧ (parseMethodDescriptor yX2_readSemicolon.desc).map (fun d => d.parameters.length) = some 0 := by decide +kernel
theorem zd_X6_addWall : yX6_addWall.cls = RX6 ∧ yX6_addWall.cls ≠ "java/lang/invoke/MethodHandle" ∧ yX6_addWall.cls ≠ "java/lang/invoke/VarHandle" ∧ (parseMethodDescriptor yX6_addWall.desc).map (fun d => d.parameters.length) = some 2 := by decide +kernel
abbrev RMX2_readWall : Room := { frames := 2, cells := 0, slots := 0, locals := 42 }
theorem zn_X2_readWall_X2 : ∀ w ∈ wsX20, w ∈ wsX2_readWall := zs_inl wsX20 [36, 37, 38, 39, 40, 41] (by decide +kernel)
set_option maxRecDepth 100000 in
set_option maxHeartbeats 4000000 in
theorem c_X2_readWall (l : Launch) (G : GG) (aRd aTk aYd : Ad) (Rd : Ob) (Tk : Ob) (Yd : Ob) (sz : Nat) (rr : Int32) (Rd_ : Ob) (Yd_ : Ob) (hF : F_X2_readWall Rd Tk Yd = some (rr, (Rd_, Yd_))) : Met l yX2_readWall wsX2_readWall RMX2_readWall (va_Pc [.ref (aRd 0), .ref (aYd 0)] (zs_pre G (wX2 G aRd aTk Rd ++ wX5 G aTk Tk ++ wX6 G aYd Yd) sz)) (zs_Qi G (wX2 G aRd aTk Rd_ ++ wX5 G aTk Tk ++ wX6 G aYd Yd_) rr (va_A (wX2 G aRd aTk Rd ++ wX5 G aTk Tk ++ wX6 G aYd Yd) sz)) 0 0 (va_A (wX2 G aRd aTk Rd ++ wX5 G aTk Tk ++ wX6 G aYd Yd) sz) := by
  refine zs_met (cc := cX2_readWall) (maxL := 4) (ret := (some .boolean)) (own := RX2) (Qc := zs_Qi G (wX2 G aRd aTk Rd_ ++ wX5 G aTk Tk ++ wX6 G aYd Yd_) rr) (by decide) rfl rfl (Nat.le_of_ble_eq_true rfl) ?_
  intro p e s m args below meth c C A hK hA S _ _ ls hl
  have hl : lv_has ls 4 [(0, .ref (aRd 0)), (1, .ref (aYd 0))] := hl
  have hx := C.1.1
  have hb := C.1.2.1
  unfold F_X2_readWall at hF
  refine lv_aload_n hx hb dX2_readWall_0 rfl (lv_at hl 1 rfl) ?_
  obtain ⟨r1, f2, hF⟩ := zs_bdS hF
  refine zs_calli (wr := wX2 G aRd aTk Rd ++ wX5 G aTk Tk) (ws' := wX2 G aRd aTk Rd ++ wX5 G aTk Tk ++ wX6 G aYd Yd) S hA [5, 6, 7, 8, 9, 10, 11, 12] [0, 1, 2, 3, 4] [0, 1, 2, 3, 4, 5, 6, 7, 8, 9, 10, 11, 12] (zs_runV C hK hA S [] [] [5, 6, 7, 8, 9, 10, 11, 12] 5 0 (c_X6_hasRoom l G aYd Yd s.heap.size r1 f2) gX2_readWall_X6_hasRoom rfl rfl rfl zd_X6_hasRoom ⟨Nat.le_of_ble_eq_true rfl, Nat.le_of_ble_eq_true rfl⟩ rfl rfl rfl rfl rfl hl rfl (Nat.le_of_ble_eq_true rfl) dX2_readWall_1 ⟨Nat.le_of_ble_eq_true rfl, Nat.le_of_ble_eq_true rfl⟩) rfl rfl rfl (by decide) rfl rfl (fun H locs S => ?_)
  refine lv_if_eq (tgt := 17) hx hb dX2_readWall_4 (by decide) (fun c3 => ?_) (fun c3 => ?_)
  · have hF := zs_t hF c3
    refine lv_iconst (v := (0 : Int32)) hx hb dX2_readWall_17 (by decide) ?_
    obtain ⟨e4, e5, e6⟩ := zs_s3 hF
    exact zs_zretE C S rfl e4 (by rw [e5, e6]) dX2_readWall_18
  · have hF := zs_f hF c3
    refine lv_aload_n hx hb dX2_readWall_7 rfl (lv_at hl 0 rfl) ?_
    refine lv_iconst (v := (0 : Int32)) hx hb dX2_readWall_8 (by decide) ?_
    refine lv_bipush (v := (99 : Int32)) hx hb dX2_readWall_9 (by decide) ?_
    obtain ⟨r7, Rdw8, f9, hF⟩ := zs_b2S hF
    refine zs_calli (wr := wX6 G aYd Yd) (ws' := wX2 G aRd aTk Rdw8 ++ wX5 G aTk Tk ++ wX6 G aYd Yd) S hA [0, 1, 2, 3, 4] [5, 6, 7, 8, 9, 10, 11, 12] [8, 9, 10, 11, 12, 0, 1, 2, 3, 4, 5, 6, 7] (zs_runV C hK hA S [.int (0 : Int32), .int (99 : Int32)] [] [0, 1, 2, 3, 4] 0 2 (c_X2_readNumber l G aRd aTk Rd Tk ((0 : Int32)) ((99 : Int32)) H.size r7 Rdw8 f9) gX2_readWall_X2_readNumber rfl rfl rfl zd_X2_readNumber ⟨Nat.le_of_ble_eq_true rfl, Nat.le_of_ble_eq_true rfl⟩ rfl rfl rfl rfl rfl hl rfl (Nat.le_of_ble_eq_true rfl) dX2_readWall_11 ⟨Nat.le_of_ble_eq_true rfl, Nat.le_of_ble_eq_true rfl⟩) rfl rfl rfl (by decide) rfl rfl (fun H locs S => ?_)
    refine lv_if_ne (tgt := 19) hx hb dX2_readWall_14 (by decide) (fun c10 => ?_) (fun c10 => ?_)
    · have hF := zs_f hF c10
      refine lv_aload_n hx hb dX2_readWall_19 rfl (lv_at hl 0 rfl) ?_
      refine zs_get C hK S 0 3 (Cn := RX2) (T := TX2) (N := 6) (ci := 2) rfl rfl (by decide) zn_X2_readWall_X2 (List.mem_of_getElem? (i := 1) rfl) rfl dX2_readWall_20 ?_
      refine lv_topi (fun z11 e12 => ?_)
      have hF := zs_letS hF e12
      refine lv_istore_n (lv' := [(2, .int z11), (0, .ref (aRd 0)), (1, .ref (aYd 0))]) hx hb dX2_readWall_23 rfl hl (by decide) rfl (fun ls hl => ?_)
      refine lv_aload_n hx hb dX2_readWall_24 rfl (lv_at hl 1 rfl) ?_
      refine lv_iconst (v := (0 : Int32)) hx hb dX2_readWall_25 (by decide) ?_
      refine lv_bipush (v := (9 : Int32)) hx hb dX2_readWall_26 (by decide) ?_
      obtain ⟨r13, Rdw14, f15, hF⟩ := zs_b2S hF
      refine zs_calli (wr := wX6 G aYd Yd) (ws' := wX2 G aRd aTk Rdw14 ++ wX5 G aTk Tk ++ wX6 G aYd Yd) S hA [0, 1, 2, 3, 4] [5, 6, 7, 8, 9, 10, 11, 12] [8, 9, 10, 11, 12, 0, 1, 2, 3, 4, 5, 6, 7] (zs_runV C hK hA S [.int (0 : Int32), .int (9 : Int32)] [] [0, 1, 2, 3, 4] 0 2 (c_X2_readNumber l G aRd aTk Rdw8 Tk ((0 : Int32)) ((9 : Int32)) H.size r13 Rdw14 f15) gX2_readWall_X2_readNumber rfl rfl rfl zd_X2_readNumber ⟨Nat.le_of_ble_eq_true rfl, Nat.le_of_ble_eq_true rfl⟩ rfl rfl rfl rfl rfl hl rfl (Nat.le_of_ble_eq_true rfl) dX2_readWall_28 ⟨Nat.le_of_ble_eq_true rfl, Nat.le_of_ble_eq_true rfl⟩) rfl rfl rfl (by decide) rfl rfl (fun H locs S => ?_)
      refine lv_if_ne (tgt := 36) hx hb dX2_readWall_31 (by decide) (fun c16 => ?_) (fun c16 => ?_)
      · have hF := zs_f hF c16
        refine lv_aload_n hx hb dX2_readWall_36 rfl (lv_at hl 1 rfl) ?_
        refine zs_get C hK S 0 3 (Cn := RX2) (T := TX2) (N := 6) (ci := 2) rfl rfl (by decide) zn_X2_readWall_X2 (List.mem_of_getElem? (i := 1) rfl) rfl dX2_readWall_37 ?_
        refine lv_topi (fun z17 e18 => ?_)
        have hF := zs_letS hF e18
        refine lv_istore_n (lv' := [(3, .int z17), (2, .int z11), (0, .ref (aRd 0)), (1, .ref (aYd 0))]) hx hb dX2_readWall_40 rfl hl (by decide) rfl (fun ls hl => ?_)
        refine lv_aload_n hx hb dX2_readWall_41 rfl (lv_at hl 2 rfl) ?_
        obtain ⟨r19, Rdw20, f21, hF⟩ := zs_b2S hF
        refine zs_calli (wr := wX6 G aYd Yd) (ws' := wX2 G aRd aTk Rdw20 ++ wX5 G aTk Tk ++ wX6 G aYd Yd) S hA [0, 1, 2, 3, 4] [5, 6, 7, 8, 9, 10, 11, 12] [8, 9, 10, 11, 12, 0, 1, 2, 3, 4, 5, 6, 7] (zs_runV C hK hA S [] [] [0, 1, 2, 3, 4] 0 0 (c_X2_readSemicolon l G aRd aTk Rdw14 Tk H.size r19 Rdw20 f21) gX2_readWall_X2_readSemicolon rfl rfl rfl zd_X2_readSemicolon ⟨Nat.le_of_ble_eq_true rfl, Nat.le_of_ble_eq_true rfl⟩ rfl rfl rfl rfl rfl hl rfl (Nat.le_of_ble_eq_true rfl) dX2_readWall_42 ⟨Nat.le_of_ble_eq_true rfl, Nat.le_of_ble_eq_true rfl⟩) rfl rfl rfl (by decide) rfl rfl (fun H locs S => ?_)
        refine lv_if_ne (tgt := 50) hx hb dX2_readWall_45 (by decide) (fun c22 => ?_) (fun c22 => ?_)
        · have hF := zs_f hF c22
          refine lv_aload_n hx hb dX2_readWall_50 rfl (lv_at hl 3 rfl) ?_
          refine lv_iload_n hx hb dX2_readWall_51 rfl (lv_at hl 1 rfl) ?_
          refine lv_iload_n hx hb dX2_readWall_52 rfl (lv_at hl 0 rfl) ?_
          obtain ⟨Ydw23, f24, hF⟩ := zs_bdS hF
          refine zs_callv (wr := wX2 G aRd aTk Rdw20 ++ wX5 G aTk Tk) (ws' := wX2 G aRd aTk Rdw20 ++ wX5 G aTk Tk ++ wX6 G aYd Ydw23) S hA [5, 6, 7, 8, 9, 10, 11, 12] [0, 1, 2, 3, 4] [0, 1, 2, 3, 4, 5, 6, 7, 8, 9, 10, 11, 12] (zs_runV C hK hA S [.int z11, .int z17] [] [5, 6, 7, 8, 9, 10, 11, 12] 5 2 (c_X6_addWall l G aYd Yd z11 z17 H.size Ydw23 f24) gX2_readWall_X6_addWall rfl rfl rfl zd_X6_addWall ⟨Nat.le_of_ble_eq_true rfl, Nat.le_of_ble_eq_true rfl⟩ rfl rfl rfl rfl rfl hl rfl (Nat.le_of_ble_eq_true rfl) dX2_readWall_53 ⟨Nat.le_of_ble_eq_true rfl, Nat.le_of_ble_eq_true rfl⟩) rfl rfl rfl (by decide) rfl rfl (fun H locs S => ?_)
          refine lv_iconst (v := (1 : Int32)) hx hb dX2_readWall_56 (by decide) ?_
          obtain ⟨e25, e26, e27⟩ := zs_s3 hF
          exact zs_zretE C S rfl e25 (by rw [e26, e27]) dX2_readWall_57
        · have hF := zs_t hF c22
          refine lv_iconst (v := (0 : Int32)) hx hb dX2_readWall_48 (by decide) ?_
          obtain ⟨e28, e29, e30⟩ := zs_s3 hF
          exact zs_zretE C S rfl e28 (by rw [e29, e30]) dX2_readWall_49
      · have hF := zs_t hF c16
        refine lv_iconst (v := (0 : Int32)) hx hb dX2_readWall_34 (by decide) ?_
        obtain ⟨e31, e32, e33⟩ := zs_s3 hF
        exact zs_zretE C S rfl e31 (by rw [e32, e33]) dX2_readWall_35
    · have hF := zs_t hF c10
      refine lv_iconst (v := (0 : Int32)) hx hb dX2_readWall_17 (by decide) ?_
      obtain ⟨e34, e35, e36⟩ := zs_s3 hF
      exact zs_zretE C S rfl e34 (by rw [e35, e36]) dX2_readWall_18

theorem zd_X6_addParts : yX6_addParts.cls = RX6 ∧ yX6_addParts.cls ≠ "java/lang/invoke/MethodHandle" ∧ yX6_addParts.cls ≠ "java/lang/invoke/VarHandle" ∧ (parseMethodDescriptor yX6_addParts.desc).map (fun d => d.parameters.length) = some 3 := by decide +kernel
theorem zd_X6_partsLeft : yX6_partsLeft.cls = RX6 ∧ yX6_partsLeft.cls ≠ "java/lang/invoke/MethodHandle" ∧ yX6_partsLeft.cls ≠ "java/lang/invoke/VarHandle" ∧ (parseMethodDescriptor yX6_partsLeft.desc).map (fun d => d.parameters.length) = some 2 := by decide +kernel
abbrev RMX2_readSees : Room := { frames := 2, cells := 0, slots := 0, locals := 43 }
theorem zn_X2_readSees_X2 : ∀ w ∈ wsX20, w ∈ wsX2_readSees := zs_inl wsX20 [48, 49, 50, 51, 52, 53] (by decide +kernel)
theorem zn_X2_readSees_X6 : ∀ w ∈ wsX60, w ∈ wsX2_readSees := zs_inl wsX60 [39, 40, 41, 42, 43, 44, 45, 46, 47] (by decide +kernel)
set_option maxRecDepth 100000 in
set_option maxHeartbeats 4000000 in
theorem c_X2_readSees (l : Launch) (G : GG) (aRd aTk aYd : Ad) (Rd : Ob) (Tk : Ob) (Yd : Ob) (sz : Nat) (rr : Int32) (Rd_ : Ob) (Yd_ : Ob) (hF : F_X2_readSees Rd Tk Yd = some (rr, (Rd_, Yd_))) : Met l yX2_readSees wsX2_readSees RMX2_readSees (va_Pc [.ref (aRd 0), .ref (aYd 0)] (zs_pre G (wX2 G aRd aTk Rd ++ wX5 G aTk Tk ++ wX6 G aYd Yd) sz)) (zs_Qi G (wX2 G aRd aTk Rd_ ++ wX5 G aTk Tk ++ wX6 G aYd Yd_) rr (va_A (wX2 G aRd aTk Rd ++ wX5 G aTk Tk ++ wX6 G aYd Yd) sz)) 0 0 (va_A (wX2 G aRd aTk Rd ++ wX5 G aTk Tk ++ wX6 G aYd Yd) sz) := by
  refine zs_met (cc := cX2_readSees) (maxL := 5) (ret := (some .boolean)) (own := RX2) (Qc := zs_Qi G (wX2 G aRd aTk Rd_ ++ wX5 G aTk Tk ++ wX6 G aYd Yd_) rr) (by decide) rfl rfl (Nat.le_of_ble_eq_true rfl) ?_
  intro p e s m args below meth c C A hK hA S _ _ ls hl
  have hl : lv_has ls 5 [(0, .ref (aRd 0)), (1, .ref (aYd 0))] := hl
  have hx := C.1.1
  have hb := C.1.2.1
  unfold F_X2_readSees at hF
  refine lv_aload_n hx hb dX2_readSees_0 rfl (lv_at hl 0 rfl) ?_
  refine lv_iconst (v := (0 : Int32)) hx hb dX2_readSees_1 (by decide) ?_
  refine lv_aload_n hx hb dX2_readSees_2 rfl (lv_at hl 1 rfl) ?_
  refine zs_get C hK S 5 0 (Cn := RX6) (T := TX6) (N := 9) (ci := 6) rfl rfl (by decide) zn_X2_readSees_X6 (List.mem_of_getElem? (i := 1) rfl) rfl dX2_readSees_3 ?_
  refine lv_iconst (v := (1 : Int32)) hx hb dX2_readSees_6 (by decide) ?_
  refine lv_isub hx hb dX2_readSees_7 ?_
  obtain ⟨r1, Rdw2, f3, hF⟩ := zs_b2S hF
  refine zs_calli (wr := wX6 G aYd Yd) (ws' := wX2 G aRd aTk Rdw2 ++ wX5 G aTk Tk ++ wX6 G aYd Yd) S hA [0, 1, 2, 3, 4] [5, 6, 7, 8, 9, 10, 11, 12] [8, 9, 10, 11, 12, 0, 1, 2, 3, 4, 5, 6, 7] (zs_runV C hK hA S [.int (0 : Int32), .int ((Yd 0 0) - (1 : Int32))] [] [0, 1, 2, 3, 4] 0 2 (c_X2_readNumber l G aRd aTk Rd Tk ((0 : Int32)) (((Yd 0 0) - (1 : Int32))) s.heap.size r1 Rdw2 f3) gX2_readSees_X2_readNumber rfl rfl rfl zd_X2_readNumber ⟨Nat.le_of_ble_eq_true rfl, Nat.le_of_ble_eq_true rfl⟩ rfl rfl rfl rfl rfl hl rfl (Nat.le_of_ble_eq_true rfl) dX2_readSees_8 ⟨Nat.le_of_ble_eq_true rfl, Nat.le_of_ble_eq_true rfl⟩) rfl rfl rfl (by decide) rfl rfl (fun H locs S => ?_)
  refine lv_if_ne (tgt := 16) hx hb dX2_readSees_11 (by decide) (fun c4 => ?_) (fun c4 => ?_)
  · have hF := zs_f hF c4
    refine lv_aload_n hx hb dX2_readSees_16 rfl (lv_at hl 0 rfl) ?_
    refine zs_get C hK S 0 3 (Cn := RX2) (T := TX2) (N := 6) (ci := 2) rfl rfl (by decide) zn_X2_readSees_X2 (List.mem_of_getElem? (i := 2) rfl) rfl dX2_readSees_17 ?_
    refine lv_topi (fun z5 e6 => ?_)
    have hF := zs_letS hF e6
    refine lv_istore_n (lv' := [(2, .int z5), (0, .ref (aRd 0)), (1, .ref (aYd 0))]) hx hb dX2_readSees_20 rfl hl (by decide) rfl (fun ls hl => ?_)
    refine lv_aload_n hx hb dX2_readSees_21 rfl (lv_at hl 1 rfl) ?_
    refine lv_iconst (v := (0 : Int32)) hx hb dX2_readSees_22 (by decide) ?_
    refine lv_aload_n hx hb dX2_readSees_23 rfl (lv_at hl 2 rfl) ?_
    refine zs_get C hK S 5 0 (Cn := RX6) (T := TX6) (N := 9) (ci := 6) rfl rfl (by decide) zn_X2_readSees_X6 (List.mem_of_getElem? (i := 1) rfl) rfl dX2_readSees_24 ?_
    refine lv_iconst (v := (1 : Int32)) hx hb dX2_readSees_27 (by decide) ?_
    refine lv_isub hx hb dX2_readSees_28 ?_
    obtain ⟨r7, Rdw8, f9, hF⟩ := zs_b2S hF
    refine zs_calli (wr := wX6 G aYd Yd) (ws' := wX2 G aRd aTk Rdw8 ++ wX5 G aTk Tk ++ wX6 G aYd Yd) S hA [0, 1, 2, 3, 4] [5, 6, 7, 8, 9, 10, 11, 12] [8, 9, 10, 11, 12, 0, 1, 2, 3, 4, 5, 6, 7] (zs_runV C hK hA S [.int (0 : Int32), .int ((Yd 0 0) - (1 : Int32))] [] [0, 1, 2, 3, 4] 0 2 (c_X2_readNumber l G aRd aTk Rdw2 Tk ((0 : Int32)) (((Yd 0 0) - (1 : Int32))) H.size r7 Rdw8 f9) gX2_readSees_X2_readNumber rfl rfl rfl zd_X2_readNumber ⟨Nat.le_of_ble_eq_true rfl, Nat.le_of_ble_eq_true rfl⟩ rfl rfl rfl rfl rfl hl rfl (Nat.le_of_ble_eq_true rfl) dX2_readSees_29 ⟨Nat.le_of_ble_eq_true rfl, Nat.le_of_ble_eq_true rfl⟩) rfl rfl rfl (by decide) rfl rfl (fun H locs S => ?_)
    refine lv_if_eq (tgt := 43) hx hb dX2_readSees_32 (by decide) (fun c10 => ?_) (fun c10 => ?_)
    · have hF := zs_t hF c10
      refine lv_iconst (v := (0 : Int32)) hx hb dX2_readSees_43 (by decide) ?_
      obtain ⟨e11, e12, e13⟩ := zs_s3 hF
      exact zs_zretE C S rfl e11 (by rw [e12, e13]) dX2_readSees_44
    · have hF := zs_f hF c10
      refine lv_aload_n hx hb dX2_readSees_35 rfl (lv_at hl 1 rfl) ?_
      refine zs_get C hK S 0 3 (Cn := RX2) (T := TX2) (N := 6) (ci := 2) rfl rfl (by decide) zn_X2_readSees_X2 (List.mem_of_getElem? (i := 2) rfl) rfl dX2_readSees_36 ?_
      refine lv_iload_n hx hb dX2_readSees_39 rfl (lv_at hl 0 rfl) ?_
      refine lv_icmp_ne (tgt := 45) hx hb dX2_readSees_40 (by decide) (fun c14 => ?_) (fun c14 => ?_)
      · have hF := zs_f hF c14
        refine lv_aload_n hx hb dX2_readSees_45 rfl (lv_at hl 1 rfl) ?_
        refine zs_get C hK S 0 3 (Cn := RX2) (T := TX2) (N := 6) (ci := 2) rfl rfl (by decide) zn_X2_readSees_X2 (List.mem_of_getElem? (i := 2) rfl) rfl dX2_readSees_46 ?_
        refine lv_topi (fun z15 e16 => ?_)
        have hF := zs_letS hF e16
        refine lv_istore_n (lv' := [(3, .int z15), (2, .int z5), (0, .ref (aRd 0)), (1, .ref (aYd 0))]) hx hb dX2_readSees_49 rfl hl (by decide) rfl (fun ls hl => ?_)
        refine lv_aload_n hx hb dX2_readSees_50 rfl (lv_at hl 2 rfl) ?_
        refine lv_iconst (v := (1 : Int32)) hx hb dX2_readSees_51 (by decide) ?_
        refine lv_aload_n hx hb dX2_readSees_52 rfl (lv_at hl 3 rfl) ?_
        refine lv_iload_n hx hb dX2_readSees_53 rfl (lv_at hl 1 rfl) ?_
        refine lv_iload_n hx hb dX2_readSees_54 rfl (lv_at hl 0 rfl) ?_
        obtain ⟨r17, f18, hF⟩ := zs_bdS hF
        refine zs_calli (wr := wX2 G aRd aTk Rdw8 ++ wX5 G aTk Tk) (ws' := wX2 G aRd aTk Rdw8 ++ wX5 G aTk Tk ++ wX6 G aYd Yd) S hA [5, 6, 7, 8, 9, 10, 11, 12] [0, 1, 2, 3, 4] [0, 1, 2, 3, 4, 5, 6, 7, 8, 9, 10, 11, 12] (zs_runV C hK hA S [.int z5, .int z15] [.int (1 : Int32), .ref (aRd 0)] [5, 6, 7, 8, 9, 10, 11, 12] 5 2 (c_X6_partsLeft l G aYd Yd z5 z15 H.size r17 f18) gX2_readSees_X6_partsLeft rfl rfl rfl zd_X6_partsLeft ⟨Nat.le_of_ble_eq_true rfl, Nat.le_of_ble_eq_true rfl⟩ rfl rfl rfl rfl rfl hl rfl (Nat.le_of_ble_eq_true rfl) dX2_readSees_55 ⟨Nat.le_of_ble_eq_true rfl, Nat.le_of_ble_eq_true rfl⟩) rfl rfl rfl (by decide) rfl rfl (fun H locs S => ?_)
        obtain ⟨r19, Rdw20, f21, hF⟩ := zs_b2S hF
        refine zs_calli (wr := wX6 G aYd Yd) (ws' := wX2 G aRd aTk Rdw20 ++ wX5 G aTk Tk ++ wX6 G aYd Yd) S hA [0, 1, 2, 3, 4] [5, 6, 7, 8, 9, 10, 11, 12] [8, 9, 10, 11, 12, 0, 1, 2, 3, 4, 5, 6, 7] (zs_runV C hK hA S [.int (1 : Int32), .int r17] [] [0, 1, 2, 3, 4] 0 2 (c_X2_readNumber l G aRd aTk Rdw8 Tk ((1 : Int32)) r17 H.size r19 Rdw20 f21) gX2_readSees_X2_readNumber rfl rfl rfl zd_X2_readNumber ⟨Nat.le_of_ble_eq_true rfl, Nat.le_of_ble_eq_true rfl⟩ rfl rfl rfl rfl rfl hl rfl (Nat.le_of_ble_eq_true rfl) dX2_readSees_58 ⟨Nat.le_of_ble_eq_true rfl, Nat.le_of_ble_eq_true rfl⟩) rfl rfl rfl (by decide) rfl rfl (fun H locs S => ?_)
        refine lv_if_ne (tgt := 66) hx hb dX2_readSees_61 (by decide) (fun c22 => ?_) (fun c22 => ?_)
        · have hF := zs_f hF c22
          refine lv_aload_n hx hb dX2_readSees_66 rfl (lv_at hl 2 rfl) ?_
          refine zs_get C hK S 0 3 (Cn := RX2) (T := TX2) (N := 6) (ci := 2) rfl rfl (by decide) zn_X2_readSees_X2 (List.mem_of_getElem? (i := 2) rfl) rfl dX2_readSees_67 ?_
          refine lv_topi (fun z23 e24 => ?_)
          have hF := zs_letS hF e24
          refine lv_istore (lv' := [(4, .int z23), (3, .int z15), (2, .int z5), (0, .ref (aRd 0)), (1, .ref (aYd 0))]) hx hb dX2_readSees_70 hl (by decide) rfl (fun ls hl => ?_)
          refine lv_aload_n hx hb dX2_readSees_72 rfl (lv_at hl 3 rfl) ?_
          obtain ⟨r25, Rdw26, f27, hF⟩ := zs_b2S hF
          refine zs_calli (wr := wX6 G aYd Yd) (ws' := wX2 G aRd aTk Rdw26 ++ wX5 G aTk Tk ++ wX6 G aYd Yd) S hA [0, 1, 2, 3, 4] [5, 6, 7, 8, 9, 10, 11, 12] [8, 9, 10, 11, 12, 0, 1, 2, 3, 4, 5, 6, 7] (zs_runV C hK hA S [] [] [0, 1, 2, 3, 4] 0 0 (c_X2_readSemicolon l G aRd aTk Rdw20 Tk H.size r25 Rdw26 f27) gX2_readSees_X2_readSemicolon rfl rfl rfl zd_X2_readSemicolon ⟨Nat.le_of_ble_eq_true rfl, Nat.le_of_ble_eq_true rfl⟩ rfl rfl rfl rfl rfl hl rfl (Nat.le_of_ble_eq_true rfl) dX2_readSees_73 ⟨Nat.le_of_ble_eq_true rfl, Nat.le_of_ble_eq_true rfl⟩) rfl rfl rfl (by decide) rfl rfl (fun H locs S => ?_)
          refine lv_if_ne (tgt := 81) hx hb dX2_readSees_76 (by decide) (fun c28 => ?_) (fun c28 => ?_)
          · have hF := zs_f hF c28
            refine lv_aload_n hx hb dX2_readSees_81 rfl (lv_at hl 4 rfl) ?_
            refine lv_iload_n hx hb dX2_readSees_82 rfl (lv_at hl 2 rfl) ?_
            refine lv_iload_n hx hb dX2_readSees_83 rfl (lv_at hl 1 rfl) ?_
            refine lv_iload hx hb dX2_readSees_84 (lv_at hl 0 rfl) ?_
            obtain ⟨Ydw29, f30, hF⟩ := zs_bdS hF
            refine zs_callv (wr := wX2 G aRd aTk Rdw26 ++ wX5 G aTk Tk) (ws' := wX2 G aRd aTk Rdw26 ++ wX5 G aTk Tk ++ wX6 G aYd Ydw29) S hA [5, 6, 7, 8, 9, 10, 11, 12] [0, 1, 2, 3, 4] [0, 1, 2, 3, 4, 5, 6, 7, 8, 9, 10, 11, 12] (zs_runV C hK hA S [.int z5, .int z15, .int z23] [] [5, 6, 7, 8, 9, 10, 11, 12] 5 3 (c_X6_addParts l G aYd Yd z5 z15 z23 H.size Ydw29 f30) gX2_readSees_X6_addParts rfl rfl rfl zd_X6_addParts ⟨Nat.le_of_ble_eq_true rfl, Nat.le_of_ble_eq_true rfl⟩ rfl rfl rfl rfl rfl hl rfl (Nat.le_of_ble_eq_true rfl) dX2_readSees_86 ⟨Nat.le_of_ble_eq_true rfl, Nat.le_of_ble_eq_true rfl⟩) rfl rfl rfl (by decide) rfl rfl (fun H locs S => ?_)
            refine lv_iconst (v := (1 : Int32)) hx hb dX2_readSees_89 (by decide) ?_
            obtain ⟨e31, e32, e33⟩ := zs_s3 hF
            exact zs_zretE C S rfl e31 (by rw [e32, e33]) dX2_readSees_90
          · have hF := zs_t hF c28
            refine lv_iconst (v := (0 : Int32)) hx hb dX2_readSees_79 (by decide) ?_
            obtain ⟨e34, e35, e36⟩ := zs_s3 hF
            exact zs_zretE C S rfl e34 (by rw [e35, e36]) dX2_readSees_80
        · have hF := zs_t hF c22
          refine lv_iconst (v := (0 : Int32)) hx hb dX2_readSees_64 (by decide) ?_
          obtain ⟨e37, e38, e39⟩ := zs_s3 hF
          exact zs_zretE C S rfl e37 (by rw [e38, e39]) dX2_readSees_65
      · have hF := zs_t hF c14
        refine lv_iconst (v := (0 : Int32)) hx hb dX2_readSees_43 (by decide) ?_
        obtain ⟨e40, e41, e42⟩ := zs_s3 hF
        exact zs_zretE C S rfl e40 (by rw [e41, e42]) dX2_readSees_44
  · have hF := zs_t hF c4
    refine lv_iconst (v := (0 : Int32)) hx hb dX2_readSees_14 (by decide) ?_
    obtain ⟨e43, e44, e45⟩ := zs_s3 hF
    exact zs_zretE C S rfl e43 (by rw [e44, e45]) dX2_readSees_15

abbrev RMX2_readWork : Room := { frames := 2, cells := 0, slots := 0, locals := 42 }
theorem zn_X2_readWork_X2 : ∀ w ∈ wsX20, w ∈ wsX2_readWork := zs_inl wsX20 [35, 36, 37, 38, 39, 40] (by decide +kernel)
theorem zn_X2_readWork_X6 : ∀ w ∈ wsX60, w ∈ wsX2_readWork := zs_inl wsX60 [26, 27, 28, 29, 30, 31, 32, 33, 34] (by decide +kernel)
set_option maxRecDepth 100000 in
set_option maxHeartbeats 4000000 in
theorem c_X2_readWork (l : Launch) (G : GG) (aRd aTk aYd : Ad) (Rd : Ob) (Tk : Ob) (Yd : Ob) (sz : Nat) (rr : Int32) (Rd_ : Ob) (Yd_ : Ob) (hF : F_X2_readWork Rd Tk Yd = some (rr, (Rd_, Yd_))) : Met l yX2_readWork wsX2_readWork RMX2_readWork (va_Pc [.ref (aRd 0), .ref (aYd 0)] (zs_pre G (wX2 G aRd aTk Rd ++ wX5 G aTk Tk ++ wX6 G aYd Yd) sz)) (zs_Qi G (wX2 G aRd aTk Rd_ ++ wX5 G aTk Tk ++ wX6 G aYd Yd_) rr (va_A (wX2 G aRd aTk Rd ++ wX5 G aTk Tk ++ wX6 G aYd Yd) sz)) 0 0 (va_A (wX2 G aRd aTk Rd ++ wX5 G aTk Tk ++ wX6 G aYd Yd) sz) := by
  refine zs_met (cc := cX2_readWork) (maxL := 5) (ret := (some .boolean)) (own := RX2) (Qc := zs_Qi G (wX2 G aRd aTk Rd_ ++ wX5 G aTk Tk ++ wX6 G aYd Yd_) rr) (by decide) rfl rfl (Nat.le_of_ble_eq_true rfl) ?_
  intro p e s m args below meth c C A hK hA S _ _ ls hl
  have hl : lv_has ls 5 [(0, .ref (aRd 0)), (1, .ref (aYd 0))] := hl
  have hx := C.1.1
  have hb := C.1.2.1
  unfold F_X2_readWork at hF
  refine lv_aload_n hx hb dX2_readWork_0 rfl (lv_at hl 0 rfl) ?_
  refine lv_iconst (v := (0 : Int32)) hx hb dX2_readWork_1 (by decide) ?_
  refine lv_aload_n hx hb dX2_readWork_2 rfl (lv_at hl 1 rfl) ?_
  refine zs_get C hK S 5 0 (Cn := RX6) (T := TX6) (N := 9) (ci := 6) rfl rfl (by decide) zn_X2_readWork_X6 (List.mem_of_getElem? (i := 1) rfl) rfl dX2_readWork_3 ?_
  refine lv_iconst (v := (1 : Int32)) hx hb dX2_readWork_6 (by decide) ?_
  refine lv_isub hx hb dX2_readWork_7 ?_
  obtain ⟨r1, Rdw2, f3, hF⟩ := zs_b2S hF
  refine zs_calli (wr := wX6 G aYd Yd) (ws' := wX2 G aRd aTk Rdw2 ++ wX5 G aTk Tk ++ wX6 G aYd Yd) S hA [0, 1, 2, 3, 4] [5, 6, 7, 8, 9, 10, 11, 12] [8, 9, 10, 11, 12, 0, 1, 2, 3, 4, 5, 6, 7] (zs_runV C hK hA S [.int (0 : Int32), .int ((Yd 0 0) - (1 : Int32))] [] [0, 1, 2, 3, 4] 0 2 (c_X2_readNumber l G aRd aTk Rd Tk ((0 : Int32)) (((Yd 0 0) - (1 : Int32))) s.heap.size r1 Rdw2 f3) gX2_readWork_X2_readNumber rfl rfl rfl zd_X2_readNumber ⟨Nat.le_of_ble_eq_true rfl, Nat.le_of_ble_eq_true rfl⟩ rfl rfl rfl rfl rfl hl rfl (Nat.le_of_ble_eq_true rfl) dX2_readWork_8 ⟨Nat.le_of_ble_eq_true rfl, Nat.le_of_ble_eq_true rfl⟩) rfl rfl rfl (by decide) rfl rfl (fun H locs S => ?_)
  refine lv_if_ne (tgt := 16) hx hb dX2_readWork_11 (by decide) (fun c4 => ?_) (fun c4 => ?_)
  · have hF := zs_f hF c4
    refine lv_aload_n hx hb dX2_readWork_16 rfl (lv_at hl 0 rfl) ?_
    refine zs_get C hK S 0 3 (Cn := RX2) (T := TX2) (N := 6) (ci := 2) rfl rfl (by decide) zn_X2_readWork_X2 (List.mem_of_getElem? (i := 2) rfl) rfl dX2_readWork_17 ?_
    refine lv_topi (fun z5 e6 => ?_)
    have hF := zs_letS hF e6
    refine lv_istore_n (lv' := [(2, .int z5), (0, .ref (aRd 0)), (1, .ref (aYd 0))]) hx hb dX2_readWork_20 rfl hl (by decide) rfl (fun ls hl => ?_)
    refine lv_aload_n hx hb dX2_readWork_21 rfl (lv_at hl 1 rfl) ?_
    refine lv_iconst (v := (0 : Int32)) hx hb dX2_readWork_22 (by decide) ?_
    refine lv_bipush (v := (20 : Int32)) hx hb dX2_readWork_23 (by decide) ?_
    obtain ⟨r7, Rdw8, f9, hF⟩ := zs_b2S hF
    refine zs_calli (wr := wX6 G aYd Yd) (ws' := wX2 G aRd aTk Rdw8 ++ wX5 G aTk Tk ++ wX6 G aYd Yd) S hA [0, 1, 2, 3, 4] [5, 6, 7, 8, 9, 10, 11, 12] [8, 9, 10, 11, 12, 0, 1, 2, 3, 4, 5, 6, 7] (zs_runV C hK hA S [.int (0 : Int32), .int (20 : Int32)] [] [0, 1, 2, 3, 4] 0 2 (c_X2_readNumber l G aRd aTk Rdw2 Tk ((0 : Int32)) ((20 : Int32)) H.size r7 Rdw8 f9) gX2_readWork_X2_readNumber rfl rfl rfl zd_X2_readNumber ⟨Nat.le_of_ble_eq_true rfl, Nat.le_of_ble_eq_true rfl⟩ rfl rfl rfl rfl rfl hl rfl (Nat.le_of_ble_eq_true rfl) dX2_readWork_25 ⟨Nat.le_of_ble_eq_true rfl, Nat.le_of_ble_eq_true rfl⟩) rfl rfl rfl (by decide) rfl rfl (fun H locs S => ?_)
    refine lv_if_ne (tgt := 33) hx hb dX2_readWork_28 (by decide) (fun c10 => ?_) (fun c10 => ?_)
    · have hF := zs_f hF c10
      refine lv_aload_n hx hb dX2_readWork_33 rfl (lv_at hl 1 rfl) ?_
      refine zs_get C hK S 0 3 (Cn := RX2) (T := TX2) (N := 6) (ci := 2) rfl rfl (by decide) zn_X2_readWork_X2 (List.mem_of_getElem? (i := 2) rfl) rfl dX2_readWork_34 ?_
      refine lv_topi (fun z11 e12 => ?_)
      have hF := zs_letS hF e12
      refine lv_istore_n (lv' := [(3, .int z11), (2, .int z5), (0, .ref (aRd 0)), (1, .ref (aYd 0))]) hx hb dX2_readWork_37 rfl hl (by decide) rfl (fun ls hl => ?_)
      refine lv_aload_n hx hb dX2_readWork_38 rfl (lv_at hl 2 rfl) ?_
      refine lv_iconst (v := (0 : Int32)) hx hb dX2_readWork_39 (by decide) ?_
      refine lv_bipush (v := (15 : Int32)) hx hb dX2_readWork_40 (by decide) ?_
      obtain ⟨r13, Rdw14, f15, hF⟩ := zs_b2S hF
      refine zs_calli (wr := wX6 G aYd Yd) (ws' := wX2 G aRd aTk Rdw14 ++ wX5 G aTk Tk ++ wX6 G aYd Yd) S hA [0, 1, 2, 3, 4] [5, 6, 7, 8, 9, 10, 11, 12] [8, 9, 10, 11, 12, 0, 1, 2, 3, 4, 5, 6, 7] (zs_runV C hK hA S [.int (0 : Int32), .int (15 : Int32)] [] [0, 1, 2, 3, 4] 0 2 (c_X2_readNumber l G aRd aTk Rdw8 Tk ((0 : Int32)) ((15 : Int32)) H.size r13 Rdw14 f15) gX2_readWork_X2_readNumber rfl rfl rfl zd_X2_readNumber ⟨Nat.le_of_ble_eq_true rfl, Nat.le_of_ble_eq_true rfl⟩ rfl rfl rfl rfl rfl hl rfl (Nat.le_of_ble_eq_true rfl) dX2_readWork_42 ⟨Nat.le_of_ble_eq_true rfl, Nat.le_of_ble_eq_true rfl⟩) rfl rfl rfl (by decide) rfl rfl (fun H locs S => ?_)
      refine lv_if_ne (tgt := 50) hx hb dX2_readWork_45 (by decide) (fun c16 => ?_) (fun c16 => ?_)
      · have hF := zs_f hF c16
        refine lv_aload_n hx hb dX2_readWork_50 rfl (lv_at hl 2 rfl) ?_
        refine zs_get C hK S 0 3 (Cn := RX2) (T := TX2) (N := 6) (ci := 2) rfl rfl (by decide) zn_X2_readWork_X2 (List.mem_of_getElem? (i := 2) rfl) rfl dX2_readWork_51 ?_
        refine lv_topi (fun z17 e18 => ?_)
        have hF := zs_letS hF e18
        refine lv_istore (lv' := [(4, .int z17), (3, .int z11), (2, .int z5), (0, .ref (aRd 0)), (1, .ref (aYd 0))]) hx hb dX2_readWork_54 hl (by decide) rfl (fun ls hl => ?_)
        refine lv_aload_n hx hb dX2_readWork_56 rfl (lv_at hl 3 rfl) ?_
        refine lv_iconst (v := (0 : Int32)) hx hb dX2_readWork_57 (by decide) ?_
        refine lv_bipush (v := (15 : Int32)) hx hb dX2_readWork_58 (by decide) ?_
        obtain ⟨r19, Rdw20, f21, hF⟩ := zs_b2S hF
        refine zs_calli (wr := wX6 G aYd Yd) (ws' := wX2 G aRd aTk Rdw20 ++ wX5 G aTk Tk ++ wX6 G aYd Yd) S hA [0, 1, 2, 3, 4] [5, 6, 7, 8, 9, 10, 11, 12] [8, 9, 10, 11, 12, 0, 1, 2, 3, 4, 5, 6, 7] (zs_runV C hK hA S [.int (0 : Int32), .int (15 : Int32)] [] [0, 1, 2, 3, 4] 0 2 (c_X2_readNumber l G aRd aTk Rdw14 Tk ((0 : Int32)) ((15 : Int32)) H.size r19 Rdw20 f21) gX2_readWork_X2_readNumber rfl rfl rfl zd_X2_readNumber ⟨Nat.le_of_ble_eq_true rfl, Nat.le_of_ble_eq_true rfl⟩ rfl rfl rfl rfl rfl hl rfl (Nat.le_of_ble_eq_true rfl) dX2_readWork_60 ⟨Nat.le_of_ble_eq_true rfl, Nat.le_of_ble_eq_true rfl⟩) rfl rfl rfl (by decide) rfl rfl (fun H locs S => ?_)
        refine lv_if_ne (tgt := 68) hx hb dX2_readWork_63 (by decide) (fun c22 => ?_) (fun c22 => ?_)
        · have hF := zs_f hF c22
          refine lv_iload hx hb dX2_readWork_68 (lv_at hl 0 rfl) ?_
          refine lv_bipush (v := (16 : Int32)) hx hb dX2_readWork_70 (by decide) ?_
          refine lv_aload_n hx hb dX2_readWork_72 rfl (lv_at hl 3 rfl) ?_
          refine zs_get C hK S 0 3 (Cn := RX2) (T := TX2) (N := 6) (ci := 2) rfl rfl (by decide) zn_X2_readWork_X2 (List.mem_of_getElem? (i := 2) rfl) rfl dX2_readWork_73 ?_
          refine lv_imul hx hb dX2_readWork_76 ?_
          refine lv_iadd hx hb dX2_readWork_77 ?_
          refine lv_topi (fun z23 e24 => ?_)
          have hF := zs_letS hF e24
          refine lv_istore (lv' := [(4, .int z23), (3, .int z11), (2, .int z5), (0, .ref (aRd 0)), (1, .ref (aYd 0))]) hx hb dX2_readWork_78 hl (by decide) rfl (fun ls hl => ?_)
          refine lv_aload_n hx hb dX2_readWork_80 rfl (lv_at hl 3 rfl) ?_
          obtain ⟨r25, Rdw26, f27, hF⟩ := zs_b2S hF
          refine zs_calli (wr := wX6 G aYd Yd) (ws' := wX2 G aRd aTk Rdw26 ++ wX5 G aTk Tk ++ wX6 G aYd Yd) S hA [0, 1, 2, 3, 4] [5, 6, 7, 8, 9, 10, 11, 12] [8, 9, 10, 11, 12, 0, 1, 2, 3, 4, 5, 6, 7] (zs_runV C hK hA S [] [] [0, 1, 2, 3, 4] 0 0 (c_X2_readSemicolon l G aRd aTk Rdw20 Tk H.size r25 Rdw26 f27) gX2_readWork_X2_readSemicolon rfl rfl rfl zd_X2_readSemicolon ⟨Nat.le_of_ble_eq_true rfl, Nat.le_of_ble_eq_true rfl⟩ rfl rfl rfl rfl rfl hl rfl (Nat.le_of_ble_eq_true rfl) dX2_readWork_81 ⟨Nat.le_of_ble_eq_true rfl, Nat.le_of_ble_eq_true rfl⟩) rfl rfl rfl (by decide) rfl rfl (fun H locs S => ?_)
          refine lv_if_ne (tgt := 89) hx hb dX2_readWork_84 (by decide) (fun c28 => ?_) (fun c28 => ?_)
          · have hF := zs_f hF c28
            refine lv_aload_n hx hb dX2_readWork_89 rfl (lv_at hl 4 rfl) ?_
            refine zs_get C hK S 5 4 (Cn := RX6) (T := TX6) (N := 9) (ci := 6) rfl rfl (by decide) zn_X2_readWork_X6 (List.mem_of_getElem? (i := 3) rfl) rfl dX2_readWork_90 ?_
            refine lv_iload_n hx hb dX2_readWork_93 rfl (lv_at hl 2 rfl) ?_
            refine lv_iload_n hx hb dX2_readWork_94 rfl (lv_at hl 1 rfl) ?_
            obtain ⟨h29, hF⟩ := zs_ckS hF
            obtain ⟨Ydw30, e31⟩ : ∃ q : Ob, q = zs_up Yd 3 (z5).toNatClampNeg z11 := ⟨_, rfl⟩
            have hF := zs_letS hF e31
            refine zs_iast C hK S 8 (ws' := wX2 G aRd aTk Rdw26 ++ wX5 G aTk Tk ++ wX6 G aYd Ydw30) rfl h29 (by rw [e31]; rfl) dX2_readWork_95 (fun H locs S => ?_)
            refine lv_aload_n hx hb dX2_readWork_96 rfl (lv_at hl 4 rfl) ?_
            refine zs_get C hK S 5 5 (Cn := RX6) (T := TX6) (N := 9) (ci := 6) rfl rfl (by decide) zn_X2_readWork_X6 (List.mem_of_getElem? (i := 4) rfl) rfl dX2_readWork_97 ?_
            refine lv_iload_n hx hb dX2_readWork_100 rfl (lv_at hl 2 rfl) ?_
            refine lv_iload hx hb dX2_readWork_101 (lv_at hl 0 rfl) ?_
            obtain ⟨h32, hF⟩ := zs_ckS hF
            obtain ⟨Ydw33, e34⟩ : ∃ q : Ob, q = zs_up Ydw30 4 (z5).toNatClampNeg z23 := ⟨_, rfl⟩
            have hF := zs_letS hF e34
            refine zs_iast C hK S 9 (ws' := wX2 G aRd aTk Rdw26 ++ wX5 G aTk Tk ++ wX6 G aYd Ydw33) rfl h32 (by rw [e34]; rfl) dX2_readWork_103 (fun H locs S => ?_)
            refine lv_iconst (v := (1 : Int32)) hx hb dX2_readWork_104 (by decide) ?_
            obtain ⟨e35, e36, e37⟩ := zs_s3 hF
            exact zs_zretE C S rfl e35 (by rw [e36, e37]) dX2_readWork_105
          · have hF := zs_t hF c28
            refine lv_iconst (v := (0 : Int32)) hx hb dX2_readWork_87 (by decide) ?_
            obtain ⟨e38, e39, e40⟩ := zs_s3 hF
            exact zs_zretE C S rfl e38 (by rw [e39, e40]) dX2_readWork_88
        · have hF := zs_t hF c22
          refine lv_iconst (v := (0 : Int32)) hx hb dX2_readWork_66 (by decide) ?_
          obtain ⟨e41, e42, e43⟩ := zs_s3 hF
          exact zs_zretE C S rfl e41 (by rw [e42, e43]) dX2_readWork_67
      · have hF := zs_t hF c16
        refine lv_iconst (v := (0 : Int32)) hx hb dX2_readWork_48 (by decide) ?_
        obtain ⟨e44, e45, e46⟩ := zs_s3 hF
        exact zs_zretE C S rfl e44 (by rw [e45, e46]) dX2_readWork_49
    · have hF := zs_t hF c10
      refine lv_iconst (v := (0 : Int32)) hx hb dX2_readWork_31 (by decide) ?_
      obtain ⟨e47, e48, e49⟩ := zs_s3 hF
      exact zs_zretE C S rfl e47 (by rw [e48, e49]) dX2_readWork_32
  · have hF := zs_t hF c4
    refine lv_iconst (v := (0 : Int32)) hx hb dX2_readWork_14 (by decide) ?_
    obtain ⟨e50, e51, e52⟩ := zs_s3 hF
    exact zs_zretE C S rfl e50 (by rw [e51, e52]) dX2_readWork_15

abbrev RMX2_readLimit : Room := { frames := 2, cells := 0, slots := 0, locals := 42 }
theorem zn_X2_readLimit_X2 : ∀ w ∈ wsX20, w ∈ wsX2_readLimit := zs_inl wsX20 [30, 31, 32, 33, 34, 35] (by decide +kernel)
set_option maxRecDepth 100000 in
set_option maxHeartbeats 4000000 in
theorem c_X2_readLimit (l : Launch) (G : GG) (aRd aTk aYd : Ad) (Rd : Ob) (Tk : Ob) (Yd : Ob) (sz : Nat) (rr : Int32) (Rd_ : Ob) (Yd_ : Ob) (hF : F_X2_readLimit Rd Tk Yd = some (rr, (Rd_, Yd_))) : Met l yX2_readLimit wsX2_readLimit RMX2_readLimit (va_Pc [.ref (aRd 0), .ref (aYd 0)] (zs_pre G (wX2 G aRd aTk Rd ++ wX5 G aTk Tk ++ wX6 G aYd Yd) sz)) (zs_Qi G (wX2 G aRd aTk Rd_ ++ wX5 G aTk Tk ++ wX6 G aYd Yd_) rr (va_A (wX2 G aRd aTk Rd ++ wX5 G aTk Tk ++ wX6 G aYd Yd) sz)) 0 0 (va_A (wX2 G aRd aTk Rd ++ wX5 G aTk Tk ++ wX6 G aYd Yd) sz) := by
  refine zs_met (cc := cX2_readLimit) (maxL := 3) (ret := (some .boolean)) (own := RX2) (Qc := zs_Qi G (wX2 G aRd aTk Rd_ ++ wX5 G aTk Tk ++ wX6 G aYd Yd_) rr) (by decide) rfl rfl (Nat.le_of_ble_eq_true rfl) ?_
  intro p e s m args below meth c C A hK hA S _ _ ls hl
  have hl : lv_has ls 3 [(0, .ref (aRd 0)), (1, .ref (aYd 0))] := hl
  have hx := C.1.1
  have hb := C.1.2.1
  unfold F_X2_readLimit at hF
  refine lv_aload_n hx hb dX2_readLimit_0 rfl (lv_at hl 0 rfl) ?_
  refine zs_get C hK S 0 5 (Cn := RX2) (T := TX2) (N := 6) (ci := 2) rfl rfl (by decide) zn_X2_readLimit_X2 (List.mem_of_getElem? (i := 1) rfl) rfl dX2_readLimit_1 ?_
  refine lv_if_ne (tgt := 17) hx hb dX2_readLimit_4 (by decide) (fun c1 => ?_) (fun c1 => ?_)
  · have hF := zs_f hF c1
    refine lv_iconst (v := (0 : Int32)) hx hb dX2_readLimit_17 (by decide) ?_
    obtain ⟨e2, e3, e4⟩ := zs_s3 hF
    exact zs_zretE C S rfl e2 (by rw [e3, e4]) dX2_readLimit_18
  · have hF := zs_t hF c1
    refine lv_aload_n hx hb dX2_readLimit_7 rfl (lv_at hl 0 rfl) ?_
    refine lv_iconst (v := (0 : Int32)) hx hb dX2_readLimit_8 (by decide) ?_
    refine lv_bipush (v := (99 : Int32)) hx hb dX2_readLimit_9 (by decide) ?_
    obtain ⟨r5, Rdw6, f7, hF⟩ := zs_b2S hF
    refine zs_calli (wr := wX6 G aYd Yd) (ws' := wX2 G aRd aTk Rdw6 ++ wX5 G aTk Tk ++ wX6 G aYd Yd) S hA [0, 1, 2, 3, 4] [5, 6, 7, 8, 9, 10, 11, 12] [8, 9, 10, 11, 12, 0, 1, 2, 3, 4, 5, 6, 7] (zs_runV C hK hA S [.int (0 : Int32), .int (99 : Int32)] [] [0, 1, 2, 3, 4] 0 2 (c_X2_readNumber l G aRd aTk Rd Tk ((0 : Int32)) ((99 : Int32)) s.heap.size r5 Rdw6 f7) gX2_readLimit_X2_readNumber rfl rfl rfl zd_X2_readNumber ⟨Nat.le_of_ble_eq_true rfl, Nat.le_of_ble_eq_true rfl⟩ rfl rfl rfl rfl rfl hl rfl (Nat.le_of_ble_eq_true rfl) dX2_readLimit_11 ⟨Nat.le_of_ble_eq_true rfl, Nat.le_of_ble_eq_true rfl⟩) rfl rfl rfl (by decide) rfl rfl (fun H locs S => ?_)
    refine lv_if_ne (tgt := 19) hx hb dX2_readLimit_14 (by decide) (fun c8 => ?_) (fun c8 => ?_)
    · have hF := zs_f hF c8
      refine lv_aload_n hx hb dX2_readLimit_19 rfl (lv_at hl 0 rfl) ?_
      refine zs_get C hK S 0 3 (Cn := RX2) (T := TX2) (N := 6) (ci := 2) rfl rfl (by decide) zn_X2_readLimit_X2 (List.mem_of_getElem? (i := 2) rfl) rfl dX2_readLimit_20 ?_
      refine lv_topi (fun z9 e10 => ?_)
      have hF := zs_letS hF e10
      refine lv_istore_n (lv' := [(2, .int z9), (0, .ref (aRd 0)), (1, .ref (aYd 0))]) hx hb dX2_readLimit_23 rfl hl (by decide) rfl (fun ls hl => ?_)
      refine lv_aload_n hx hb dX2_readLimit_24 rfl (lv_at hl 1 rfl) ?_
      obtain ⟨r11, Rdw12, f13, hF⟩ := zs_b2S hF
      refine zs_calli (wr := wX6 G aYd Yd) (ws' := wX2 G aRd aTk Rdw12 ++ wX5 G aTk Tk ++ wX6 G aYd Yd) S hA [0, 1, 2, 3, 4] [5, 6, 7, 8, 9, 10, 11, 12] [8, 9, 10, 11, 12, 0, 1, 2, 3, 4, 5, 6, 7] (zs_runV C hK hA S [] [] [0, 1, 2, 3, 4] 0 0 (c_X2_readSemicolon l G aRd aTk Rdw6 Tk H.size r11 Rdw12 f13) gX2_readLimit_X2_readSemicolon rfl rfl rfl zd_X2_readSemicolon ⟨Nat.le_of_ble_eq_true rfl, Nat.le_of_ble_eq_true rfl⟩ rfl rfl rfl rfl rfl hl rfl (Nat.le_of_ble_eq_true rfl) dX2_readLimit_25 ⟨Nat.le_of_ble_eq_true rfl, Nat.le_of_ble_eq_true rfl⟩) rfl rfl rfl (by decide) rfl rfl (fun H locs S => ?_)
      refine lv_if_ne (tgt := 33) hx hb dX2_readLimit_28 (by decide) (fun c14 => ?_) (fun c14 => ?_)
      · have hF := zs_f hF c14
        refine lv_aload_n hx hb dX2_readLimit_33 rfl (lv_at hl 2 rfl) ?_
        refine lv_iload_n hx hb dX2_readLimit_34 rfl (lv_at hl 0 rfl) ?_
        obtain ⟨Ydw15, f16, hF⟩ := zs_bdS hF
        refine zs_callv (wr := wX2 G aRd aTk Rdw12 ++ wX5 G aTk Tk) (ws' := wX2 G aRd aTk Rdw12 ++ wX5 G aTk Tk ++ wX6 G aYd Ydw15) S hA [5, 6, 7, 8, 9, 10, 11, 12] [0, 1, 2, 3, 4] [0, 1, 2, 3, 4, 5, 6, 7, 8, 9, 10, 11, 12] (zs_runV C hK hA S [.int z9] [] [5, 6, 7, 8, 9, 10, 11, 12] 5 1 (c_X6_setLimit l G aYd Yd z9 H.size Ydw15 f16) gX2_readLimit_X6_setLimit rfl rfl rfl zd_X6_setLimit ⟨Nat.le_of_ble_eq_true rfl, Nat.le_of_ble_eq_true rfl⟩ rfl rfl rfl rfl rfl hl rfl (Nat.le_of_ble_eq_true rfl) dX2_readLimit_35 ⟨Nat.le_of_ble_eq_true rfl, Nat.le_of_ble_eq_true rfl⟩) rfl rfl rfl (by decide) rfl rfl (fun H locs S => ?_)
        refine lv_aload_n hx hb dX2_readLimit_38 rfl (lv_at hl 1 rfl) ?_
        refine lv_iconst (v := (1 : Int32)) hx hb dX2_readLimit_39 (by decide) ?_
        obtain ⟨Rdw17, e18⟩ : ∃ q : Ob, q = zs_up Rdw12 0 5 (1 : Int32) := ⟨_, rfl⟩
        have hF := zs_letS hF e18
        refine zs_put C hK S 0 5 (ws' := wX2 G aRd aTk Rdw17 ++ wX5 G aTk Tk ++ wX6 G aYd Ydw15) (Cn := RX2) (T := TX2) (N := 6) (ci := 2) rfl rfl (by decide) zn_X2_readLimit_X2 tyX2_ok nmX2 (List.mem_of_getElem? (i := 1) rfl) rfl rfl rfl (Nat.le_of_ble_eq_true rfl) (by rw [e18]; rfl) dX2_readLimit_40 (fun H locs S => ?_)
        refine lv_iconst (v := (1 : Int32)) hx hb dX2_readLimit_43 (by decide) ?_
        obtain ⟨e19, e20, e21⟩ := zs_s3 hF
        exact zs_zretE C S rfl e19 (by rw [e20, e21]) dX2_readLimit_44
      · have hF := zs_t hF c14
        refine lv_iconst (v := (0 : Int32)) hx hb dX2_readLimit_31 (by decide) ?_
        obtain ⟨e22, e23, e24⟩ := zs_s3 hF
        exact zs_zretE C S rfl e22 (by rw [e23, e24]) dX2_readLimit_32
    · have hF := zs_t hF c8
      refine lv_iconst (v := (0 : Int32)) hx hb dX2_readLimit_17 (by decide) ?_
      obtain ⟨e25, e26, e27⟩ := zs_s3 hF
      exact zs_zretE C S rfl e25 (by rw [e26, e27]) dX2_readLimit_18

theorem zd_X2_readLimit : yX2_readLimit.cls = RX2 ∧ yX2_readLimit.cls ≠ "java/lang/invoke/MethodHandle" ∧ yX2_readLimit.cls ≠ "java/lang/invoke/VarHandle" ∧ (parseMethodDescriptor yX2_readLimit.desc).map (fun d => d.parameters.length) = some 1 := by decide +kernel
theorem zd_X2_readSees : yX2_readSees.cls = RX2 ∧ yX2_readSees.cls ≠ "java/lang/invoke/MethodHandle" ∧ yX2_readSees.cls ≠ "java/lang/invoke/VarHandle" ∧ (parseMethodDescriptor yX2_readSees.desc).map (fun d => d.parameters.length) = some 1 := by decide +kernel
theorem zd_X2_readWall : yX2_readWall.cls = RX2 ∧ yX2_readWall.cls ≠ "java/lang/invoke/MethodHandle" ∧ yX2_readWall.cls ≠ "java/lang/invoke/VarHandle" ∧ (parseMethodDescriptor yX2_readWall.desc).map (fun d => d.parameters.length) = some 1 := by decide +kernel
theorem zd_X2_readWork : yX2_readWork.cls = RX2 ∧ yX2_readWork.cls ≠ "java/lang/invoke/MethodHandle" ∧ yX2_readWork.cls ≠ "java/lang/invoke/VarHandle" ∧ (parseMethodDescriptor yX2_readWork.desc).map (fun d => d.parameters.length) = some 1 := by decide +kernel
abbrev RMX2_readItem : Room := { frames := 3, cells := 0, slots := 0, locals := 67 }
theorem zn_X2_readItem_X2 : ∀ w ∈ wsX20, w ∈ wsX2_readItem := zs_inl wsX20 [75, 76, 77, 78, 79, 80] (by decide +kernel)
set_option maxRecDepth 100000 in
set_option maxHeartbeats 4000000 in
theorem c_X2_readItem (l : Launch) (G : GG) (aRd aTk aYd : Ad) (Rd : Ob) (Tk : Ob) (Yd : Ob) (sz : Nat) (rr : Int32) (Rd_ : Ob) (Yd_ : Ob) (hF : F_X2_readItem Rd Tk Yd = some (rr, (Rd_, Yd_))) : Met l yX2_readItem wsX2_readItem RMX2_readItem (va_Pc [.ref (aRd 0), .ref (aYd 0)] (zs_pre G (wX2 G aRd aTk Rd ++ wX5 G aTk Tk ++ wX6 G aYd Yd) sz)) (zs_Qi G (wX2 G aRd aTk Rd_ ++ wX5 G aTk Tk ++ wX6 G aYd Yd_) rr (va_A (wX2 G aRd aTk Rd ++ wX5 G aTk Tk ++ wX6 G aYd Yd) sz)) 0 0 (va_A (wX2 G aRd aTk Rd ++ wX5 G aTk Tk ++ wX6 G aYd Yd) sz) := by
  refine zs_met (cc := cX2_readItem) (maxL := 2) (ret := (some .boolean)) (own := RX2) (Qc := zs_Qi G (wX2 G aRd aTk Rd_ ++ wX5 G aTk Tk ++ wX6 G aYd Yd_) rr) (by decide) rfl rfl (Nat.le_of_ble_eq_true rfl) ?_
  intro p e s m args below meth c C A hK hA S _ _ ls hl
  have hl : lv_has ls 2 [(0, .ref (aRd 0)), (1, .ref (aYd 0))] := hl
  have hx := C.1.1
  have hb := C.1.2.1
  unfold F_X2_readItem at hF
  refine lv_aload_n hx hb dX2_readItem_0 rfl (lv_at hl 0 rfl) ?_
  refine zs_get C hK S 0 2 (Cn := RX2) (T := TX2) (N := 6) (ci := 2) rfl rfl (by decide) zn_X2_readItem_X2 (List.mem_of_getElem? (i := 1) rfl) rfl dX2_readItem_1 ?_
  refine lv_iconst (v := (1 : Int32)) hx hb dX2_readItem_4 (by decide) ?_
  refine lv_icmp_eq (tgt := 10) hx hb dX2_readItem_5 (by decide) (fun c1 => ?_) (fun c1 => ?_)
  · have hF := zs_t hF c1
    refine lv_aload_n hx hb dX2_readItem_10 rfl (lv_at hl 0 rfl) ?_
    refine zs_get C hK S 0 3 (Cn := RX2) (T := TX2) (N := 6) (ci := 2) rfl rfl (by decide) zn_X2_readItem_X2 (List.mem_of_getElem? (i := 2) rfl) rfl dX2_readItem_11 ?_
    by_cases c2 : (Rd 0 3) = (1 : Int32)
    · have hF := zs_t hF c2
      refine lv_tableIn (off := 30) (tgt := 44) hx hb dX2_readItem_14 (by rw [c2]; decide) (by rw [c2]; decide) (by rw [c2]; rfl) (by decide) ?_
      refine lv_aload_n hx hb dX2_readItem_44 rfl (lv_at hl 0 rfl) ?_
      refine lv_aload_n hx hb dX2_readItem_45 rfl (lv_at hl 1 rfl) ?_
      obtain ⟨r3, Rdw4, Ydw5, f6, hF⟩ := zs_b3S hF
      refine zs_calli (wr := ([] : va_W)) (ws' := wX2 G aRd aTk Rdw4 ++ wX5 G aTk Tk ++ wX6 G aYd Ydw5) S hA [0, 1, 2, 3, 4, 5, 6, 7, 8, 9, 10, 11, 12] [] [0, 1, 2, 3, 4, 5, 6, 7, 8, 9, 10, 11, 12] (zs_runV C hK hA S [.ref (aYd 0)] [] [0, 1, 2, 3, 4, 5, 6, 7, 8, 9, 10, 11, 12] 0 1 (c_X2_readWall l G aRd aTk aYd Rd Tk Yd s.heap.size r3 Rdw4 Ydw5 f6) gX2_readItem_X2_readWall rfl rfl rfl zd_X2_readWall ⟨Nat.le_of_ble_eq_true rfl, Nat.le_of_ble_eq_true rfl⟩ rfl rfl rfl rfl rfl hl rfl (Nat.le_of_ble_eq_true rfl) dX2_readItem_46 ⟨Nat.le_of_ble_eq_true rfl, Nat.le_of_ble_eq_true rfl⟩) rfl rfl rfl (by decide) rfl rfl (fun H locs S => ?_)
      obtain ⟨h10, hF⟩ := zs_blS hF
      obtain ⟨e7, e8, e9⟩ := zs_s3 hF
      exact zs_zretE C S (zs_bln h10) e7 (by rw [e8, e9]) dX2_readItem_49
    · have hF := zs_f hF c2
      by_cases c11 : (Rd 0 3) = (2 : Int32)
      · have hF := zs_t hF c11
        refine lv_tableIn (off := 36) (tgt := 50) hx hb dX2_readItem_14 (by rw [c11]; decide) (by rw [c11]; decide) (by rw [c11]; rfl) (by decide) ?_
        refine lv_aload_n hx hb dX2_readItem_50 rfl (lv_at hl 0 rfl) ?_
        refine lv_aload_n hx hb dX2_readItem_51 rfl (lv_at hl 1 rfl) ?_
        obtain ⟨r12, Rdw13, Ydw14, f15, hF⟩ := zs_b3S hF
        refine zs_calli (wr := ([] : va_W)) (ws' := wX2 G aRd aTk Rdw13 ++ wX5 G aTk Tk ++ wX6 G aYd Ydw14) S hA [0, 1, 2, 3, 4, 5, 6, 7, 8, 9, 10, 11, 12] [] [0, 1, 2, 3, 4, 5, 6, 7, 8, 9, 10, 11, 12] (zs_runV C hK hA S [.ref (aYd 0)] [] [0, 1, 2, 3, 4, 5, 6, 7, 8, 9, 10, 11, 12] 0 1 (c_X2_readSees l G aRd aTk aYd Rd Tk Yd s.heap.size r12 Rdw13 Ydw14 f15) gX2_readItem_X2_readSees rfl rfl rfl zd_X2_readSees ⟨Nat.le_of_ble_eq_true rfl, Nat.le_of_ble_eq_true rfl⟩ rfl rfl rfl rfl rfl hl rfl (Nat.le_of_ble_eq_true rfl) dX2_readItem_52 ⟨Nat.le_of_ble_eq_true rfl, Nat.le_of_ble_eq_true rfl⟩) rfl rfl rfl (by decide) rfl rfl (fun H locs S => ?_)
        obtain ⟨h19, hF⟩ := zs_blS hF
        obtain ⟨e16, e17, e18⟩ := zs_s3 hF
        exact zs_zretE C S (zs_bln h19) e16 (by rw [e17, e18]) dX2_readItem_55
      · have hF := zs_f hF c11
        by_cases c20 : (Rd 0 3) = (3 : Int32)
        · have hF := zs_t hF c20
          refine lv_tableIn (off := 42) (tgt := 56) hx hb dX2_readItem_14 (by rw [c20]; decide) (by rw [c20]; decide) (by rw [c20]; rfl) (by decide) ?_
          refine lv_aload_n hx hb dX2_readItem_56 rfl (lv_at hl 0 rfl) ?_
          refine lv_aload_n hx hb dX2_readItem_57 rfl (lv_at hl 1 rfl) ?_
          obtain ⟨r21, Rdw22, Ydw23, f24, hF⟩ := zs_b3S hF
          refine zs_calli (wr := ([] : va_W)) (ws' := wX2 G aRd aTk Rdw22 ++ wX5 G aTk Tk ++ wX6 G aYd Ydw23) S hA [0, 1, 2, 3, 4, 5, 6, 7, 8, 9, 10, 11, 12] [] [0, 1, 2, 3, 4, 5, 6, 7, 8, 9, 10, 11, 12] (zs_runV C hK hA S [.ref (aYd 0)] [] [0, 1, 2, 3, 4, 5, 6, 7, 8, 9, 10, 11, 12] 0 1 (c_X2_readWork l G aRd aTk aYd Rd Tk Yd s.heap.size r21 Rdw22 Ydw23 f24) gX2_readItem_X2_readWork rfl rfl rfl zd_X2_readWork ⟨Nat.le_of_ble_eq_true rfl, Nat.le_of_ble_eq_true rfl⟩ rfl rfl rfl rfl rfl hl rfl (Nat.le_of_ble_eq_true rfl) dX2_readItem_58 ⟨Nat.le_of_ble_eq_true rfl, Nat.le_of_ble_eq_true rfl⟩) rfl rfl rfl (by decide) rfl rfl (fun H locs S => ?_)
          obtain ⟨h28, hF⟩ := zs_blS hF
          obtain ⟨e25, e26, e27⟩ := zs_s3 hF
          exact zs_zretE C S (zs_bln h28) e25 (by rw [e26, e27]) dX2_readItem_61
        · have hF := zs_f hF c20
          by_cases c29 : (Rd 0 3) = (4 : Int32)
          · have hF := zs_t hF c29
            refine lv_tableIn (off := 48) (tgt := 62) hx hb dX2_readItem_14 (by rw [c29]; decide) (by rw [c29]; decide) (by rw [c29]; rfl) (by decide) ?_
            refine lv_aload_n hx hb dX2_readItem_62 rfl (lv_at hl 0 rfl) ?_
            refine lv_aload_n hx hb dX2_readItem_63 rfl (lv_at hl 1 rfl) ?_
            obtain ⟨r30, Rdw31, Ydw32, f33, hF⟩ := zs_b3S hF
            refine zs_calli (wr := ([] : va_W)) (ws' := wX2 G aRd aTk Rdw31 ++ wX5 G aTk Tk ++ wX6 G aYd Ydw32) S hA [0, 1, 2, 3, 4, 5, 6, 7, 8, 9, 10, 11, 12] [] [0, 1, 2, 3, 4, 5, 6, 7, 8, 9, 10, 11, 12] (zs_runV C hK hA S [.ref (aYd 0)] [] [0, 1, 2, 3, 4, 5, 6, 7, 8, 9, 10, 11, 12] 0 1 (c_X2_readLimit l G aRd aTk aYd Rd Tk Yd s.heap.size r30 Rdw31 Ydw32 f33) gX2_readItem_X2_readLimit rfl rfl rfl zd_X2_readLimit ⟨Nat.le_of_ble_eq_true rfl, Nat.le_of_ble_eq_true rfl⟩ rfl rfl rfl rfl rfl hl rfl (Nat.le_of_ble_eq_true rfl) dX2_readItem_64 ⟨Nat.le_of_ble_eq_true rfl, Nat.le_of_ble_eq_true rfl⟩) rfl rfl rfl (by decide) rfl rfl (fun H locs S => ?_)
            obtain ⟨h37, hF⟩ := zs_blS hF
            obtain ⟨e34, e35, e36⟩ := zs_s3 hF
            exact zs_zretE C S (zs_bln h37) e34 (by rw [e35, e36]) dX2_readItem_67
          · have hF := zs_f hF c29
            refine lv_tableOut (tgt := 68) hx hb dX2_readItem_14 (zs_sw1_4 c2 c11 c20 c29) (by decide) ?_
            refine lv_iconst (v := (0 : Int32)) hx hb dX2_readItem_68 (by decide) ?_
            obtain ⟨e38, e39, e40⟩ := zs_s3 hF
            exact zs_zretE C S rfl e38 (by rw [e39, e40]) dX2_readItem_69
  · have hF := zs_f hF c1
    refine lv_iconst (v := (0 : Int32)) hx hb dX2_readItem_8 (by decide) ?_
    obtain ⟨e41, e42, e43⟩ := zs_s3 hF
    exact zs_zretE C S rfl e41 (by rw [e42, e43]) dX2_readItem_9

theorem zd_X2_readItem : yX2_readItem.cls = RX2 ∧ yX2_readItem.cls ≠ "java/lang/invoke/MethodHandle" ∧ yX2_readItem.cls ≠ "java/lang/invoke/VarHandle" ∧ (parseMethodDescriptor yX2_readItem.desc).map (fun d => d.parameters.length) = some 1 := by decide +kernel
theorem zd_X5_cut : yX5_cut.cls = RX5 ∧ yX5_cut.cls ≠ "java/lang/invoke/MethodHandle" ∧ yX5_cut.cls ≠ "java/lang/invoke/VarHandle" ∧ (parseMethodDescriptor yX5_cut.desc).map (fun d => d.parameters.length) = some 1 := by decide +kernel
theorem zd_X6_makeEmpty : yX6_makeEmpty.cls = RX6 ∧ yX6_makeEmpty.cls ≠ "java/lang/invoke/MethodHandle" ∧ yX6_makeEmpty.cls ≠ "java/lang/invoke/VarHandle" ∧ (parseMethodDescriptor yX6_makeEmpty.desc).map (fun d => d.parameters.length) = some 0 := by decide +kernel
abbrev RMX2_readInto : Room := { frames := 9, cells := 0, slots := 0, locals := 201 }
theorem zn_X2_readInto_X2 : ∀ w ∈ wsX20, w ∈ wsX2_readInto := zs_inl wsX20 [186, 187, 188, 189, 190, 191] (by decide +kernel)
set_option maxRecDepth 100000 in
set_option maxHeartbeats 4000000 in
theorem c_X2_readInto (l : Launch) (G : GG) (aRd aTk aYd aTx : Ad) (Rd : Ob) (Tk : Ob) (Yd : Ob) (Tx : Ob) (sz : Nat) (rr : Int32) (Rd_ : Ob) (Tk_ : Ob) (Yd_ : Ob) (hF : F_X2_readInto Rd Tk Yd Tx = some (rr, (Rd_, (Tk_, Yd_)))) : Met l yX2_readInto wsX2_readInto RMX2_readInto (va_Pc [.ref (aRd 0), .ref (aYd 0), .ref (aTx 0)] (zs_pre G (wX2 G aRd aTk Rd ++ wX5 G aTk Tk ++ wX6 G aYd Yd ++ wX4 G aTx Tx) sz)) (zs_Qi G (wX2 G aRd aTk Rd_ ++ wX5 G aTk Tk_ ++ wX6 G aYd Yd_ ++ wX4 G aTx Tx) rr (va_A (wX2 G aRd aTk Rd ++ wX5 G aTk Tk ++ wX6 G aYd Yd ++ wX4 G aTx Tx) sz)) 0 0 (va_A (wX2 G aRd aTk Rd ++ wX5 G aTk Tk ++ wX6 G aYd Yd ++ wX4 G aTx Tx) sz) := by
  refine zs_met (cc := cX2_readInto) (maxL := 4) (ret := (some .int)) (own := RX2) (Qc := zs_Qi G (wX2 G aRd aTk Rd_ ++ wX5 G aTk Tk_ ++ wX6 G aYd Yd_ ++ wX4 G aTx Tx) rr) (by decide) rfl rfl (Nat.le_of_ble_eq_true rfl) ?_
  intro p e s m args below meth c C A hK hA S _ _ ls hl
  have hl : lv_has ls 4 [(0, .ref (aRd 0)), (1, .ref (aYd 0)), (2, .ref (aTx 0))] := hl
  have hx := C.1.1
  have hb := C.1.2.1
  unfold F_X2_readInto at hF
  have j50 : ∀ (Rd : Ob) (Tk : Ob) (Yd : Ob) (H : Heap) (locs : List Loc) (ls : Array Slot), zs_S G A s.heap H locs (wX2 G aRd aTk Rd ++ wX5 G aTk Tk ++ wX6 G aYd Yd ++ wX4 G aTx Tx) → lv_has ls 4 [(0, .ref (aRd 0))] → F_X2_readInto_50 Tx Rd Tk Yd = some (rr, (Rd_, (Tk_, Yd_))) → W p l e RMX2_readInto s m args below meth c H locs 0 0 (MQ below (zs_Qi G (wX2 G aRd aTk Rd_ ++ wX5 G aTk Tk_ ++ wX6 G aYd Yd_ ++ wX4 G aTx Tx) rr A) args s 0 0 A) (F0 m 50 ls []) := by
    intro Rd Tk Yd H locs ls S hl hF
    unfold F_X2_readInto_50 at hF
    refine lv_bipush (v := (-10 : Int32)) hx hb dX2_readInto_50 (by decide) ?_
    refine lv_aload_n hx hb dX2_readInto_52 rfl (lv_at hl 0 rfl) ?_
    refine zs_get C hK S 0 1 (Cn := RX2) (T := TX2) (N := 6) (ci := 2) rfl rfl (by decide) zn_X2_readInto_X2 (List.mem_of_getElem? (i := 5) rfl) rfl dX2_readInto_53 ?_
    refine lv_isub hx hb dX2_readInto_56 ?_
    obtain ⟨e1, e2, e3, e4⟩ := zs_s4 hF
    exact zs_iretE C S e1 (by rw [e2, e3, e4]) dX2_readInto_57
  have j28 : ∀ (n28 : Nat) (Rd : Ob) (Tk : Ob) (Yd : Ob) (x3 : Int32) (H : Heap) (locs : List Loc) (ls : Array Slot), zs_S G A s.heap H locs (wX2 G aRd aTk Rd ++ wX5 G aTk Tk ++ wX6 G aYd Yd ++ wX4 G aTx Tx) → lv_has ls 4 [(0, .ref (aRd 0)), (1, .ref (aYd 0)), (3, .int x3)] → F_X2_readInto_28 Tx n28 Rd Tk Yd x3 = some (rr, (Rd_, (Tk_, Yd_))) → W p l e RMX2_readInto s m args below meth c H locs 0 0 (MQ below (zs_Qi G (wX2 G aRd aTk Rd_ ++ wX5 G aTk Tk_ ++ wX6 G aYd Yd_ ++ wX4 G aTx Tx) rr A) args s 0 0 A) (F0 m 28 ls []) := by
    intro n28
    induction n28 with
    | zero => intro Rd Tk Yd x3 H locs ls _ _ hF; rw [F_X2_readInto_28_z] at hF; cases hF
    | succ n28 ih28 =>
      intro Rd Tk Yd x3 H locs ls S hl hF
      rw [F_X2_readInto_28_n] at hF
      unfold F_X2_readInto_28_s at hF
      refine lv_aload_n hx hb dX2_readInto_28 rfl (lv_at hl 0 rfl) ?_
      refine zs_get C hK S 0 2 (Cn := RX2) (T := TX2) (N := 6) (ci := 2) rfl rfl (by decide) zn_X2_readInto_X2 (List.mem_of_getElem? (i := 4) rfl) rfl dX2_readInto_29 ?_
      refine lv_if_eq (tgt := 68) hx hb dX2_readInto_32 (by decide) (fun c5 => ?_) (fun c5 => ?_)
      · have hF := zs_t hF c5
        refine lv_iload_n hx hb dX2_readInto_68 rfl (lv_at hl 2 rfl) ?_
        obtain ⟨e6, e7, e8, e9⟩ := zs_s4 hF
        exact zs_iretE C S e6 (by rw [e7, e8, e9]) dX2_readInto_69
      · have hF := zs_f hF c5
        refine lv_iload_n hx hb dX2_readInto_35 rfl (lv_at hl 2 rfl) ?_
        refine lv_sipush (v := (251 : Int32)) hx hb dX2_readInto_36 (by decide) ?_
        refine lv_icmp_ge (tgt := 68) hx hb dX2_readInto_39 (by decide) (fun c10 => ?_) (fun c10 => ?_)
        · have hF := zs_t hF c10
          refine lv_iload_n hx hb dX2_readInto_68 rfl (lv_at hl 2 rfl) ?_
          obtain ⟨e11, e12, e13, e14⟩ := zs_s4 hF
          exact zs_iretE C S e11 (by rw [e12, e13, e14]) dX2_readInto_69
        · have hF := zs_f hF c10
          refine lv_aload_n hx hb dX2_readInto_42 rfl (lv_at hl 0 rfl) ?_
          refine lv_aload_n hx hb dX2_readInto_43 rfl (lv_at hl 1 rfl) ?_
          obtain ⟨r15, Rdw16, Ydw17, f18, hF⟩ := zs_b3S hF
          refine zs_calli (wr := wX4 G aTx Tx) (ws' := wX2 G aRd aTk Rdw16 ++ wX5 G aTk Tk ++ wX6 G aYd Ydw17 ++ wX4 G aTx Tx) S hA [0, 1, 2, 3, 4, 5, 6, 7, 8, 9, 10, 11, 12] [13, 14] [2, 3, 4, 5, 6, 7, 8, 9, 10, 11, 12, 13, 14, 0, 1] (zs_runV C hK hA S [.ref (aYd 0)] [] [0, 1, 2, 3, 4, 5, 6, 7, 8, 9, 10, 11, 12] 0 1 (c_X2_readItem l G aRd aTk aYd Rd Tk Yd H.size r15 Rdw16 Ydw17 f18) gX2_readInto_X2_readItem rfl rfl rfl zd_X2_readItem ⟨Nat.le_of_ble_eq_true rfl, Nat.le_of_ble_eq_true rfl⟩ rfl rfl rfl rfl rfl hl rfl (Nat.le_of_ble_eq_true rfl) dX2_readInto_44 ⟨Nat.le_of_ble_eq_true rfl, Nat.le_of_ble_eq_true rfl⟩) rfl rfl rfl (by decide) rfl rfl (fun H locs S => ?_)
          refine lv_if_ne (tgt := 58) hx hb dX2_readInto_47 (by decide) (fun c19 => ?_) (fun c19 => ?_)
          · have hF := zs_f hF c19
            obtain ⟨z20, e21⟩ : ∃ q : Int32, q = x3 + (1 : Int32) := ⟨_, rfl⟩
            have hF := zs_letS hF e21
            refine lv_iinc (v := z20) (lv' := [(3, .int z20), (0, .ref (aRd 0)), (1, .ref (aYd 0))]) hx hb dX2_readInto_58 hl (k := 2) rfl (by rw [e21]; rfl) (by decide) rfl (fun ls hl => ?_)
            refine lv_aload_n hx hb dX2_readInto_61 rfl (lv_at hl 1 rfl) ?_
            obtain ⟨Rdw22, f23, hF⟩ := zs_bdS hF
            refine zs_callv (wr := wX6 G aYd Ydw17 ++ wX4 G aTx Tx) (ws' := wX2 G aRd aTk Rdw22 ++ wX5 G aTk Tk ++ wX6 G aYd Ydw17 ++ wX4 G aTx Tx) S hA [0, 1, 2, 3, 4] [5, 6, 7, 8, 9, 10, 11, 12, 13, 14] [10, 11, 12, 13, 14, 0, 1, 2, 3, 4, 5, 6, 7, 8, 9] (zs_runV C hK hA S [] [] [0, 1, 2, 3, 4] 0 0 (c_X2_readToken l G aRd aTk Rdw16 Tk H.size Rdw22 f23) gX2_readInto_X2_readToken rfl rfl rfl zd_X2_readToken ⟨Nat.le_of_ble_eq_true rfl, Nat.le_of_ble_eq_true rfl⟩ rfl rfl rfl rfl rfl hl rfl (Nat.le_of_ble_eq_true rfl) dX2_readInto_62 ⟨Nat.le_of_ble_eq_true rfl, Nat.le_of_ble_eq_true rfl⟩) rfl rfl rfl (by decide) rfl rfl (fun H locs S => ?_)
            refine lv_goto (tgt := 28) hx hb dX2_readInto_65 (by decide) ?_
            exact ih28 Rdw22 Tk Ydw17 z20 _ _ _ S (lv_sub hl [1, 2, 0] rfl) hF
          · have hF := zs_t hF c19
            exact j50 Rdw16 Tk Ydw17 _ _ _ S (lv_sub hl [0] rfl) hF
  refine lv_aload_n hx hb dX2_readInto_0 rfl (lv_at hl 0 rfl) ?_
  refine zs_get C hK S 0 0 (Cn := RX2) (T := TX2) (N := 6) (ci := 2) rfl rfl (by decide) zn_X2_readInto_X2 (List.mem_of_getElem? (i := 1) rfl) rfl dX2_readInto_1 ?_
  refine lv_aload_n hx hb dX2_readInto_4 rfl (lv_at hl 2 rfl) ?_
  obtain ⟨Tkw24, f25, hF⟩ := zs_bdS hF
  refine zs_callv (wr := wX2 G aRd aTk Rd ++ wX6 G aYd Yd) (ws' := wX2 G aRd aTk Rd ++ wX5 G aTk Tkw24 ++ wX6 G aYd Yd ++ wX4 G aTx Tx) S hA [1, 2, 3, 4, 13, 14] [0, 5, 6, 7, 8, 9, 10, 11, 12] [0, 9, 10, 11, 12, 1, 2, 3, 4, 5, 6, 7, 8, 13, 14] (zs_runV C hK hA S [.ref (aTx 0)] [] [1, 2, 3, 4, 13, 14] 1 1 (c_X5_cut l G aTk aTx Tk Tx s.heap.size Tkw24 f25) gX2_readInto_X5_cut rfl rfl rfl zd_X5_cut ⟨Nat.le_of_ble_eq_true rfl, Nat.le_of_ble_eq_true rfl⟩ rfl rfl rfl rfl rfl hl rfl (Nat.le_of_ble_eq_true rfl) dX2_readInto_5 ⟨Nat.le_of_ble_eq_true rfl, Nat.le_of_ble_eq_true rfl⟩) rfl rfl rfl (by decide) rfl rfl (fun H locs S => ?_)
  refine lv_aload_n hx hb dX2_readInto_8 rfl (lv_at hl 1 rfl) ?_
  obtain ⟨Ydw26, f27, hF⟩ := zs_bdS hF
  refine zs_callv (wr := wX2 G aRd aTk Rd ++ wX5 G aTk Tkw24 ++ wX4 G aTx Tx) (ws' := wX2 G aRd aTk Rd ++ wX5 G aTk Tkw24 ++ wX6 G aYd Ydw26 ++ wX4 G aTx Tx) S hA [5, 6, 7, 8, 9, 10, 11, 12] [0, 1, 2, 3, 4, 13, 14] [0, 1, 2, 3, 4, 7, 8, 9, 10, 11, 12, 13, 14, 5, 6] (zs_runV C hK hA S [] [] [5, 6, 7, 8, 9, 10, 11, 12] 5 0 (c_X6_makeEmpty l G aYd Yd H.size Ydw26 f27) gX2_readInto_X6_makeEmpty rfl rfl rfl zd_X6_makeEmpty ⟨Nat.le_of_ble_eq_true rfl, Nat.le_of_ble_eq_true rfl⟩ rfl rfl rfl rfl rfl hl rfl (Nat.le_of_ble_eq_true rfl) dX2_readInto_9 ⟨Nat.le_of_ble_eq_true rfl, Nat.le_of_ble_eq_true rfl⟩) rfl rfl rfl (by decide) rfl rfl (fun H locs S => ?_)
  refine lv_aload_n hx hb dX2_readInto_12 rfl (lv_at hl 0 rfl) ?_
  refine lv_iconst (v := (0 : Int32)) hx hb dX2_readInto_13 (by decide) ?_
  obtain ⟨Rdw28, e29⟩ : ∃ q : Ob, q = zs_up Rd 0 4 (0 : Int32) := ⟨_, rfl⟩
  have hF := zs_letS hF e29
  refine zs_put C hK S 0 4 (ws' := wX2 G aRd aTk Rdw28 ++ wX5 G aTk Tkw24 ++ wX6 G aYd Ydw26 ++ wX4 G aTx Tx) (Cn := RX2) (T := TX2) (N := 6) (ci := 2) rfl rfl (by decide) zn_X2_readInto_X2 tyX2_ok nmX2 (List.mem_of_getElem? (i := 2) rfl) rfl rfl rfl (Nat.le_of_ble_eq_true rfl) (by rw [e29]; rfl) dX2_readInto_14 (fun H locs S => ?_)
  refine lv_aload_n hx hb dX2_readInto_17 rfl (lv_at hl 0 rfl) ?_
  refine lv_iconst (v := (0 : Int32)) hx hb dX2_readInto_18 (by decide) ?_
  obtain ⟨Rdw30, e31⟩ : ∃ q : Ob, q = zs_up Rdw28 0 5 (0 : Int32) := ⟨_, rfl⟩
  have hF := zs_letS hF e31
  refine zs_put C hK S 0 5 (ws' := wX2 G aRd aTk Rdw30 ++ wX5 G aTk Tkw24 ++ wX6 G aYd Ydw26 ++ wX4 G aTx Tx) (Cn := RX2) (T := TX2) (N := 6) (ci := 2) rfl rfl (by decide) zn_X2_readInto_X2 tyX2_ok nmX2 (List.mem_of_getElem? (i := 3) rfl) rfl rfl rfl (Nat.le_of_ble_eq_true rfl) (by rw [e31]; rfl) dX2_readInto_19 (fun H locs S => ?_)
  refine lv_iconst (v := (0 : Int32)) hx hb dX2_readInto_22 (by decide) ?_
  refine lv_istore_n (lv' := [(3, .int (0 : Int32)), (0, .ref (aRd 0)), (1, .ref (aYd 0)), (2, .ref (aTx 0))]) hx hb dX2_readInto_23 rfl hl (by decide) rfl (fun ls hl => ?_)
  refine lv_aload_n hx hb dX2_readInto_24 rfl (lv_at hl 1 rfl) ?_
  obtain ⟨Rdw32, f33, hF⟩ := zs_bdS hF
  refine zs_callv (wr := wX6 G aYd Ydw26 ++ wX4 G aTx Tx) (ws' := wX2 G aRd aTk Rdw32 ++ wX5 G aTk Tkw24 ++ wX6 G aYd Ydw26 ++ wX4 G aTx Tx) S hA [0, 1, 2, 3, 4] [5, 6, 7, 8, 9, 10, 11, 12, 13, 14] [10, 11, 12, 13, 14, 0, 1, 2, 3, 4, 5, 6, 7, 8, 9] (zs_runV C hK hA S [] [] [0, 1, 2, 3, 4] 0 0 (c_X2_readToken l G aRd aTk Rdw30 Tkw24 H.size Rdw32 f33) gX2_readInto_X2_readToken rfl rfl rfl zd_X2_readToken ⟨Nat.le_of_ble_eq_true rfl, Nat.le_of_ble_eq_true rfl⟩ rfl rfl rfl rfl rfl hl rfl (Nat.le_of_ble_eq_true rfl) dX2_readInto_25 ⟨Nat.le_of_ble_eq_true rfl, Nat.le_of_ble_eq_true rfl⟩) rfl rfl rfl (by decide) rfl rfl (fun H locs S => ?_)
  exact j28 1000 Rdw32 Tkw24 Ydw26 (0 : Int32) _ _ _ S (lv_sub hl [1, 2, 0] rfl) hF

