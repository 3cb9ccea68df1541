theorem zd_X0_staysCool : yX0_staysCool.cls = RX0 ∧ yX0_staysCool.cls ≠ "java/lang/invoke/MethodHandle" ∧ yX0_staysCool.cls ≠ "java/lang/invoke/VarHandle" ∧ (parseMethodDescriptor yX0_staysCool.desc).map (fun d => d.parameters.length) = some 2 := by decide +kernel
abbrev RMX7_busyHours : Room := { frames := 4, cells := 0, slots := 0, locals := 94 }
theorem zn_X7_busyHours_X0 : ∀ w ∈ wsX00, w ∈ wsX7_busyHours := zs_inl wsX00 [66, 67, 68] (by decide +kernel)
theorem zn_X7_busyHours_X6 : ∀ w ∈ wsX60, w ∈ wsX7_busyHours := zs_inl wsX60 [69, 70, 71, 72, 73, 74, 75, 76, 77] (by decide +kernel)
theorem zn_X7_busyHours_X7 : ∀ w ∈ wsX70, w ∈ wsX7_busyHours := zs_inl wsX70 [56, 57, 58, 59, 60, 61, 62, 63, 64, 65] (by decide +kernel)
set_option maxRecDepth 100000 in
set_option maxHeartbeats 4000000 in
theorem c_X7_busyHours (l : Launch) (G : GG) (aXm aTx aRd aPr aSg aAh aIm0 aIm1 aYt aYr aTn aYi : Ad) (Xm : Ob) (tr : Int64) (Pr : Ob) (Ah : Ob) (Tn : Ob) (Yi : Ob) (u1 : Int32) (u2 : Int32) (sz : Nat) (rr : Int32) (Tn_ : Ob) (Yi_ : Ob) (hF : F_X7_busyHours Pr Ah Tn Yi u1 u2 = some (rr, (Tn_, Yi_))) : Met l yX7_busyHours wsX7_busyHours RMX7_busyHours (va_Pc [.ref (aXm 0), .int u1, .int u2] (zs_pre G (wX7 G aXm aTx aRd aPr aSg aAh aIm0 aIm1 aYt aYr Xm tr ++ wX1 G aPr Pr ++ wX0 G aAh aTn aYi Ah ++ wX1 G aTn Tn ++ wX6 G aYi Yi) sz)) (zs_Qi G (wX7 G aXm aTx aRd aPr aSg aAh aIm0 aIm1 aYt aYr Xm tr ++ wX1 G aPr Pr ++ wX0 G aAh aTn aYi Ah ++ wX1 G aTn Tn_ ++ wX6 G aYi Yi_) rr (va_A (wX7 G aXm aTx aRd aPr aSg aAh aIm0 aIm1 aYt aYr Xm tr ++ wX1 G aPr Pr ++ wX0 G aAh aTn aYi Ah ++ wX1 G aTn Tn ++ wX6 G aYi Yi) sz)) 0 0 (va_A (wX7 G aXm aTx aRd aPr aSg aAh aIm0 aIm1 aYt aYr Xm tr ++ wX1 G aPr Pr ++ wX0 G aAh aTn aYi Ah ++ wX1 G aTn Tn ++ wX6 G aYi Yi) sz) := by
  refine zs_met (cc := cX7_busyHours) (maxL := 4) (ret := (some .int)) (own := RX7) (Qc := zs_Qi G (wX7 G aXm aTx aRd aPr aSg aAh aIm0 aIm1 aYt aYr Xm tr ++ wX1 G aPr Pr ++ wX0 G aAh aTn aYi Ah ++ wX1 G aTn Tn_ ++ wX6 G aYi Yi_) rr) (by decide) rfl rfl (Nat.le_of_ble_eq_true rfl) ?_
  intro p e s m args below meth c C A hK hA S _ _ ls hl
  have hl : lv_has ls 4 [(0, .ref (aXm 0)), (1, .int u1), (2, .int u2)] := hl
  have hx := C.1.1
  have hb := C.1.2.1
  unfold F_X7_busyHours at hF
  have j2 : ∀ (n2 : Nat) (Tn : Ob) (Yi : Ob) (x1 : Int32) (x2 : Int32) (x3 : Int32) (H : Heap) (locs : List Loc) (ls : Array Slot), zs_S G A s.heap H locs (wX7 G aXm aTx aRd aPr aSg aAh aIm0 aIm1 aYt aYr Xm tr ++ wX1 G aPr Pr ++ wX0 G aAh aTn aYi Ah ++ wX1 G aTn Tn ++ wX6 G aYi Yi) → lv_has ls 4 [(0, .ref (aXm 0)), (1, .int x1), (2, .int x2), (3, .int x3)] → F_X7_busyHours_2 Pr Ah n2 Tn Yi x1 x2 x3 = some (rr, (Tn_, Yi_)) → W p l e RMX7_busyHours s m args below meth c H locs 0 0 (MQ below (zs_Qi G (wX7 G aXm aTx aRd aPr aSg aAh aIm0 aIm1 aYt aYr Xm tr ++ wX1 G aPr Pr ++ wX0 G aAh aTn aYi Ah ++ wX1 G aTn Tn_ ++ wX6 G aYi Yi_) rr A) args s 0 0 A) (F0 m 2 ls []) := by
    intro n2
    induction n2 with
    | zero => intro Tn Yi x1 x2 x3 H locs ls _ _ hF; rw [F_X7_busyHours_2_z] at hF; cases hF
    | succ n2 ih2 =>
      have j48 : ∀ (Tn : Ob) (Yi : Ob) (x1 : Int32) (x2 : Int32) (x3 : Int32) (H : Heap) (locs : List Loc) (ls : Array Slot), zs_S G A s.heap H locs (wX7 G aXm aTx aRd aPr aSg aAh aIm0 aIm1 aYt aYr Xm tr ++ wX1 G aPr Pr ++ wX0 G aAh aTn aYi Ah ++ wX1 G aTn Tn ++ wX6 G aYi Yi) → lv_has ls 4 [(0, .ref (aXm 0)), (1, .int x1), (2, .int x2), (3, .int x3)] → F_X7_busyHours_48 Pr Ah (F_X7_busyHours_2 Pr Ah n2) Tn Yi x1 x2 x3 = some (rr, (Tn_, Yi_)) → W p l e RMX7_busyHours s m args below meth c H locs 0 0 (MQ below (zs_Qi G (wX7 G aXm aTx aRd aPr aSg aAh aIm0 aIm1 aYt aYr Xm tr ++ wX1 G aPr Pr ++ wX0 G aAh aTn aYi Ah ++ wX1 G aTn Tn_ ++ wX6 G aYi Yi_) rr A) args s 0 0 A) (F0 m 48 ls []) := by
        intro Tn Yi x1 x2 x3 H locs ls S hl hF
        unfold F_X7_busyHours_48 at hF
        obtain ⟨z1, e2⟩ : ∃ q : Int32, q = x3 + (1 : Int32) := ⟨_, rfl⟩
        have hF := zs_letS hF e2
        refine lv_iinc (v := z1) (lv' := [(3, .int z1), (0, .ref (aXm 0)), (1, .int x1), (2, .int x2)]) hx hb dX7_busyHours_48 hl (k := 3) rfl (by rw [e2]; rfl) (by decide) rfl (fun ls hl => ?_)
        refine lv_goto (tgt := 2) hx hb dX7_busyHours_51 (by decide) ?_
        exact ih2 Tn Yi x1 x2 z1 _ _ _ S (lv_sub hl [1, 2, 3, 0] rfl) hF
      intro Tn Yi x1 x2 x3 H locs ls S hl hF
      rw [F_X7_busyHours_2_n] at hF
      unfold F_X7_busyHours_2_s at hF
      refine lv_iload_n hx hb dX7_busyHours_2 rfl (lv_at hl 3 rfl) ?_
      refine lv_sipush (v := (255 : Int32)) hx hb dX7_busyHours_3 (by decide) ?_
      refine lv_icmp_gt (tgt := 54) hx hb dX7_busyHours_6 (by decide) (fun c3 => ?_) (fun c3 => ?_)
      · have hF := zs_t hF c3
        refine lv_bipush (v := (-9 : Int32)) hx hb dX7_busyHours_54 (by decide) ?_
        obtain ⟨e4, e5, e6⟩ := zs_s3 hF
        exact zs_iretE C S e4 (by rw [e5, e6]) dX7_busyHours_56
      · have hF := zs_f hF c3
        refine lv_iload_n hx hb dX7_busyHours_9 rfl (lv_at hl 3 rfl) ?_
        obtain ⟨r7, f8, hF⟩ := zs_bdS hF
        refine zs_calliP S hA (zs_runS C hK hA S [.int x3] [] [] 1 (c_J6_bitCount_0f7a4 l G x3 H.size r7 f8) gX7_busyHours_J6_bitCount_0f7a4 rfl rfl rfl zd_J6_bitCount_0f7a4 ⟨Nat.le_of_ble_eq_true rfl, Nat.le_of_ble_eq_true rfl⟩ rfl rfl rfl hl rfl (Nat.le_of_ble_eq_true rfl) dX7_busyHours_10 ⟨Nat.le_of_ble_eq_true rfl, Nat.le_of_ble_eq_true rfl⟩) (fun H locs S => ?_)
        refine lv_iload_n hx hb dX7_busyHours_13 rfl (lv_at hl 2 rfl) ?_
        refine lv_icmp_ne (tgt := 48) hx hb dX7_busyHours_14 (by decide) (fun c9 => ?_) (fun c9 => ?_)
        · have hF := zs_f hF c9
          exact j48 Tn Yi x1 x2 x3 _ _ _ S (lv_sub hl [0, 1, 2, 3] rfl) hF
        · have hF := zs_t hF c9
          refine lv_aload_n hx hb dX7_busyHours_17 rfl (lv_at hl 0 rfl) ?_
          refine zs_get C hK S 0 4 (Cn := RX7) (T := TX7) (N := 10) (ci := 7) rfl rfl (by decide) zn_X7_busyHours_X7 (List.mem_of_getElem? (i := 1) rfl) rfl dX7_busyHours_18 ?_
          refine zs_get C hK S 6 1 (Cn := RX0) (T := TX0) (N := 3) (ci := 0) rfl rfl (by decide) zn_X7_busyHours_X0 (List.mem_of_getElem? (i := 2) rfl) rfl dX7_busyHours_21 ?_
          refine zs_get C hK S 12 5 (Cn := RX6) (T := TX6) (N := 9) (ci := 6) rfl rfl (by decide) zn_X7_busyHours_X6 (List.mem_of_getElem? (i := 3) rfl) rfl dX7_busyHours_24 ?_
          refine lv_iload_n hx hb dX7_busyHours_27 rfl (lv_at hl 1 rfl) ?_
          refine lv_iload_n hx hb dX7_busyHours_28 rfl (lv_at hl 3 rfl) ?_
          obtain ⟨h10, hF⟩ := zs_ckS hF
          obtain ⟨Yiw11, e12⟩ : ∃ q : Ob, q = zs_up Yi 4 (x1).toNatClampNeg x3 := ⟨_, rfl⟩
          have hF := zs_letS hF e12
          refine zs_iast C hK S 16 (ws' := wX7 G aXm aTx aRd aPr aSg aAh aIm0 aIm1 aYt aYr Xm tr ++ wX1 G aPr Pr ++ wX0 G aAh aTn aYi Ah ++ wX1 G aTn Tn ++ wX6 G aYi Yiw11) rfl h10 (by rw [e12]; rfl) dX7_busyHours_29 (fun H locs S => ?_)
          refine lv_aload_n hx hb dX7_busyHours_30 rfl (lv_at hl 0 rfl) ?_
          refine zs_get C hK S 0 4 (Cn := RX7) (T := TX7) (N := 10) (ci := 7) rfl rfl (by decide) zn_X7_busyHours_X7 (List.mem_of_getElem? (i := 1) rfl) rfl dX7_busyHours_31 ?_
          refine lv_aload_n hx hb dX7_busyHours_34 rfl (lv_at hl 0 rfl) ?_
          refine zs_get C hK S 0 2 (Cn := RX7) (T := TX7) (N := 10) (ci := 7) rfl rfl (by decide) zn_X7_busyHours_X7 (List.mem_of_getElem? (i := 4) rfl) rfl dX7_busyHours_35 ?_
          refine lv_bipush (v := (16 : Int32)) hx hb dX7_busyHours_38 (by decide) ?_
          obtain ⟨r13, Tnw14, f15, hF⟩ := zs_b2S hF
          refine zs_calli (wr := wX7 G aXm aTx aRd aPr aSg aAh aIm0 aIm1 aYt aYr Xm tr) (ws' := wX7 G aXm aTx aRd aPr aSg aAh aIm0 aIm1 aYt aYr Xm tr ++ wX1 G aPr Pr ++ wX0 G aAh aTn aYi Ah ++ wX1 G aTn Tnw14 ++ wX6 G aYi Yiw11) S hA [6, 7, 8, 9, 10, 11, 12, 13, 14, 15, 16, 17, 18, 19, 2, 3, 4, 5] [0, 1] [0, 1, 16, 17, 18, 19, 2, 3, 4, 5, 6, 7, 8, 9, 10, 11, 12, 13, 14, 15] (zs_runV C hK hA S [.ref (aPr 0), .int (16 : Int32)] [] [6, 7, 8, 9, 10, 11, 12, 13, 14, 15, 16, 17, 18, 19, 2, 3, 4, 5] 6 2 (c_X0_staysCool l G aAh aTn aYi aPr Ah Tn Yiw11 Pr ((16 : Int32)) H.size r13 Tnw14 f15) gX7_busyHours_X0_staysCool rfl rfl rfl zd_X0_staysCool ⟨Nat.le_of_ble_eq_true rfl, Nat.le_of_ble_eq_true rfl⟩ rfl rfl rfl rfl rfl hl rfl (Nat.le_of_ble_eq_true rfl) dX7_busyHours_40 ⟨Nat.le_of_ble_eq_true rfl, Nat.le_of_ble_eq_true rfl⟩) rfl rfl rfl (by decide) rfl rfl (fun H locs S => ?_)
          refine lv_if_eq (tgt := 48) hx hb dX7_busyHours_43 (by decide) (fun c16 => ?_) (fun c16 => ?_)
          · have hF := zs_t hF c16
            exact j48 Tnw14 Yiw11 x1 x2 x3 _ _ _ S (lv_sub hl [0, 1, 2, 3] rfl) hF
          · have hF := zs_f hF c16
            refine lv_iload_n hx hb dX7_busyHours_46 rfl (lv_at hl 3 rfl) ?_
            obtain ⟨e17, e18, e19⟩ := zs_s3 hF
            exact zs_iretE C S e17 (by rw [e18, e19]) dX7_busyHours_47
  refine lv_iconst (v := (0 : Int32)) hx hb dX7_busyHours_0 (by decide) ?_
  refine lv_istore_n (lv' := [(3, .int (0 : Int32)), (0, .ref (aXm 0)), (1, .int u1), (2, .int u2)]) hx hb dX7_busyHours_1 rfl hl (by decide) rfl (fun ls hl => ?_)
  exact j2 1000 Tn Yi u1 u2 (0 : Int32) _ _ _ S (lv_sub hl [1, 2, 3, 0] rfl) hF

theorem zd_X6_copy : yX6_copy.cls = RX6 ∧ yX6_copy.cls ≠ "java/lang/invoke/MethodHandle" ∧ yX6_copy.cls ≠ "java/lang/invoke/VarHandle" ∧ (parseMethodDescriptor yX6_copy.desc).map (fun d => d.parameters.length) = some 1 := by decide +kernel
theorem zd_X7_busyHours : yX7_busyHours.cls = RX7 ∧ yX7_busyHours.cls ≠ "java/lang/invoke/MethodHandle" ∧ yX7_busyHours.cls ≠ "java/lang/invoke/VarHandle" ∧ (parseMethodDescriptor yX7_busyHours.desc).map (fun d => d.parameters.length) = some 2 := by decide +kernel
abbrev RMX7_busy : Room := { frames := 5, cells := 0, slots := 0, locals := 117 }
theorem zn_X7_busy_X0 : ∀ w ∈ wsX00, w ∈ wsX7_busy := zs_inl wsX00 [93, 94, 95] (by decide +kernel)
theorem zn_X7_busy_X7 : ∀ w ∈ wsX70, w ∈ wsX7_busy := zs_inl wsX70 [83, 84, 85, 86, 87, 88, 89, 90, 91, 92] (by decide +kernel)
set_option maxRecDepth 100000 in
set_option maxHeartbeats 4000000 in
theorem c_X7_busy (l : Launch) (G : GG) (aXm aTx aRd aPr aSg aAh aIm0 aIm1 aYt aYr aTn aYi : Ad) (Xm : Ob) (tr : Int64) (Pr : Ob) (Yt : Ob) (Ah : Ob) (Tn : Ob) (Yi : Ob) (u1 : Int32) (u2 : Int32) (sz : Nat) (rr : Int32) (Tn_ : Ob) (Yi_ : Ob) (hF : F_X7_busy Pr Yt Ah Tn Yi u1 u2 = some (rr, (Tn_, Yi_))) : Met l yX7_busy wsX7_busy RMX7_busy (va_Pc [.ref (aXm 0), .int u1, .int u2] (zs_pre G (wX7 G aXm aTx aRd aPr aSg aAh aIm0 aIm1 aYt aYr Xm tr ++ wX1 G aPr Pr ++ wX6 G aYt Yt ++ wX0 G aAh aTn aYi Ah ++ wX1 G aTn Tn ++ wX6 G aYi Yi) sz)) (zs_Qi G (wX7 G aXm aTx aRd aPr aSg aAh aIm0 aIm1 aYt aYr Xm tr ++ wX1 G aPr Pr ++ wX6 G aYt Yt ++ wX0 G aAh aTn aYi Ah ++ wX1 G aTn Tn_ ++ wX6 G aYi Yi_) rr (va_A (wX7 G aXm aTx aRd aPr aSg aAh aIm0 aIm1 aYt aYr Xm tr ++ wX1 G aPr Pr ++ wX6 G aYt Yt ++ wX0 G aAh aTn aYi Ah ++ wX1 G aTn Tn ++ wX6 G aYi Yi) sz)) 0 0 (va_A (wX7 G aXm aTx aRd aPr aSg aAh aIm0 aIm1 aYt aYr Xm tr ++ wX1 G aPr Pr ++ wX6 G aYt Yt ++ wX0 G aAh aTn aYi Ah ++ wX1 G aTn Tn ++ wX6 G aYi Yi) sz) := by
  refine zs_met (cc := cX7_busy) (maxL := 5) (ret := (some .int)) (own := RX7) (Qc := zs_Qi G (wX7 G aXm aTx aRd aPr aSg aAh aIm0 aIm1 aYt aYr Xm tr ++ wX1 G aPr Pr ++ wX6 G aYt Yt ++ wX0 G aAh aTn aYi Ah ++ wX1 G aTn Tn_ ++ wX6 G aYi Yi_) rr) (by decide) rfl rfl (Nat.le_of_ble_eq_true rfl) ?_
  intro p e s m args below meth c C A hK hA S _ _ ls hl
  have hl : lv_has ls 5 [(0, .ref (aXm 0)), (1, .int u1), (2, .int u2)] := hl
  have hx := C.1.1
  have hb := C.1.2.1
  unfold F_X7_busy at hF
  have j53 : ∀ (Tn : Ob) (Yi : Ob) (x2 : Int32) (x3 : Int32) (x4 : Int32) (H : Heap) (locs : List Loc) (ls : Array Slot), zs_S G A s.heap H locs (wX7 G aXm aTx aRd aPr aSg aAh aIm0 aIm1 aYt aYr Xm tr ++ wX1 G aPr Pr ++ wX6 G aYt Yt ++ wX0 G aAh aTn aYi Ah ++ wX1 G aTn Tn ++ wX6 G aYi Yi) → lv_has ls 5 [(2, .int x2), (3, .int x3), (4, .int x4)] → F_X7_busy_53 Pr Yt Ah Tn Yi x2 x3 x4 = some (rr, (Tn_, Yi_)) → W p l e RMX7_busy s m args below meth c H locs 0 0 (MQ below (zs_Qi G (wX7 G aXm aTx aRd aPr aSg aAh aIm0 aIm1 aYt aYr Xm tr ++ wX1 G aPr Pr ++ wX6 G aYt Yt ++ wX0 G aAh aTn aYi Ah ++ wX1 G aTn Tn_ ++ wX6 G aYi Yi_) rr A) args s 0 0 A) (F0 m 53 ls []) := by
    intro Tn Yi x2 x3 x4 H locs ls S hl hF
    unfold F_X7_busy_53 at hF
    refine lv_iload_n hx hb dX7_busy_53 rfl (lv_at hl 0 rfl) ?_
    refine lv_if_ne (tgt := 61) hx hb dX7_busy_54 (by decide) (fun c1 => ?_) (fun c1 => ?_)
    · have hF := zs_f hF c1
      refine lv_iload hx hb dX7_busy_61 (lv_at hl 2 rfl) ?_
      obtain ⟨e2, e3, e4⟩ := zs_s3 hF
      exact zs_iretE C S e2 (by rw [e3, e4]) dX7_busy_63
    · have hF := zs_t hF c1
      refine lv_iload_n hx hb dX7_busy_57 rfl (lv_at hl 1 rfl) ?_
      refine lv_goto (tgt := 63) hx hb dX7_busy_58 (by decide) ?_
      obtain ⟨e5, e6, e7⟩ := zs_s3 hF
      exact zs_iretE C S e5 (by rw [e6, e7]) dX7_busy_63
  have j34 : ∀ (n34 : Nat) (Tn : Ob) (Yi : Ob) (x1 : Int32) (x2 : Int32) (x3 : Int32) (H : Heap) (locs : List Loc) (ls : Array Slot), zs_S G A s.heap H locs (wX7 G aXm aTx aRd aPr aSg aAh aIm0 aIm1 aYt aYr Xm tr ++ wX1 G aPr Pr ++ wX6 G aYt Yt ++ wX0 G aAh aTn aYi Ah ++ wX1 G aTn Tn ++ wX6 G aYi Yi) → lv_has ls 5 [(0, .ref (aXm 0)), (1, .int x1), (2, .int x2), (3, .int x3)] → F_X7_busy_34 Pr Yt Ah n34 Tn Yi x1 x2 x3 = some (rr, (Tn_, Yi_)) → W p l e RMX7_busy s m args below meth c H locs 0 0 (MQ below (zs_Qi G (wX7 G aXm aTx aRd aPr aSg aAh aIm0 aIm1 aYt aYr Xm tr ++ wX1 G aPr Pr ++ wX6 G aYt Yt ++ wX0 G aAh aTn aYi Ah ++ wX1 G aTn Tn_ ++ wX6 G aYi Yi_) rr A) args s 0 0 A) (F0 m 34 ls []) := by
    intro n34
    induction n34 with
    | zero => intro Tn Yi x1 x2 x3 H locs ls _ _ hF; rw [F_X7_busy_34_z] at hF; cases hF
    | succ n34 ih34 =>
      intro Tn Yi x1 x2 x3 H locs ls S hl hF
      rw [F_X7_busy_34_n] at hF
      unfold F_X7_busy_34_s at hF
      refine lv_iload_n hx hb dX7_busy_34 rfl (lv_at hl 3 rfl) ?_
      refine lv_if_lt (tgt := 70) hx hb dX7_busy_35 (by decide) (fun c8 => ?_) (fun c8 => ?_)
      · have hF := zs_t hF c8
        refine lv_bipush (v := (-9 : Int32)) hx hb dX7_busy_70 (by decide) ?_
        obtain ⟨e9, e10, e11⟩ := zs_s3 hF
        exact zs_iretE C S e9 (by rw [e10, e11]) dX7_busy_72
      · have hF := zs_f hF c8
        refine lv_aload_n hx hb dX7_busy_38 rfl (lv_at hl 0 rfl) ?_
        refine lv_iload_n hx hb dX7_busy_39 rfl (lv_at hl 1 rfl) ?_
        refine lv_iload_n hx hb dX7_busy_40 rfl (lv_at hl 3 rfl) ?_
        obtain ⟨r12, Tnw13, Yiw14, f15, hF⟩ := zs_b3S hF
        refine zs_calli (wr := wX6 G aYt Yt) (ws' := wX7 G aXm aTx aRd aPr aSg aAh aIm0 aIm1 aYt aYr Xm tr ++ wX1 G aPr Pr ++ wX6 G aYt Yt ++ wX0 G aAh aTn aYi Ah ++ wX1 G aTn Tnw13 ++ wX6 G aYi Yiw14) S hA [0, 1, 2, 3, 4, 5, 14, 15, 16, 17, 18, 19, 20, 21, 22, 23, 24, 25, 26, 27] [6, 7, 8, 9, 10, 11, 12, 13] [8, 9, 10, 11, 12, 13, 0, 1, 2, 3, 4, 5, 6, 7, 14, 15, 16, 17, 18, 19, 20, 21, 22, 23, 24, 25, 26, 27] (zs_runV C hK hA S [.int x1, .int x3] [] [0, 1, 2, 3, 4, 5, 14, 15, 16, 17, 18, 19, 20, 21, 22, 23, 24, 25, 26, 27] 0 2 (c_X7_busyHours l G aXm aTx aRd aPr aSg aAh aIm0 aIm1 aYt aYr aTn aYi Xm tr Pr Ah Tn Yi x1 x3 H.size r12 Tnw13 Yiw14 f15) gX7_busy_X7_busyHours rfl rfl rfl zd_X7_busyHours ⟨Nat.le_of_ble_eq_true rfl, Nat.le_of_ble_eq_true rfl⟩ rfl rfl rfl rfl rfl hl rfl (Nat.le_of_ble_eq_true rfl) dX7_busy_41 ⟨Nat.le_of_ble_eq_true rfl, Nat.le_of_ble_eq_true rfl⟩) rfl rfl rfl (by decide) rfl rfl (fun H locs S => ?_)
        refine lv_istore (lv' := [(4, .int r12), (0, .ref (aXm 0)), (1, .int x1), (2, .int x2), (3, .int x3)]) hx hb dX7_busy_44 hl (by decide) rfl (fun ls hl => ?_)
        refine lv_iload hx hb dX7_busy_46 (lv_at hl 0 rfl) ?_
        refine lv_bipush (v := (-9 : Int32)) hx hb dX7_busy_48 (by decide) ?_
        refine lv_icmp_eq (tgt := 64) hx hb dX7_busy_50 (by decide) (fun c16 => ?_) (fun c16 => ?_)
        · have hF := zs_t hF c16
          obtain ⟨z17, e18⟩ : ∃ q : Int32, q = x3 + (-1 : Int32) := ⟨_, rfl⟩
          have hF := zs_letS hF e18
          refine lv_iinc (v := z17) (lv' := [(3, .int z17), (4, .int r12), (0, .ref (aXm 0)), (1, .int x1), (2, .int x2)]) hx hb dX7_busy_64 hl (k := 4) rfl (by rw [e18]; rfl) (by decide) rfl (fun ls hl => ?_)
          refine lv_goto (tgt := 34) hx hb dX7_busy_67 (by decide) ?_
          exact ih34 Tnw13 Yiw14 x1 x2 z17 _ _ _ S (lv_sub hl [2, 3, 4, 0] rfl) hF
        · have hF := zs_f hF c16
          exact j53 Tnw13 Yiw14 x2 x3 r12 _ _ _ S (lv_sub hl [3, 4, 0] rfl) hF
  refine lv_aload_n hx hb dX7_busy_0 rfl (lv_at hl 0 rfl) ?_
  refine lv_iload_n hx hb dX7_busy_1 rfl (lv_at hl 1 rfl) ?_
  obtain ⟨r19, f20, hF⟩ := zs_bdS hF
  refine zs_calli (wr := wX1 G aPr Pr ++ wX0 G aAh aTn aYi Ah ++ wX1 G aTn Tn ++ wX6 G aYi Yi) (ws' := wX7 G aXm aTx aRd aPr aSg aAh aIm0 aIm1 aYt aYr Xm tr ++ wX1 G aPr Pr ++ wX6 G aYt Yt ++ wX0 G aAh aTn aYi Ah ++ wX1 G aTn Tn ++ wX6 G aYi Yi) S hA [0, 1, 6, 7, 8, 9, 10, 11, 12, 13] [2, 3, 4, 5, 14, 15, 16, 17, 18, 19, 20, 21, 22, 23, 24, 25, 26, 27] [18, 19, 0, 1, 2, 3, 20, 21, 22, 23, 24, 25, 26, 27, 4, 5, 6, 7, 8, 9, 10, 11, 12, 13, 14, 15, 16, 17] (zs_runV C hK hA S [.int u1] [] [0, 1, 6, 7, 8, 9, 10, 11, 12, 13] 0 1 (c_X7_isWall l G aXm aTx aRd aPr aSg aAh aIm0 aIm1 aYt aYr Xm tr Yt u1 s.heap.size r19 f20) gX7_busy_X7_isWall rfl rfl rfl zd_X7_isWall ⟨Nat.le_of_ble_eq_true rfl, Nat.le_of_ble_eq_true rfl⟩ rfl rfl rfl rfl rfl hl rfl (Nat.le_of_ble_eq_true rfl) dX7_busy_2 ⟨Nat.le_of_ble_eq_true rfl, Nat.le_of_ble_eq_true rfl⟩) rfl rfl rfl (by decide) rfl rfl (fun H locs S => ?_)
  refine lv_if_eq (tgt := 15) hx hb dX7_busy_5 (by decide) (fun c21 => ?_) (fun c21 => ?_)
  · have hF := zs_t hF c21
    refine lv_iconst (v := (-1 : Int32)) hx hb dX7_busy_15 (by decide) ?_
    obtain ⟨e22, e23, e24⟩ := zs_s3 hF
    exact zs_iretE C S e22 (by rw [e23, e24]) dX7_busy_16
  · have hF := zs_f hF c21
    refine lv_iload_n hx hb dX7_busy_8 rfl (lv_at hl 2 rfl) ?_
    obtain ⟨r25, f26, hF⟩ := zs_bdS hF
    refine zs_calliP S hA (zs_runS C hK hA S [.int u2] [] [] 1 (c_X7_isBit l G u2 H.size r25 f26) gX7_busy_X7_isBit rfl rfl rfl zd_X7_isBit ⟨Nat.le_of_ble_eq_true rfl, Nat.le_of_ble_eq_true rfl⟩ rfl rfl rfl hl rfl (Nat.le_of_ble_eq_true rfl) dX7_busy_9 ⟨Nat.le_of_ble_eq_true rfl, Nat.le_of_ble_eq_true rfl⟩) (fun H locs S => ?_)
    refine lv_if_ne (tgt := 17) hx hb dX7_busy_12 (by decide) (fun c27 => ?_) (fun c27 => ?_)
    · have hF := zs_f hF c27
      refine lv_aload_n hx hb dX7_busy_17 rfl (lv_at hl 0 rfl) ?_
      refine zs_get C hK S 0 4 (Cn := RX7) (T := TX7) (N := 10) (ci := 7) rfl rfl (by decide) zn_X7_busy_X7 (List.mem_of_getElem? (i := 1) rfl) rfl dX7_busy_18 ?_
      refine zs_get C hK S 14 1 (Cn := RX0) (T := TX0) (N := 3) (ci := 0) rfl rfl (by decide) zn_X7_busy_X0 (List.mem_of_getElem? (i := 2) rfl) rfl dX7_busy_21 ?_
      refine lv_aload_n hx hb dX7_busy_24 rfl (lv_at hl 0 rfl) ?_
      refine zs_get C hK S 0 6 (Cn := RX7) (T := TX7) (N := 10) (ci := 7) rfl rfl (by decide) zn_X7_busy_X7 (List.mem_of_getElem? (i := 3) rfl) rfl dX7_busy_25 ?_
      obtain ⟨Yiw28, f29, hF⟩ := zs_bdS hF
      refine zs_callv (wr := wX7 G aXm aTx aRd aPr aSg aAh aIm0 aIm1 aYt aYr Xm tr ++ wX1 G aPr Pr ++ wX0 G aAh aTn aYi Ah ++ wX1 G aTn Tn) (ws' := wX7 G aXm aTx aRd aPr aSg aAh aIm0 aIm1 aYt aYr Xm tr ++ wX1 G aPr Pr ++ wX6 G aYt Yt ++ wX0 G aAh aTn aYi Ah ++ wX1 G aTn Tn ++ wX6 G aYi Yiw28) S hA [20, 21, 22, 23, 24, 25, 26, 27, 6, 7, 8, 9, 10, 11, 12, 13] [0, 1, 2, 3, 4, 5, 14, 15, 16, 17, 18, 19] [0, 1, 2, 3, 4, 5, 20, 21, 22, 23, 24, 25, 26, 27, 6, 7, 8, 9, 10, 11, 12, 13, 14, 15, 16, 17, 18, 19] (zs_runV C hK hA S [.ref (aYt 0)] [] [20, 21, 22, 23, 24, 25, 26, 27, 6, 7, 8, 9, 10, 11, 12, 13] 20 1 (c_X6_copy l G aYi aYt Yi Yt H.size Yiw28 f29) gX7_busy_X6_copy rfl rfl rfl zd_X6_copy ⟨Nat.le_of_ble_eq_true rfl, Nat.le_of_ble_eq_true rfl⟩ rfl rfl rfl rfl rfl hl rfl (Nat.le_of_ble_eq_true rfl) dX7_busy_28 ⟨Nat.le_of_ble_eq_true rfl, Nat.le_of_ble_eq_true rfl⟩) rfl rfl rfl (by decide) rfl rfl (fun H locs S => ?_)
      refine lv_bipush (v := (8 : Int32)) hx hb dX7_busy_31 (by decide) ?_
      refine lv_istore_n (lv' := [(3, .int (8 : Int32)), (0, .ref (aXm 0)), (1, .int u1), (2, .int u2)]) hx hb dX7_busy_33 rfl hl (by decide) rfl (fun ls hl => ?_)
      exact j34 1000 Tn Yiw28 u1 u2 (8 : Int32) _ _ _ S (lv_sub hl [1, 2, 3, 0] rfl) hF
    · have hF := zs_t hF c27
      refine lv_iconst (v := (-1 : Int32)) hx hb dX7_busy_15 (by decide) ?_
      obtain ⟨e30, e31, e32⟩ := zs_s3 hF
      exact zs_iretE C S e30 (by rw [e31, e32]) dX7_busy_16

theorem zd_X0_warmthIfMirrors : yX0_warmthIfMirrors.cls = RX0 ∧ yX0_warmthIfMirrors.cls ≠ "java/lang/invoke/MethodHandle" ∧ yX0_warmthIfMirrors.cls ≠ "java/lang/invoke/VarHandle" ∧ (parseMethodDescriptor yX0_warmthIfMirrors.desc).map (fun d => d.parameters.length) = some 5 := by decide +kernel
abbrev RMX7_blanketOf : Room := { frames := 5, cells := 0, slots := 0, locals := 119 }
theorem zn_X7_blanketOf_X1 : ∀ w ∈ wsX10, w ∈ wsX7_blanketOf := zs_inl wsX10 [67, 68, 69, 70, 71, 72, 73, 74] (by decide +kernel)
theorem zn_X7_blanketOf_X6 : ∀ w ∈ wsX60, w ∈ wsX7_blanketOf := zs_inl wsX60 [75, 76, 77, 78, 79, 80, 81, 82, 83] (by decide +kernel)
theorem zn_X7_blanketOf_X7 : ∀ w ∈ wsX70, w ∈ wsX7_blanketOf := zs_inl wsX70 [57, 58, 59, 60, 61, 62, 63, 64, 65, 66] (by decide +kernel)
set_option maxRecDepth 100000 in
set_option maxHeartbeats 4000000 in
theorem c_X7_blanketOf (l : Launch) (G : GG) (aXm aTx aRd aPr aSg aAh aIm0 aIm1 aYt aYr aTn aYi : Ad) (Xm : Ob) (tr : Int64) (Pr : Ob) (Yt : Ob) (Ah : Ob) (Tn : Ob) (u1 : Int32) (u2 : Int32) (u3 : Int32) (u4 : Int32) (sz : Nat) (rr : Int32) (Tn_ : Ob) (hF : F_X7_blanketOf Pr Yt Ah Tn u1 u2 u3 u4 = some (rr, Tn_)) : Met l yX7_blanketOf wsX7_blanketOf RMX7_blanketOf (va_Pc [.ref (aXm 0), .int u1, .int u2, .int u3, .int u4] (zs_pre G (wX7 G aXm aTx aRd aPr aSg aAh aIm0 aIm1 aYt aYr Xm tr ++ wX1 G aPr Pr ++ wX6 G aYt Yt ++ wX0 G aAh aTn aYi Ah ++ wX1 G aTn Tn) sz)) (zs_Qi G (wX7 G aXm aTx aRd aPr aSg aAh aIm0 aIm1 aYt aYr Xm tr ++ wX1 G aPr Pr ++ wX6 G aYt Yt ++ wX0 G aAh aTn aYi Ah ++ wX1 G aTn Tn_) rr (va_A (wX7 G aXm aTx aRd aPr aSg aAh aIm0 aIm1 aYt aYr Xm tr ++ wX1 G aPr Pr ++ wX6 G aYt Yt ++ wX0 G aAh aTn aYi Ah ++ wX1 G aTn Tn) sz)) 0 0 (va_A (wX7 G aXm aTx aRd aPr aSg aAh aIm0 aIm1 aYt aYr Xm tr ++ wX1 G aPr Pr ++ wX6 G aYt Yt ++ wX0 G aAh aTn aYi Ah ++ wX1 G aTn Tn) sz) := by
  refine zs_met (cc := cX7_blanketOf) (maxL := 7) (ret := (some .int)) (own := RX7) (Qc := zs_Qi G (wX7 G aXm aTx aRd aPr aSg aAh aIm0 aIm1 aYt aYr Xm tr ++ wX1 G aPr Pr ++ wX6 G aYt Yt ++ wX0 G aAh aTn aYi Ah ++ wX1 G aTn Tn_) rr) (by decide) rfl rfl (Nat.le_of_ble_eq_true rfl) ?_
  intro p e s m args below meth c C A hK hA S _ _ ls hl
  have hl : lv_has ls 7 [(0, .ref (aXm 0)), (1, .int u1), (2, .int u2), (3, .int u3), (4, .int u4)] := hl
  have hx := C.1.1
  have hb := C.1.2.1
  unfold F_X7_blanketOf at hF
  have j16 : ∀ (n16 : Nat) (Tn : Ob) (x1 : Int32) (x2 : Int32) (x3 : Int32) (x4 : Int32) (x5 : Int32) (x6 : Int32) (H : Heap) (locs : List Loc) (ls : Array Slot), zs_S G A s.heap H locs (wX7 G aXm aTx aRd aPr aSg aAh aIm0 aIm1 aYt aYr Xm tr ++ wX1 G aPr Pr ++ wX6 G aYt Yt ++ wX0 G aAh aTn aYi Ah ++ wX1 G aTn Tn) → lv_has ls 7 [(0, .ref (aXm 0)), (1, .int x1), (2, .int x2), (3, .int x3), (4, .int x4), (5, .int x5), (6, .int x6)] → F_X7_blanketOf_16 Pr Yt Ah n16 Tn x1 x2 x3 x4 x5 x6 = some (rr, Tn_) → W p l e RMX7_blanketOf s m args below meth c H locs 0 0 (MQ below (zs_Qi G (wX7 G aXm aTx aRd aPr aSg aAh aIm0 aIm1 aYt aYr Xm tr ++ wX1 G aPr Pr ++ wX6 G aYt Yt ++ wX0 G aAh aTn aYi Ah ++ wX1 G aTn Tn_) rr A) args s 0 0 A) (F0 m 16 ls []) := by
    intro n16
    induction n16 with
    | zero => intro Tn x1 x2 x3 x4 x5 x6 H locs ls _ _ hF; rw [F_X7_blanketOf_16_z] at hF; cases hF
    | succ n16 ih16 =>
      have j74 : ∀ (Tn : Ob) (x1 : Int32) (x2 : Int32) (x3 : Int32) (x4 : Int32) (x5 : Int32) (x6 : Int32) (H : Heap) (locs : List Loc) (ls : Array Slot), zs_S G A s.heap H locs (wX7 G aXm aTx aRd aPr aSg aAh aIm0 aIm1 aYt aYr Xm tr ++ wX1 G aPr Pr ++ wX6 G aYt Yt ++ wX0 G aAh aTn aYi Ah ++ wX1 G aTn Tn) → lv_has ls 7 [(0, .ref (aXm 0)), (1, .int x1), (2, .int x2), (3, .int x3), (4, .int x4), (5, .int x5), (6, .int x6)] → F_X7_blanketOf_74 Pr Yt Ah (F_X7_blanketOf_16 Pr Yt Ah n16) Tn x1 x2 x3 x4 x5 x6 = some (rr, Tn_) → W p l e RMX7_blanketOf s m args below meth c H locs 0 0 (MQ below (zs_Qi G (wX7 G aXm aTx aRd aPr aSg aAh aIm0 aIm1 aYt aYr Xm tr ++ wX1 G aPr Pr ++ wX6 G aYt Yt ++ wX0 G aAh aTn aYi Ah ++ wX1 G aTn Tn_) rr A) args s 0 0 A) (F0 m 74 ls []) := by
        intro Tn x1 x2 x3 x4 x5 x6 H locs ls S hl hF
        unfold F_X7_blanketOf_74 at hF
        obtain ⟨z1, e2⟩ : ∃ q : Int32, q = x6 + (1 : Int32) := ⟨_, rfl⟩
        have hF := zs_letS hF e2
        refine lv_iinc (v := z1) (lv' := [(6, .int z1), (0, .ref (aXm 0)), (1, .int x1), (2, .int x2), (3, .int x3), (4, .int x4), (5, .int x5)]) hx hb dX7_blanketOf_74 hl (k := 6) rfl (by rw [e2]; rfl) (by decide) rfl (fun ls hl => ?_)
        refine lv_goto (tgt := 16) hx hb dX7_blanketOf_77 (by decide) ?_
        exact ih16 Tn x1 x2 x3 x4 x5 z1 _ _ _ S (lv_sub hl [1, 2, 3, 4, 5, 6, 0] rfl) hF
      intro Tn x1 x2 x3 x4 x5 x6 H locs ls S hl hF
      rw [F_X7_blanketOf_16_n] at hF
      unfold F_X7_blanketOf_16_s at hF
      refine lv_iload hx hb dX7_blanketOf_16 (lv_at hl 6 rfl) ?_
      refine lv_iconst (v := (1 : Int32)) hx hb dX7_blanketOf_18 (by decide) ?_
      refine lv_aload_n hx hb dX7_blanketOf_19 rfl (lv_at hl 0 rfl) ?_
      refine zs_get C hK S 0 6 (Cn := RX7) (T := TX7) (N := 10) (ci := 7) rfl rfl (by decide) zn_X7_blanketOf_X7 (List.mem_of_getElem? (i := 3) rfl) rfl dX7_blanketOf_20 ?_
      refine zs_get C hK S 6 0 (Cn := RX6) (T := TX6) (N := 9) (ci := 6) rfl rfl (by decide) zn_X7_blanketOf_X6 (List.mem_of_getElem? (i := 4) rfl) rfl dX7_blanketOf_23 ?_
      refine lv_ishl hx hb dX7_blanketOf_26 ?_
      refine lv_icmp_ge (tgt := 80) hx hb dX7_blanketOf_27 (by decide) (fun c3 => ?_) (fun c3 => ?_)
      · have hF := zs_t hF c3
        refine lv_bipush (v := (-9 : Int32)) hx hb dX7_blanketOf_80 (by decide) ?_
        obtain ⟨e4, e5⟩ := zs_s2 hF
        exact zs_iretE C S e4 (by rw [e5]) dX7_blanketOf_82
      · have hF := zs_f hF c3
        refine lv_iload hx hb dX7_blanketOf_30 (lv_at hl 6 rfl) ?_
        refine lv_iload hx hb dX7_blanketOf_32 (lv_at hl 5 rfl) ?_
        refine lv_iand hx hb dX7_blanketOf_34 ?_
        refine lv_if_ne (tgt := 74) hx hb dX7_blanketOf_35 (by decide) (fun c6 => ?_) (fun c6 => ?_)
        · have hF := zs_f hF c6
          exact j74 Tn x1 x2 x3 x4 x5 x6 _ _ _ S (lv_sub hl [0, 1, 2, 3, 4, 5, 6] rfl) hF
        · have hF := zs_t hF c6
          refine lv_iload hx hb dX7_blanketOf_38 (lv_at hl 6 rfl) ?_
          obtain ⟨r7, f8, hF⟩ := zs_bdS hF
          refine zs_calliP S hA (zs_runS C hK hA S [.int x6] [] [] 1 (c_J6_bitCount_0f7a4 l G x6 H.size r7 f8) gX7_blanketOf_J6_bitCount_0f7a4 rfl rfl rfl zd_J6_bitCount_0f7a4 ⟨Nat.le_of_ble_eq_true rfl, Nat.le_of_ble_eq_true rfl⟩ rfl rfl rfl hl rfl (Nat.le_of_ble_eq_true rfl) dX7_blanketOf_40 ⟨Nat.le_of_ble_eq_true rfl, Nat.le_of_ble_eq_true rfl⟩) (fun H locs S => ?_)
          refine lv_iload hx hb dX7_blanketOf_43 (lv_at hl 4 rfl) ?_
          refine lv_icmp_ne (tgt := 74) hx hb dX7_blanketOf_45 (by decide) (fun c9 => ?_) (fun c9 => ?_)
          · have hF := zs_f hF c9
            exact j74 Tn x1 x2 x3 x4 x5 x6 _ _ _ S (lv_sub hl [0, 1, 2, 3, 4, 5, 6] rfl) hF
          · have hF := zs_t hF c9
            refine lv_aload_n hx hb dX7_blanketOf_48 rfl (lv_at hl 0 rfl) ?_
            refine zs_get C hK S 0 4 (Cn := RX7) (T := TX7) (N := 10) (ci := 7) rfl rfl (by decide) zn_X7_blanketOf_X7 (List.mem_of_getElem? (i := 5) rfl) rfl dX7_blanketOf_49 ?_
            refine lv_aload_n hx hb dX7_blanketOf_52 rfl (lv_at hl 0 rfl) ?_
            refine zs_get C hK S 0 2 (Cn := RX7) (T := TX7) (N := 10) (ci := 7) rfl rfl (by decide) zn_X7_blanketOf_X7 (List.mem_of_getElem? (i := 1) rfl) rfl dX7_blanketOf_53 ?_
            refine lv_aload_n hx hb dX7_blanketOf_56 rfl (lv_at hl 0 rfl) ?_
            refine zs_get C hK S 0 6 (Cn := RX7) (T := TX7) (N := 10) (ci := 7) rfl rfl (by decide) zn_X7_blanketOf_X7 (List.mem_of_getElem? (i := 3) rfl) rfl dX7_blanketOf_57 ?_
            refine lv_iload hx hb dX7_blanketOf_60 (lv_at hl 6 rfl) ?_
            refine lv_iload_n hx hb dX7_blanketOf_62 rfl (lv_at hl 3 rfl) ?_
            refine lv_iload_n hx hb dX7_blanketOf_63 rfl (lv_at hl 1 rfl) ?_
            obtain ⟨r10, Tnw11, f12, hF⟩ := zs_b2S hF
            refine zs_calli (wr := wX7 G aXm aTx aRd aPr aSg aAh aIm0 aIm1 aYt aYr Xm tr) (ws' := wX7 G aXm aTx aRd aPr aSg aAh aIm0 aIm1 aYt aYr Xm tr ++ wX1 G aPr Pr ++ wX6 G aYt Yt ++ wX0 G aAh aTn aYi Ah ++ wX1 G aTn Tnw11) S hA [14, 15, 16, 17, 18, 19, 2, 3, 4, 5, 6, 7, 8, 9, 10, 11, 12, 13] [0, 1] [0, 1, 8, 9, 10, 11, 12, 13, 14, 15, 16, 17, 18, 19, 2, 3, 4, 5, 6, 7] (zs_runV C hK hA S [.ref (aPr 0), .ref (aYt 0), .int x6, .int x3, .int x1] [] [14, 15, 16, 17, 18, 19, 2, 3, 4, 5, 6, 7, 8, 9, 10, 11, 12, 13] 14 5 (c_X0_warmthIfMirrors l G aAh aTn aYi aPr aYt Ah Tn Pr Yt x6 x3 x1 H.size r10 Tnw11 f12) gX7_blanketOf_X0_warmthIfMirrors rfl rfl rfl zd_X0_warmthIfMirrors ⟨Nat.le_of_ble_eq_true rfl, Nat.le_of_ble_eq_true rfl⟩ rfl rfl rfl rfl rfl hl rfl (Nat.le_of_ble_eq_true rfl) dX7_blanketOf_64 ⟨Nat.le_of_ble_eq_true rfl, Nat.le_of_ble_eq_true rfl⟩) rfl rfl rfl (by decide) rfl rfl (fun H locs S => ?_)
            refine lv_iload_n hx hb dX7_blanketOf_67 rfl (lv_at hl 2 rfl) ?_
            refine lv_icmp_lt (tgt := 74) hx hb dX7_blanketOf_68 (by decide) (fun c13 => ?_) (fun c13 => ?_)
            · have hF := zs_t hF c13
              exact j74 Tnw11 x1 x2 x3 x4 x5 x6 _ _ _ S (lv_sub hl [0, 1, 2, 3, 4, 5, 6] rfl) hF
            · have hF := zs_f hF c13
              refine lv_iload hx hb dX7_blanketOf_71 (lv_at hl 6 rfl) ?_
              obtain ⟨e14, e15⟩ := zs_s2 hF
              exact zs_iretE C S e14 (by rw [e15]) dX7_blanketOf_73
  refine lv_aload_n hx hb dX7_blanketOf_0 rfl (lv_at hl 0 rfl) ?_
  refine zs_get C hK S 0 2 (Cn := RX7) (T := TX7) (N := 10) (ci := 7) rfl rfl (by decide) zn_X7_blanketOf_X7 (List.mem_of_getElem? (i := 1) rfl) rfl dX7_blanketOf_1 ?_
  refine zs_get C hK S 2 2 (Cn := RX1) (T := TX1) (N := 8) (ci := 1) rfl rfl (by decide) zn_X7_blanketOf_X1 (List.mem_of_getElem? (i := 2) rfl) rfl dX7_blanketOf_4 ?_
  refine lv_iconst (v := (1 : Int32)) hx hb dX7_blanketOf_7 (by decide) ?_
  refine lv_iload_n hx hb dX7_blanketOf_8 rfl (lv_at hl 1 rfl) ?_
  refine lv_ishl hx hb dX7_blanketOf_9 ?_
  refine lv_ior hx hb dX7_blanketOf_10 ?_
  refine lv_topi (fun z16 e17 => ?_)
  have hF := zs_letS hF e17
  refine lv_istore (lv' := [(5, .int z16), (0, .ref (aXm 0)), (1, .int u1), (2, .int u2), (3, .int u3), (4, .int u4)]) hx hb dX7_blanketOf_11 hl (by decide) rfl (fun ls hl => ?_)
  refine lv_iconst (v := (0 : Int32)) hx hb dX7_blanketOf_13 (by decide) ?_
  refine lv_istore (lv' := [(6, .int (0 : Int32)), (5, .int z16), (0, .ref (aXm 0)), (1, .int u1), (2, .int u2), (3, .int u3), (4, .int u4)]) hx hb dX7_blanketOf_14 hl (by decide) rfl (fun ls hl => ?_)
  exact j16 1000 Tn u1 u2 u3 u4 z16 (0 : Int32) _ _ _ S (lv_sub hl [2, 3, 4, 5, 6, 1, 0] rfl) hF

theorem zd_X7_blanketOf : yX7_blanketOf.cls = RX7 ∧ yX7_blanketOf.cls ≠ "java/lang/invoke/MethodHandle" ∧ yX7_blanketOf.cls ≠ "java/lang/invoke/VarHandle" ∧ (parseMethodDescriptor yX7_blanketOf.desc).map (fun d => d.parameters.length) = some 4 := by decide +kernel
abbrev RMX7_blanket : Room := { frames := 6, cells := 0, slots := 0, locals := 145 }
theorem zn_X7_blanket_X6 : ∀ w ∈ wsX60, w ∈ wsX7_blanket := zs_inl wsX60 [78, 79, 80, 81, 82, 83, 84, 85, 86] (by decide +kernel)
theorem zn_X7_blanket_X7 : ∀ w ∈ wsX70, w ∈ wsX7_blanket := zs_inl wsX70 [68, 69, 70, 71, 72, 73, 74, 75, 76, 77] (by decide +kernel)
set_option maxRecDepth 100000 in
set_option maxHeartbeats 4000000 in
theorem c_X7_blanket (l : Launch) (G : GG) (aXm aTx aRd aPr aSg aAh aIm0 aIm1 aYt aYr aTn aYi : Ad) (Xm : Ob) (tr : Int64) (Pr : Ob) (Yt : Ob) (Ah : Ob) (Tn : Ob) (u1 : Int32) (u2 : Int32) (u3 : Int32) (sz : Nat) (rr : Int32) (Tn_ : Ob) (hF : F_X7_blanket Pr Yt Ah Tn u1 u2 u3 = some (rr, Tn_)) : Met l yX7_blanket wsX7_blanket RMX7_blanket (va_Pc [.ref (aXm 0), .int u1, .int u2, .int u3] (zs_pre G (wX7 G aXm aTx aRd aPr aSg aAh aIm0 aIm1 aYt aYr Xm tr ++ wX1 G aPr Pr ++ wX6 G aYt Yt ++ wX0 G aAh aTn aYi Ah ++ wX1 G aTn Tn) sz)) (zs_Qi G (wX7 G aXm aTx aRd aPr aSg aAh aIm0 aIm1 aYt aYr Xm tr ++ wX1 G aPr Pr ++ wX6 G aYt Yt ++ wX0 G aAh aTn aYi Ah ++ wX1 G aTn Tn_) rr (va_A (wX7 G aXm aTx aRd aPr aSg aAh aIm0 aIm1 aYt aYr Xm tr ++ wX1 G aPr Pr ++ wX6 G aYt Yt ++ wX0 G aAh aTn aYi Ah ++ wX1 G aTn Tn) sz)) 0 0 (va_A (wX7 G aXm aTx aRd aPr aSg aAh aIm0 aIm1 aYt aYr Xm tr ++ wX1 G aPr Pr ++ wX6 G aYt Yt ++ wX0 G aAh aTn aYi Ah ++ wX1 G aTn Tn) sz) := by
  refine zs_met (cc := cX7_blanket) (maxL := 6) (ret := (some .int)) (own := RX7) (Qc := zs_Qi G (wX7 G aXm aTx aRd aPr aSg aAh aIm0 aIm1 aYt aYr Xm tr ++ wX1 G aPr Pr ++ wX6 G aYt Yt ++ wX0 G aAh aTn aYi Ah ++ wX1 G aTn Tn_) rr) (by decide) rfl rfl (Nat.le_of_ble_eq_true rfl) ?_
  intro p e s m args below meth c C A hK hA S _ _ ls hl
  have hl : lv_has ls 6 [(0, .ref (aXm 0)), (1, .int u1), (2, .int u2), (3, .int u3)] := hl
  have hx := C.1.1
  have hb := C.1.2.1
  unfold F_X7_blanket at hF
  have j32 : ∀ (n32 : Nat) (Tn : Ob) (x1 : Int32) (x2 : Int32) (x3 : Int32) (x4 : Int32) (H : Heap) (locs : List Loc) (ls : Array Slot), zs_S G A s.heap H locs (wX7 G aXm aTx aRd aPr aSg aAh aIm0 aIm1 aYt aYr Xm tr ++ wX1 G aPr Pr ++ wX6 G aYt Yt ++ wX0 G aAh aTn aYi Ah ++ wX1 G aTn Tn) → lv_has ls 6 [(0, .ref (aXm 0)), (1, .int x1), (2, .int x2), (3, .int x3), (4, .int x4)] → F_X7_blanket_32 Pr Yt Ah n32 Tn x1 x2 x3 x4 = some (rr, Tn_) → W p l e RMX7_blanket s m args below meth c H locs 0 0 (MQ below (zs_Qi G (wX7 G aXm aTx aRd aPr aSg aAh aIm0 aIm1 aYt aYr Xm tr ++ wX1 G aPr Pr ++ wX6 G aYt Yt ++ wX0 G aAh aTn aYi Ah ++ wX1 G aTn Tn_) rr A) args s 0 0 A) (F0 m 32 ls []) := by
    intro n32
    induction n32 with
    | zero => intro Tn x1 x2 x3 x4 H locs ls _ _ hF; rw [F_X7_blanket_32_z] at hF; cases hF
    | succ n32 ih32 =>
      intro Tn x1 x2 x3 x4 H locs ls S hl hF
      rw [F_X7_blanket_32_n] at hF
      unfold F_X7_blanket_32_s at hF
      refine lv_iload hx hb dX7_blanket_32 (lv_at hl 4 rfl) ?_
      refine lv_aload_n hx hb dX7_blanket_34 rfl (lv_at hl 0 rfl) ?_
      refine zs_get C hK S 0 6 (Cn := RX7) (T := TX7) (N := 10) (ci := 7) rfl rfl (by decide) zn_X7_blanket_X7 (List.mem_of_getElem? (i := 1) rfl) rfl dX7_blanket_35 ?_
      refine zs_get C hK S 6 0 (Cn := RX6) (T := TX6) (N := 9) (ci := 6) rfl rfl (by decide) zn_X7_blanket_X6 (List.mem_of_getElem? (i := 2) rfl) rfl dX7_blanket_38 ?_
      refine lv_icmp_ge (tgt := 71) hx hb dX7_blanket_41 (by decide) (fun c1 => ?_) (fun c1 => ?_)
      · have hF := zs_t hF c1
        refine lv_bipush (v := (-9 : Int32)) hx hb dX7_blanket_71 (by decide) ?_
        obtain ⟨e2, e3⟩ := zs_s2 hF
        exact zs_iretE C S e2 (by rw [e3]) dX7_blanket_73
      · have hF := zs_f hF c1
        refine lv_aload_n hx hb dX7_blanket_44 rfl (lv_at hl 0 rfl) ?_
        refine lv_iload_n hx hb dX7_blanket_45 rfl (lv_at hl 1 rfl) ?_
        refine lv_iload_n hx hb dX7_blanket_46 rfl (lv_at hl 2 rfl) ?_
        refine lv_iload_n hx hb dX7_blanket_47 rfl (lv_at hl 3 rfl) ?_
        refine lv_iload hx hb dX7_blanket_48 (lv_at hl 4 rfl) ?_
        obtain ⟨r4, Tnw5, f6, hF⟩ := zs_b2S hF
        refine zs_calli (wr := ([] : va_W)) (ws' := wX7 G aXm aTx aRd aPr aSg aAh aIm0 aIm1 aYt aYr Xm tr ++ wX1 G aPr Pr ++ wX6 G aYt Yt ++ wX0 G aAh aTn aYi Ah ++ wX1 G aTn Tnw5) S hA [0, 1, 2, 3, 4, 5, 6, 7, 8, 9, 10, 11, 12, 13, 14, 15, 16, 17, 18, 19] [] [0, 1, 2, 3, 4, 5, 6, 7, 8, 9, 10, 11, 12, 13, 14, 15, 16, 17, 18, 19] (zs_runV C hK hA S [.int x1, .int x2, .int x3, .int x4] [] [0, 1, 2, 3, 4, 5, 6, 7, 8, 9, 10, 11, 12, 13, 14, 15, 16, 17, 18, 19] 0 4 (c_X7_blanketOf l G aXm aTx aRd aPr aSg aAh aIm0 aIm1 aYt aYr aTn aYi Xm tr Pr Yt Ah Tn x1 x2 x3 x4 H.size r4 Tnw5 f6) gX7_blanket_X7_blanketOf rfl rfl rfl zd_X7_blanketOf ⟨Nat.le_of_ble_eq_true rfl, Nat.le_of_ble_eq_true rfl⟩ rfl rfl rfl rfl rfl hl rfl (Nat.le_of_ble_eq_true rfl) dX7_blanket_50 ⟨Nat.le_of_ble_eq_true rfl, Nat.le_of_ble_eq_true rfl⟩) rfl rfl rfl (by decide) rfl rfl (fun H locs S => ?_)
        refine lv_istore (lv' := [(5, .int r4), (0, .ref (aXm 0)), (1, .int x1), (2, .int x2), (3, .int x3), (4, .int x4)]) hx hb dX7_blanket_53 hl (by decide) rfl (fun ls hl => ?_)
        refine lv_iload hx hb dX7_blanket_55 (lv_at hl 0 rfl) ?_
        refine lv_bipush (v := (-9 : Int32)) hx hb dX7_blanket_57 (by decide) ?_
        refine lv_icmp_eq (tgt := 65) hx hb dX7_blanket_59 (by decide) (fun c7 => ?_) (fun c7 => ?_)
        · have hF := zs_t hF c7
          obtain ⟨z8, e9⟩ : ∃ q : Int32, q = x4 + (1 : Int32) := ⟨_, rfl⟩
          have hF := zs_letS hF e9
          refine lv_iinc (v := z8) (lv' := [(4, .int z8), (5, .int r4), (0, .ref (aXm 0)), (1, .int x1), (2, .int x2), (3, .int x3)]) hx hb dX7_blanket_65 hl (k := 5) rfl (by rw [e9]; rfl) (by decide) rfl (fun ls hl => ?_)
          refine lv_goto (tgt := 32) hx hb dX7_blanket_68 (by decide) ?_
          exact ih32 Tnw5 x1 x2 x3 z8 _ _ _ S (lv_sub hl [2, 3, 4, 5, 0] rfl) hF
        · have hF := zs_f hF c7
          refine lv_iload hx hb dX7_blanket_62 (lv_at hl 0 rfl) ?_
          obtain ⟨e10, e11⟩ := zs_s2 hF
          exact zs_iretE C S e10 (by rw [e11]) dX7_blanket_64
  refine lv_aload_n hx hb dX7_blanket_0 rfl (lv_at hl 0 rfl) ?_
  refine lv_iload_n hx hb dX7_blanket_1 rfl (lv_at hl 1 rfl) ?_
  obtain ⟨r12, f13, hF⟩ := zs_bdS hF
  refine zs_calli (wr := wX1 G aPr Pr ++ wX0 G aAh aTn aYi Ah ++ wX1 G aTn Tn) (ws' := wX7 G aXm aTx aRd aPr aSg aAh aIm0 aIm1 aYt aYr Xm tr ++ wX1 G aPr Pr ++ wX6 G aYt Yt ++ wX0 G aAh aTn aYi Ah ++ wX1 G aTn Tn) S hA [0, 1, 6, 7, 8, 9, 10, 11, 12, 13] [2, 3, 4, 5, 14, 15, 16, 17, 18, 19] [10, 11, 0, 1, 2, 3, 12, 13, 14, 15, 16, 17, 18, 19, 4, 5, 6, 7, 8, 9] (zs_runV C hK hA S [.int u1] [] [0, 1, 6, 7, 8, 9, 10, 11, 12, 13] 0 1 (c_X7_isWall l G aXm aTx aRd aPr aSg aAh aIm0 aIm1 aYt aYr Xm tr Yt u1 s.heap.size r12 f13) gX7_blanket_X7_isWall rfl rfl rfl zd_X7_isWall ⟨Nat.le_of_ble_eq_true rfl, Nat.le_of_ble_eq_true rfl⟩ rfl rfl rfl rfl rfl hl rfl (Nat.le_of_ble_eq_true rfl) dX7_blanket_2 ⟨Nat.le_of_ble_eq_true rfl, Nat.le_of_ble_eq_true rfl⟩) rfl rfl rfl (by decide) rfl rfl (fun H locs S => ?_)
  refine lv_if_eq (tgt := 27) hx hb dX7_blanket_5 (by decide) (fun c14 => ?_) (fun c14 => ?_)
  · have hF := zs_t hF c14
    refine lv_iconst (v := (-1 : Int32)) hx hb dX7_blanket_27 (by decide) ?_
    obtain ⟨e15, e16⟩ := zs_s2 hF
    exact zs_iretE C S e15 (by rw [e16]) dX7_blanket_28
  · have hF := zs_f hF c14
    refine lv_iload_n hx hb dX7_blanket_8 rfl (lv_at hl 2 rfl) ?_
    refine lv_sipush (v := (999 : Int32)) hx hb dX7_blanket_9 (by decide) ?_
    obtain ⟨r17, f18, hF⟩ := zs_bdS hF
    refine zs_calliP S hA (zs_runS C hK hA S [.int u2, .int (999 : Int32)] [] [] 2 (c_X7_isWithin l G u2 ((999 : Int32)) H.size r17 f18) gX7_blanket_X7_isWithin rfl rfl rfl zd_X7_isWithin ⟨Nat.le_of_ble_eq_true rfl, Nat.le_of_ble_eq_true rfl⟩ rfl rfl rfl hl rfl (Nat.le_of_ble_eq_true rfl) dX7_blanket_12 ⟨Nat.le_of_ble_eq_true rfl, Nat.le_of_ble_eq_true rfl⟩) (fun H locs S => ?_)
    refine lv_if_eq (tgt := 27) hx hb dX7_blanket_15 (by decide) (fun c19 => ?_) (fun c19 => ?_)
    · have hF := zs_t hF c19
      refine lv_iconst (v := (-1 : Int32)) hx hb dX7_blanket_27 (by decide) ?_
      obtain ⟨e20, e21⟩ := zs_s2 hF
      exact zs_iretE C S e20 (by rw [e21]) dX7_blanket_28
    · have hF := zs_f hF c19
      refine lv_iload_n hx hb dX7_blanket_18 rfl (lv_at hl 3 rfl) ?_
      refine lv_bipush (v := (20 : Int32)) hx hb dX7_blanket_19 (by decide) ?_
      obtain ⟨r22, f23, hF⟩ := zs_bdS hF
      refine zs_calliP S hA (zs_runS C hK hA S [.int u3, .int (20 : Int32)] [] [] 2 (c_X7_isWithin l G u3 ((20 : Int32)) H.size r22 f23) gX7_blanket_X7_isWithin rfl rfl rfl zd_X7_isWithin ⟨Nat.le_of_ble_eq_true rfl, Nat.le_of_ble_eq_true rfl⟩ rfl rfl rfl hl rfl (Nat.le_of_ble_eq_true rfl) dX7_blanket_21 ⟨Nat.le_of_ble_eq_true rfl, Nat.le_of_ble_eq_true rfl⟩) (fun H locs S => ?_)
      refine lv_if_ne (tgt := 29) hx hb dX7_blanket_24 (by decide) (fun c24 => ?_) (fun c24 => ?_)
      · have hF := zs_f hF c24
        refine lv_iconst (v := (0 : Int32)) hx hb dX7_blanket_29 (by decide) ?_
        refine lv_istore (lv' := [(4, .int (0 : Int32)), (0, .ref (aXm 0)), (1, .int u1), (2, .int u2), (3, .int u3)]) hx hb dX7_blanket_30 hl (by decide) rfl (fun ls hl => ?_)
        exact j32 1000 Tn u1 u2 u3 (0 : Int32) _ _ _ S (lv_sub hl [1, 2, 3, 4, 0] rfl) hF
      · have hF := zs_t hF c24
        refine lv_iconst (v := (-1 : Int32)) hx hb dX7_blanket_27 (by decide) ?_
        obtain ⟨e25, e26⟩ := zs_s2 hF
        exact zs_iretE C S e25 (by rw [e26]) dX7_blanket_28

abbrev RMX7_harmDone : Room := { frames := 4, cells := 0, slots := 0, locals := 94 }
theorem zn_X7_harmDone_X0 : ∀ w ∈ wsX00, w ∈ wsX7_harmDone := zs_inl wsX00 [74, 75, 76] (by decide +kernel)
theorem zn_X7_harmDone_X6 : ∀ w ∈ wsX60, w ∈ wsX7_harmDone := zs_inl wsX60 [77, 78, 79, 80, 81, 82, 83, 84, 85] (by decide +kernel)
theorem zn_X7_harmDone_X7 : ∀ w ∈ wsX70, w ∈ wsX7_harmDone := zs_inl wsX70 [64, 65, 66, 67, 68, 69, 70, 71, 72, 73] (by decide +kernel)
set_option maxRecDepth 100000 in
set_option maxHeartbeats 4000000 in
theorem c_X7_harmDone (l : Launch) (G : GG) (aXm aTx aRd aPr aSg aAh aIm0 aIm1 aYt aYr aTn aYi : Ad) (Xm : Ob) (tr : Int64) (Pr : Ob) (Yt : Ob) (Ah : Ob) (Tn : Ob) (Yi : Ob) (u1 : Int32) (u2 : Int32) (sz : Nat) (rr : Int32) (Tn_ : Ob) (Yi_ : Ob) (hF : F_X7_harmDone Pr Yt Ah Tn Yi u1 u2 = some (rr, (Tn_, Yi_))) : Met l yX7_harmDone wsX7_harmDone RMX7_harmDone (va_Pc [.ref (aXm 0), .int u1, .int u2] (zs_pre G (wX7 G aXm aTx aRd aPr aSg aAh aIm0 aIm1 aYt aYr Xm tr ++ wX1 G aPr Pr ++ wX6 G aYt Yt ++ wX0 G aAh aTn aYi Ah ++ wX1 G aTn Tn ++ wX6 G aYi Yi) sz)) (zs_Qi G (wX7 G aXm aTx aRd aPr aSg aAh aIm0 aIm1 aYt aYr Xm tr ++ wX1 G aPr Pr ++ wX6 G aYt Yt ++ wX0 G aAh aTn aYi Ah ++ wX1 G aTn Tn_ ++ wX6 G aYi Yi_) rr (va_A (wX7 G aXm aTx aRd aPr aSg aAh aIm0 aIm1 aYt aYr Xm tr ++ wX1 G aPr Pr ++ wX6 G aYt Yt ++ wX0 G aAh aTn aYi Ah ++ wX1 G aTn Tn ++ wX6 G aYi Yi) sz)) 0 0 (va_A (wX7 G aXm aTx aRd aPr aSg aAh aIm0 aIm1 aYt aYr Xm tr ++ wX1 G aPr Pr ++ wX6 G aYt Yt ++ wX0 G aAh aTn aYi Ah ++ wX1 G aTn Tn ++ wX6 G aYi Yi) sz) := by
  refine zs_met (cc := cX7_harmDone) (maxL := 4) (ret := (some .int)) (own := RX7) (Qc := zs_Qi G (wX7 G aXm aTx aRd aPr aSg aAh aIm0 aIm1 aYt aYr Xm tr ++ wX1 G aPr Pr ++ wX6 G aYt Yt ++ wX0 G aAh aTn aYi Ah ++ wX1 G aTn Tn_ ++ wX6 G aYi Yi_) rr) (by decide) rfl rfl (Nat.le_of_ble_eq_true rfl) ?_
  intro p e s m args below meth c C A hK hA S _ _ ls hl
  have hl : lv_has ls 4 [(0, .ref (aXm 0)), (1, .int u1), (2, .int u2)] := hl
  have hx := C.1.1
  have hb := C.1.2.1
  unfold F_X7_harmDone at hF
  refine lv_aload_n hx hb dX7_harmDone_0 rfl (lv_at hl 0 rfl) ?_
  refine zs_get C hK S 0 4 (Cn := RX7) (T := TX7) (N := 10) (ci := 7) rfl rfl (by decide) zn_X7_harmDone_X7 (List.mem_of_getElem? (i := 1) rfl) rfl dX7_harmDone_1 ?_
  refine zs_get C hK S 14 1 (Cn := RX0) (T := TX0) (N := 3) (ci := 0) rfl rfl (by decide) zn_X7_harmDone_X0 (List.mem_of_getElem? (i := 2) rfl) rfl dX7_harmDone_4 ?_
  refine lv_aload_n hx hb dX7_harmDone_7 rfl (lv_at hl 0 rfl) ?_
  refine zs_get C hK S 0 6 (Cn := RX7) (T := TX7) (N := 10) (ci := 7) rfl rfl (by decide) zn_X7_harmDone_X7 (List.mem_of_getElem? (i := 3) rfl) rfl dX7_harmDone_8 ?_
  obtain ⟨Yiw1, f2, hF⟩ := zs_bdS hF
  refine zs_callv (wr := wX7 G aXm aTx aRd aPr aSg aAh aIm0 aIm1 aYt aYr Xm tr ++ wX1 G aPr Pr ++ wX0 G aAh aTn aYi Ah ++ wX1 G aTn Tn) (ws' := wX7 G aXm aTx aRd aPr aSg aAh aIm0 aIm1 aYt aYr Xm tr ++ wX1 G aPr Pr ++ wX6 G aYt Yt ++ wX0 G aAh aTn aYi Ah ++ wX1 G aTn Tn ++ wX6 G aYi Yiw1) S hA [20, 21, 22, 23, 24, 25, 26, 27, 6, 7, 8, 9, 10, 11, 12, 13] [0, 1, 2, 3, 4, 5, 14, 15, 16, 17, 18, 19] [0, 1, 2, 3, 4, 5, 20, 21, 22, 23, 24, 25, 26, 27, 6, 7, 8, 9, 10, 11, 12, 13, 14, 15, 16, 17, 18, 19] (zs_runV C hK hA S [.ref (aYt 0)] [] [20, 21, 22, 23, 24, 25, 26, 27, 6, 7, 8, 9, 10, 11, 12, 13] 20 1 (c_X6_copy l G aYi aYt Yi Yt s.heap.size Yiw1 f2) gX7_harmDone_X6_copy rfl rfl rfl zd_X6_copy ⟨Nat.le_of_ble_eq_true rfl, Nat.le_of_ble_eq_true rfl⟩ rfl rfl rfl rfl rfl hl rfl (Nat.le_of_ble_eq_true rfl) dX7_harmDone_11 ⟨Nat.le_of_ble_eq_true rfl, Nat.le_of_ble_eq_true rfl⟩) rfl rfl rfl (by decide) rfl rfl (fun H locs S => ?_)
  refine lv_aload_n hx hb dX7_harmDone_14 rfl (lv_at hl 0 rfl) ?_
  refine zs_get C hK S 0 4 (Cn := RX7) (T := TX7) (N := 10) (ci := 7) rfl rfl (by decide) zn_X7_harmDone_X7 (List.mem_of_getElem? (i := 1) rfl) rfl dX7_harmDone_15 ?_
  refine lv_aload_n hx hb dX7_harmDone_18 rfl (lv_at hl 0 rfl) ?_
  refine zs_get C hK S 0 2 (Cn := RX7) (T := TX7) (N := 10) (ci := 7) rfl rfl (by decide) zn_X7_harmDone_X7 (List.mem_of_getElem? (i := 4) rfl) rfl dX7_harmDone_19 ?_
  obtain ⟨Tnw3, f4, hF⟩ := zs_bdS hF
  refine zs_callv (wr := wX7 G aXm aTx aRd aPr aSg aAh aIm0 aIm1 aYt aYr Xm tr ++ wX6 G aYt Yt ++ wX6 G aYi Yiw1) (ws' := wX7 G aXm aTx aRd aPr aSg aAh aIm0 aIm1 aYt aYr Xm tr ++ wX1 G aPr Pr ++ wX6 G aYt Yt ++ wX0 G aAh aTn aYi Ah ++ wX1 G aTn Tnw3 ++ wX6 G aYi Yiw1) S hA [14, 15, 16, 17, 18, 19, 2, 3, 4, 5] [0, 1, 6, 7, 8, 9, 10, 11, 12, 13, 20, 21, 22, 23, 24, 25, 26, 27] [0, 1, 24, 25, 26, 27, 2, 3, 4, 5, 6, 7, 8, 9, 18, 19, 20, 21, 22, 23, 10, 11, 12, 13, 14, 15, 16, 17] (zs_runV C hK hA S [.ref (aPr 0)] [] [14, 15, 16, 17, 18, 19, 2, 3, 4, 5] 14 1 (c_X0_setOut l G aAh aTn aYi aPr Ah Tn Pr H.size Tnw3 f4) gX7_harmDone_X0_setOut rfl rfl rfl zd_X0_setOut ⟨Nat.le_of_ble_eq_true rfl, Nat.le_of_ble_eq_true rfl⟩ rfl rfl rfl rfl rfl hl rfl (Nat.le_of_ble_eq_true rfl) dX7_harmDone_22 ⟨Nat.le_of_ble_eq_true rfl, Nat.le_of_ble_eq_true rfl⟩) rfl rfl rfl (by decide) rfl rfl (fun H locs S => ?_)
  refine lv_aload_n hx hb dX7_harmDone_25 rfl (lv_at hl 0 rfl) ?_
  refine zs_get C hK S 0 4 (Cn := RX7) (T := TX7) (N := 10) (ci := 7) rfl rfl (by decide) zn_X7_harmDone_X7 (List.mem_of_getElem? (i := 1) rfl) rfl dX7_harmDone_26 ?_
  refine lv_aload_n hx hb dX7_harmDone_29 rfl (lv_at hl 0 rfl) ?_
  refine zs_get C hK S 0 6 (Cn := RX7) (T := TX7) (N := 10) (ci := 7) rfl rfl (by decide) zn_X7_harmDone_X7 (List.mem_of_getElem? (i := 3) rfl) rfl dX7_harmDone_30 ?_
  refine lv_bipush (v := (8 : Int32)) hx hb dX7_harmDone_33 (by decide) ?_
  obtain ⟨Tnw5, f6, hF⟩ := zs_bdS hF
  refine zs_callv (wr := wX7 G aXm aTx aRd aPr aSg aAh aIm0 aIm1 aYt aYr Xm tr ++ wX1 G aPr Pr ++ wX6 G aYi Yiw1) (ws' := wX7 G aXm aTx aRd aPr aSg aAh aIm0 aIm1 aYt aYr Xm tr ++ wX1 G aPr Pr ++ wX6 G aYt Yt ++ wX0 G aAh aTn aYi Ah ++ wX1 G aTn Tnw5 ++ wX6 G aYi Yiw1) S hA [14, 15, 16, 17, 18, 19, 6, 7, 8, 9, 10, 11, 12, 13] [0, 1, 2, 3, 4, 5, 20, 21, 22, 23, 24, 25, 26, 27] [0, 1, 2, 3, 4, 5, 20, 21, 22, 23, 24, 25, 26, 27, 14, 15, 16, 17, 18, 19, 6, 7, 8, 9, 10, 11, 12, 13] (zs_runV C hK hA S [.ref (aYt 0), .int (8 : Int32)] [] [14, 15, 16, 17, 18, 19, 6, 7, 8, 9, 10, 11, 12, 13] 14 2 (c_X0_goOn l G aAh aTn aYi aYt Ah Tnw3 Yt ((8 : Int32)) H.size Tnw5 f6) gX7_harmDone_X0_goOn rfl rfl rfl zd_X0_goOn ⟨Nat.le_of_ble_eq_true rfl, Nat.le_of_ble_eq_true rfl⟩ rfl rfl rfl rfl rfl hl rfl (Nat.le_of_ble_eq_true rfl) dX7_harmDone_35 ⟨Nat.le_of_ble_eq_true rfl, Nat.le_of_ble_eq_true rfl⟩) rfl rfl rfl (by decide) rfl rfl (fun H locs S => ?_)
  refine lv_aload_n hx hb dX7_harmDone_38 rfl (lv_at hl 0 rfl) ?_
  refine zs_get C hK S 0 4 (Cn := RX7) (T := TX7) (N := 10) (ci := 7) rfl rfl (by decide) zn_X7_harmDone_X7 (List.mem_of_getElem? (i := 1) rfl) rfl dX7_harmDone_39 ?_
  refine zs_get C hK S 14 0 (Cn := RX0) (T := TX0) (N := 3) (ci := 0) rfl rfl (by decide) zn_X7_harmDone_X0 (List.mem_of_getElem? (i := 5) rfl) rfl dX7_harmDone_42 ?_
  refine lv_aload_n hx hb dX7_harmDone_45 rfl (lv_at hl 0 rfl) ?_
  refine zs_get C hK S 0 6 (Cn := RX7) (T := TX7) (N := 10) (ci := 7) rfl rfl (by decide) zn_X7_harmDone_X7 (List.mem_of_getElem? (i := 3) rfl) rfl dX7_harmDone_46 ?_
  refine zs_get C hK S 6 0 (Cn := RX6) (T := TX6) (N := 9) (ci := 6) rfl rfl (by decide) zn_X7_harmDone_X6 (List.mem_of_getElem? (i := 6) rfl) rfl dX7_harmDone_49 ?_
  obtain ⟨r7, f8, hF⟩ := zs_bdS hF
  refine zs_calli (wr := wX7 G aXm aTx aRd aPr aSg aAh aIm0 aIm1 aYt aYr Xm tr ++ wX1 G aPr Pr ++ wX6 G aYt Yt ++ wX0 G aAh aTn aYi Ah ++ wX6 G aYi Yiw1) (ws' := wX7 G aXm aTx aRd aPr aSg aAh aIm0 aIm1 aYt aYr Xm tr ++ wX1 G aPr Pr ++ wX6 G aYt Yt ++ wX0 G aAh aTn aYi Ah ++ wX1 G aTn Tnw5 ++ wX6 G aYi Yiw1) S hA [16, 17, 18, 19] [0, 1, 2, 3, 4, 5, 6, 7, 8, 9, 10, 11, 12, 13, 14, 15, 20, 21, 22, 23, 24, 25, 26, 27] [0, 1, 2, 3, 4, 5, 6, 7, 8, 9, 10, 11, 12, 13, 14, 15, 24, 25, 26, 27, 16, 17, 18, 19, 20, 21, 22, 23] (zs_runV C hK hA S [.int (Yt 0 0)] [] [16, 17, 18, 19] 16 1 (c_X1_warmthOfAll l G aTn Tnw5 ((Yt 0 0)) H.size r7 f8) gX7_harmDone_X1_warmthOfAll rfl rfl rfl zd_X1_warmthOfAll ⟨Nat.le_of_ble_eq_true rfl, Nat.le_of_ble_eq_true rfl⟩ rfl rfl rfl rfl rfl hl rfl (Nat.le_of_ble_eq_true rfl) dX7_harmDone_52 ⟨Nat.le_of_ble_eq_true rfl, Nat.le_of_ble_eq_true rfl⟩) rfl rfl rfl (by decide) rfl rfl (fun H locs S => ?_)
  refine lv_istore_n (lv' := [(3, .int r7), (0, .ref (aXm 0)), (1, .int u1), (2, .int u2)]) hx hb dX7_harmDone_55 rfl hl (by decide) rfl (fun ls hl => ?_)
  refine lv_aload_n hx hb dX7_harmDone_56 rfl (lv_at hl 1 rfl) ?_
  refine zs_get C hK S 0 4 (Cn := RX7) (T := TX7) (N := 10) (ci := 7) rfl rfl (by decide) zn_X7_harmDone_X7 (List.mem_of_getElem? (i := 1) rfl) rfl dX7_harmDone_57 ?_
  refine zs_get C hK S 14 1 (Cn := RX0) (T := TX0) (N := 3) (ci := 0) rfl rfl (by decide) zn_X7_harmDone_X0 (List.mem_of_getElem? (i := 2) rfl) rfl dX7_harmDone_60 ?_
  refine zs_get C hK S 20 8 (Cn := RX6) (T := TX6) (N := 9) (ci := 6) rfl rfl (by decide) zn_X7_harmDone_X6 (List.mem_of_getElem? (i := 7) rfl) rfl dX7_harmDone_63 ?_
  refine lv_iload_n hx hb dX7_harmDone_66 rfl (lv_at hl 2 rfl) ?_
  refine lv_iload_n hx hb dX7_harmDone_67 rfl (lv_at hl 3 rfl) ?_
  obtain ⟨h9, hF⟩ := zs_ckS hF
  obtain ⟨Yiw10, e11⟩ : ∃ q : Ob, q = zs_up Yiw1 7 (u1).toNatClampNeg u2 := ⟨_, rfl⟩
  have hF := zs_letS hF e11
  refine zs_iast C hK S 27 (ws' := wX7 G aXm aTx aRd aPr aSg aAh aIm0 aIm1 aYt aYr Xm tr ++ wX1 G aPr Pr ++ wX6 G aYt Yt ++ wX0 G aAh aTn aYi Ah ++ wX1 G aTn Tnw5 ++ wX6 G aYi Yiw10) rfl h9 (by rw [e11]; rfl) dX7_harmDone_68 (fun H locs S => ?_)
  refine lv_aload_n hx hb dX7_harmDone_69 rfl (lv_at hl 1 rfl) ?_
  refine zs_get C hK S 0 4 (Cn := RX7) (T := TX7) (N := 10) (ci := 7) rfl rfl (by decide) zn_X7_harmDone_X7 (List.mem_of_getElem? (i := 1) rfl) rfl dX7_harmDone_70 ?_
  refine lv_aload_n hx hb dX7_harmDone_73 rfl (lv_at hl 1 rfl) ?_
  refine zs_get C hK S 0 2 (Cn := RX7) (T := TX7) (N := 10) (ci := 7) rfl rfl (by decide) zn_X7_harmDone_X7 (List.mem_of_getElem? (i := 4) rfl) rfl dX7_harmDone_74 ?_
  obtain ⟨Tnw12, f13, hF⟩ := zs_bdS hF
  refine zs_callv (wr := wX7 G aXm aTx aRd aPr aSg aAh aIm0 aIm1 aYt aYr Xm tr ++ wX6 G aYt Yt ++ wX6 G aYi Yiw10) (ws' := wX7 G aXm aTx aRd aPr aSg aAh aIm0 aIm1 aYt aYr Xm tr ++ wX1 G aPr Pr ++ wX6 G aYt Yt ++ wX0 G aAh aTn aYi Ah ++ wX1 G aTn Tnw12 ++ wX6 G aYi Yiw10) S hA [14, 15, 16, 17, 18, 19, 2, 3, 4, 5] [0, 1, 6, 7, 8, 9, 10, 11, 12, 13, 20, 21, 22, 23, 24, 25, 26, 27] [0, 1, 24, 25, 26, 27, 2, 3, 4, 5, 6, 7, 8, 9, 18, 19, 20, 21, 22, 23, 10, 11, 12, 13, 14, 15, 16, 17] (zs_runV C hK hA S [.ref (aPr 0)] [] [14, 15, 16, 17, 18, 19, 2, 3, 4, 5] 14 1 (c_X0_setOut l G aAh aTn aYi aPr Ah Tnw5 Pr H.size Tnw12 f13) gX7_harmDone_X0_setOut rfl rfl rfl zd_X0_setOut ⟨Nat.le_of_ble_eq_true rfl, Nat.le_of_ble_eq_true rfl⟩ rfl rfl rfl rfl rfl hl rfl (Nat.le_of_ble_eq_true rfl) dX7_harmDone_77 ⟨Nat.le_of_ble_eq_true rfl, Nat.le_of_ble_eq_true rfl⟩) rfl rfl rfl (by decide) rfl rfl (fun H locs S => ?_)
  refine lv_aload_n hx hb dX7_harmDone_80 rfl (lv_at hl 1 rfl) ?_
  refine zs_get C hK S 0 4 (Cn := RX7) (T := TX7) (N := 10) (ci := 7) rfl rfl (by decide) zn_X7_harmDone_X7 (List.mem_of_getElem? (i := 1) rfl) rfl dX7_harmDone_81 ?_
  refine lv_aload_n hx hb dX7_harmDone_84 rfl (lv_at hl 1 rfl) ?_
  refine zs_get C hK S 0 4 (Cn := RX7) (T := TX7) (N := 10) (ci := 7) rfl rfl (by decide) zn_X7_harmDone_X7 (List.mem_of_getElem? (i := 1) rfl) rfl dX7_harmDone_85 ?_
  refine zs_get C hK S 14 1 (Cn := RX0) (T := TX0) (N := 3) (ci := 0) rfl rfl (by decide) zn_X7_harmDone_X0 (List.mem_of_getElem? (i := 2) rfl) rfl dX7_harmDone_88 ?_
  refine lv_bipush (v := (8 : Int32)) hx hb dX7_harmDone_91 (by decide) ?_
  obtain ⟨Tnw14, f15, hF⟩ := zs_bdS hF
  refine zs_callv (wr := wX7 G aXm aTx aRd aPr aSg aAh aIm0 aIm1 aYt aYr Xm tr ++ wX1 G aPr Pr ++ wX6 G aYt Yt) (ws' := wX7 G aXm aTx aRd aPr aSg aAh aIm0 aIm1 aYt aYr Xm tr ++ wX1 G aPr Pr ++ wX6 G aYt Yt ++ wX0 G aAh aTn aYi Ah ++ wX1 G aTn Tnw14 ++ wX6 G aYi Yiw10) S hA [14, 15, 16, 17, 18, 19, 20, 21, 22, 23, 24, 25, 26, 27] [0, 1, 2, 3, 4, 5, 6, 7, 8, 9, 10, 11, 12, 13] [0, 1, 2, 3, 4, 5, 6, 7, 8, 9, 10, 11, 12, 13, 14, 15, 16, 17, 18, 19, 20, 21, 22, 23, 24, 25, 26, 27] (zs_runV C hK hA S [.ref (aYi 0), .int (8 : Int32)] [] [14, 15, 16, 17, 18, 19, 20, 21, 22, 23, 24, 25, 26, 27] 14 2 (c_X0_goOn l G aAh aTn aYi aYi Ah Tnw12 Yiw10 ((8 : Int32)) H.size Tnw14 f15) gX7_harmDone_X0_goOn rfl rfl rfl zd_X0_goOn ⟨Nat.le_of_ble_eq_true rfl, Nat.le_of_ble_eq_true rfl⟩ rfl rfl rfl rfl rfl hl rfl (Nat.le_of_ble_eq_true rfl) dX7_harmDone_93 ⟨Nat.le_of_ble_eq_true rfl, Nat.le_of_ble_eq_true rfl⟩) rfl rfl rfl (by decide) rfl rfl (fun H locs S => ?_)
  refine lv_aload_n hx hb dX7_harmDone_96 rfl (lv_at hl 1 rfl) ?_
  refine zs_get C hK S 0 4 (Cn := RX7) (T := TX7) (N := 10) (ci := 7) rfl rfl (by decide) zn_X7_harmDone_X7 (List.mem_of_getElem? (i := 1) rfl) rfl dX7_harmDone_97 ?_
  refine zs_get C hK S 14 0 (Cn := RX0) (T := TX0) (N := 3) (ci := 0) rfl rfl (by decide) zn_X7_harmDone_X0 (List.mem_of_getElem? (i := 5) rfl) rfl dX7_harmDone_100 ?_
  refine lv_aload_n hx hb dX7_harmDone_103 rfl (lv_at hl 1 rfl) ?_
  refine zs_get C hK S 0 6 (Cn := RX7) (T := TX7) (N := 10) (ci := 7) rfl rfl (by decide) zn_X7_harmDone_X7 (List.mem_of_getElem? (i := 3) rfl) rfl dX7_harmDone_104 ?_
  refine zs_get C hK S 6 0 (Cn := RX6) (T := TX6) (N := 9) (ci := 6) rfl rfl (by decide) zn_X7_harmDone_X6 (List.mem_of_getElem? (i := 6) rfl) rfl dX7_harmDone_107 ?_
  obtain ⟨r16, f17, hF⟩ := zs_bdS hF
  refine zs_calli (wr := wX7 G aXm aTx aRd aPr aSg aAh aIm0 aIm1 aYt aYr Xm tr ++ wX1 G aPr Pr ++ wX6 G aYt Yt ++ wX0 G aAh aTn aYi Ah ++ wX6 G aYi Yiw10) (ws' := wX7 G aXm aTx aRd aPr aSg aAh aIm0 aIm1 aYt aYr Xm tr ++ wX1 G aPr Pr ++ wX6 G aYt Yt ++ wX0 G aAh aTn aYi Ah ++ wX1 G aTn Tnw14 ++ wX6 G aYi Yiw10) S hA [16, 17, 18, 19] [0, 1, 2, 3, 4, 5, 6, 7, 8, 9, 10, 11, 12, 13, 14, 15, 20, 21, 22, 23, 24, 25, 26, 27] [0, 1, 2, 3, 4, 5, 6, 7, 8, 9, 10, 11, 12, 13, 14, 15, 24, 25, 26, 27, 16, 17, 18, 19, 20, 21, 22, 23] (zs_runV C hK hA S [.int (Yt 0 0)] [] [16, 17, 18, 19] 16 1 (c_X1_warmthOfAll l G aTn Tnw14 ((Yt 0 0)) H.size r16 f17) gX7_harmDone_X1_warmthOfAll rfl rfl rfl zd_X1_warmthOfAll ⟨Nat.le_of_ble_eq_true rfl, Nat.le_of_ble_eq_true rfl⟩ rfl rfl rfl rfl rfl hl rfl (Nat.le_of_ble_eq_true rfl) dX7_harmDone_110 ⟨Nat.le_of_ble_eq_true rfl, Nat.le_of_ble_eq_true rfl⟩) rfl rfl rfl (by decide) rfl rfl (fun H locs S => ?_)
  refine lv_iload_n hx hb dX7_harmDone_113 rfl (lv_at hl 0 rfl) ?_
  refine lv_isub hx hb dX7_harmDone_114 ?_
  obtain ⟨e18, e19, e20⟩ := zs_s3 hF
  exact zs_iretE C S e18 (by rw [e19, e20]) dX7_harmDone_115

theorem zd_X7_harmDone : yX7_harmDone.cls = RX7 ∧ yX7_harmDone.cls ≠ "java/lang/invoke/MethodHandle" ∧ yX7_harmDone.cls ≠ "java/lang/invoke/VarHandle" ∧ (parseMethodDescriptor yX7_harmDone.desc).map (fun d => d.parameters.length) = some 2 := by decide +kernel
abbrev RMX7_leastHarmed : Room := { frames := 5, cells := 0, slots := 0, locals := 117 }
theorem zn_X7_leastHarmed_X6 : ∀ w ∈ wsX60, w ∈ wsX7_leastHarmed := zs_inl wsX60 [78, 79, 80, 81, 82, 83, 84, 85, 86] (by decide +kernel)
theorem zn_X7_leastHarmed_X7 : ∀ w ∈ wsX70, w ∈ wsX7_leastHarmed := zs_inl wsX70 [68, 69, 70, 71, 72, 73, 74, 75, 76, 77] (by decide +kernel)
set_option maxRecDepth 100000 in
set_option maxHeartbeats 4000000 in
theorem c_X7_leastHarmed (l : Launch) (G : GG) (aXm aTx aRd aPr aSg aAh aIm0 aIm1 aYt aYr aTn aYi : Ad) (Xm : Ob) (tr : Int64) (Pr : Ob) (Yt : Ob) (Ah : Ob) (Tn : Ob) (Yi : Ob) (u1 : Int32) (sz : Nat) (rr : Int32) (Tn_ : Ob) (Yi_ : Ob) (hF : F_X7_leastHarmed Pr Yt Ah Tn Yi u1 = some (rr, (Tn_, Yi_))) : Met l yX7_leastHarmed wsX7_leastHarmed RMX7_leastHarmed (va_Pc [.ref (aXm 0), .int u1] (zs_pre G (wX7 G aXm aTx aRd aPr aSg aAh aIm0 aIm1 aYt aYr Xm tr ++ wX1 G aPr Pr ++ wX6 G aYt Yt ++ wX0 G aAh aTn aYi Ah ++ wX1 G aTn Tn ++ wX6 G aYi Yi) sz)) (zs_Qi G (wX7 G aXm aTx aRd aPr aSg aAh aIm0 aIm1 aYt aYr Xm tr ++ wX1 G aPr Pr ++ wX6 G aYt Yt ++ wX0 G aAh aTn aYi Ah ++ wX1 G aTn Tn_ ++ wX6 G aYi Yi_) rr (va_A (wX7 G aXm aTx aRd aPr aSg aAh aIm0 aIm1 aYt aYr Xm tr ++ wX1 G aPr Pr ++ wX6 G aYt Yt ++ wX0 G aAh aTn aYi Ah ++ wX1 G aTn Tn ++ wX6 G aYi Yi) sz)) 0 0 (va_A (wX7 G aXm aTx aRd aPr aSg aAh aIm0 aIm1 aYt aYr Xm tr ++ wX1 G aPr Pr ++ wX6 G aYt Yt ++ wX0 G aAh aTn aYi Ah ++ wX1 G aTn Tn ++ wX6 G aYi Yi) sz) := by
  refine zs_met (cc := cX7_leastHarmed) (maxL := 6) (ret := (some .int)) (own := RX7) (Qc := zs_Qi G (wX7 G aXm aTx aRd aPr aSg aAh aIm0 aIm1 aYt aYr Xm tr ++ wX1 G aPr Pr ++ wX6 G aYt Yt ++ wX0 G aAh aTn aYi Ah ++ wX1 G aTn Tn_ ++ wX6 G aYi Yi_) rr) (by decide) rfl rfl (Nat.le_of_ble_eq_true rfl) ?_
  intro p e s m args below meth c C A hK hA S _ _ ls hl
  have hl : lv_has ls 6 [(0, .ref (aXm 0)), (1, .int u1)] := hl
  have hx := C.1.1
  have hb := C.1.2.1
  unfold F_X7_leastHarmed at hF
  have j8 : ∀ (n8 : Nat) (Tn : Ob) (Yi : Ob) (x1 : Int32) (x2 : Int32) (x3 : Int32) (x4 : Int32) (H : Heap) (locs : List Loc) (ls : Array Slot), zs_S G A s.heap H locs (wX7 G aXm aTx aRd aPr aSg aAh aIm0 aIm1 aYt aYr Xm tr ++ wX1 G aPr Pr ++ wX6 G aYt Yt ++ wX0 G aAh aTn aYi Ah ++ wX1 G aTn Tn ++ wX6 G aYi Yi) → lv_has ls 6 [(0, .ref (aXm 0)), (1, .int x1), (2, .int x2), (3, .int x3), (4, .int x4)] → F_X7_leastHarmed_8 Pr Yt Ah n8 Tn Yi x1 x2 x3 x4 = some (rr, (Tn_, Yi_)) → W p l e RMX7_leastHarmed s m args below meth c H locs 0 0 (MQ below (zs_Qi G (wX7 G aXm aTx aRd aPr aSg aAh aIm0 aIm1 aYt aYr Xm tr ++ wX1 G aPr Pr ++ wX6 G aYt Yt ++ wX0 G aAh aTn aYi Ah ++ wX1 G aTn Tn_ ++ wX6 G aYi Yi_) rr A) args s 0 0 A) (F0 m 8 ls []) := by
    intro n8
    induction n8 with
    | zero => intro Tn Yi x1 x2 x3 x4 H locs ls _ _ hF; rw [F_X7_leastHarmed_8_z] at hF; cases hF
    | succ n8 ih8 =>
      have j47 : ∀ (Tn : Ob) (Yi : Ob) (x1 : Int32) (x2 : Int32) (x3 : Int32) (x4 : Int32) (H : Heap) (locs : List Loc) (ls : Array Slot), zs_S G A s.heap H locs (wX7 G aXm aTx aRd aPr aSg aAh aIm0 aIm1 aYt aYr Xm tr ++ wX1 G aPr Pr ++ wX6 G aYt Yt ++ wX0 G aAh aTn aYi Ah ++ wX1 G aTn Tn ++ wX6 G aYi Yi) → lv_has ls 6 [(0, .ref (aXm 0)), (1, .int x1), (2, .int x2), (3, .int x3), (4, .int x4)] → F_X7_leastHarmed_47 Pr Yt Ah (F_X7_leastHarmed_8 Pr Yt Ah n8) Tn Yi x1 x2 x3 x4 = some (rr, (Tn_, Yi_)) → W p l e RMX7_leastHarmed s m args below meth c H locs 0 0 (MQ below (zs_Qi G (wX7 G aXm aTx aRd aPr aSg aAh aIm0 aIm1 aYt aYr Xm tr ++ wX1 G aPr Pr ++ wX6 G aYt Yt ++ wX0 G aAh aTn aYi Ah ++ wX1 G aTn Tn_ ++ wX6 G aYi Yi_) rr A) args s 0 0 A) (F0 m 47 ls []) := by
        intro Tn Yi x1 x2 x3 x4 H locs ls S hl hF
        unfold F_X7_leastHarmed_47 at hF
        obtain ⟨z1, e2⟩ : ∃ q : Int32, q = x4 + (1 : Int32) := ⟨_, rfl⟩
        have hF := zs_letS hF e2
        refine lv_iinc (v := z1) (lv' := [(4, .int z1), (0, .ref (aXm 0)), (1, .int x1), (2, .int x2), (3, .int x3)]) hx hb dX7_leastHarmed_47 hl (k := 4) rfl (by rw [e2]; rfl) (by decide) rfl (fun ls hl => ?_)
        refine lv_goto (tgt := 8) hx hb dX7_leastHarmed_50 (by decide) ?_
        exact ih8 Tn Yi x1 x2 x3 z1 _ _ _ S (lv_sub hl [1, 2, 3, 4, 0] rfl) hF
      have j41 : ∀ (Tn : Ob) (Yi : Ob) (x1 : Int32) (x4 : Int32) (x5 : Int32) (H : Heap) (locs : List Loc) (ls : Array Slot), zs_S G A s.heap H locs (wX7 G aXm aTx aRd aPr aSg aAh aIm0 aIm1 aYt aYr Xm tr ++ wX1 G aPr Pr ++ wX6 G aYt Yt ++ wX0 G aAh aTn aYi Ah ++ wX1 G aTn Tn ++ wX6 G aYi Yi) → lv_has ls 6 [(0, .ref (aXm 0)), (1, .int x1), (4, .int x4), (5, .int x5)] → F_X7_leastHarmed_41 Pr Yt Ah (F_X7_leastHarmed_8 Pr Yt Ah n8) Tn Yi x1 x4 x5 = some (rr, (Tn_, Yi_)) → W p l e RMX7_leastHarmed s m args below meth c H locs 0 0 (MQ below (zs_Qi G (wX7 G aXm aTx aRd aPr aSg aAh aIm0 aIm1 aYt aYr Xm tr ++ wX1 G aPr Pr ++ wX6 G aYt Yt ++ wX0 G aAh aTn aYi Ah ++ wX1 G aTn Tn_ ++ wX6 G aYi Yi_) rr A) args s 0 0 A) (F0 m 41 ls []) := by
        intro Tn Yi x1 x4 x5 H locs ls S hl hF
        unfold F_X7_leastHarmed_41 at hF
        refine lv_iload hx hb dX7_leastHarmed_41 (lv_at hl 3 rfl) ?_
        refine lv_istore_n (lv' := [(2, .int x5), (0, .ref (aXm 0)), (1, .int x1), (4, .int x4), (5, .int x5)]) hx hb dX7_leastHarmed_43 rfl hl (by decide) rfl (fun ls hl => ?_)
        refine lv_iload hx hb dX7_leastHarmed_44 (lv_at hl 3 rfl) ?_
        refine lv_istore_n (lv' := [(3, .int x4), (2, .int x5), (0, .ref (aXm 0)), (1, .int x1), (4, .int x4), (5, .int x5)]) hx hb dX7_leastHarmed_46 rfl hl (by decide) rfl (fun ls hl => ?_)
        exact j47 Tn Yi x1 x5 x4 x4 _ _ _ S (lv_sub hl [2, 3, 1, 0, 4] rfl) hF
      intro Tn Yi x1 x2 x3 x4 H locs ls S hl hF
      rw [F_X7_leastHarmed_8_n] at hF
      unfold F_X7_leastHarmed_8_s at hF
      refine lv_iload hx hb dX7_leastHarmed_8 (lv_at hl 4 rfl) ?_
      refine lv_aload_n hx hb dX7_leastHarmed_10 rfl (lv_at hl 0 rfl) ?_
      refine zs_get C hK S 0 6 (Cn := RX7) (T := TX7) (N := 10) (ci := 7) rfl rfl (by decide) zn_X7_leastHarmed_X7 (List.mem_of_getElem? (i := 1) rfl) rfl dX7_leastHarmed_11 ?_
      refine zs_get C hK S 6 0 (Cn := RX6) (T := TX6) (N := 9) (ci := 6) rfl rfl (by decide) zn_X7_leastHarmed_X6 (List.mem_of_getElem? (i := 2) rfl) rfl dX7_leastHarmed_14 ?_
      refine lv_icmp_ge (tgt := 53) hx hb dX7_leastHarmed_17 (by decide) (fun c3 => ?_) (fun c3 => ?_)
      · have hF := zs_t hF c3
        refine lv_iload_n hx hb dX7_leastHarmed_53 rfl (lv_at hl 3 rfl) ?_
        obtain ⟨e4, e5, e6⟩ := zs_s3 hF
        exact zs_iretE C S e4 (by rw [e5, e6]) dX7_leastHarmed_54
      · have hF := zs_f hF c3
        refine lv_aload_n hx hb dX7_leastHarmed_20 rfl (lv_at hl 0 rfl) ?_
        refine lv_iload hx hb dX7_leastHarmed_21 (lv_at hl 4 rfl) ?_
        refine lv_iload_n hx hb dX7_leastHarmed_23 rfl (lv_at hl 1 rfl) ?_
        obtain ⟨r7, Tnw8, Yiw9, f10, hF⟩ := zs_b3S hF
        refine zs_calli (wr := ([] : va_W)) (ws' := wX7 G aXm aTx aRd aPr aSg aAh aIm0 aIm1 aYt aYr Xm tr ++ wX1 G aPr Pr ++ wX6 G aYt Yt ++ wX0 G aAh aTn aYi Ah ++ wX1 G aTn Tnw8 ++ wX6 G aYi Yiw9) S hA [0, 1, 2, 3, 4, 5, 6, 7, 8, 9, 10, 11, 12, 13, 14, 15, 16, 17, 18, 19, 20, 21, 22, 23, 24, 25, 26, 27] [] [0, 1, 2, 3, 4, 5, 6, 7, 8, 9, 10, 11, 12, 13, 14, 15, 16, 17, 18, 19, 20, 21, 22, 23, 24, 25, 26, 27] (zs_runV C hK hA S [.int x4, .int x1] [] [0, 1, 2, 3, 4, 5, 6, 7, 8, 9, 10, 11, 12, 13, 14, 15, 16, 17, 18, 19, 20, 21, 22, 23, 24, 25, 26, 27] 0 2 (c_X7_harmDone l G aXm aTx aRd aPr aSg aAh aIm0 aIm1 aYt aYr aTn aYi Xm tr Pr Yt Ah Tn Yi x4 x1 H.size r7 Tnw8 Yiw9 f10) gX7_leastHarmed_X7_harmDone rfl rfl rfl zd_X7_harmDone ⟨Nat.le_of_ble_eq_true rfl, Nat.le_of_ble_eq_true rfl⟩ rfl rfl rfl rfl rfl hl rfl (Nat.le_of_ble_eq_true rfl) dX7_leastHarmed_24 ⟨Nat.le_of_ble_eq_true rfl, Nat.le_of_ble_eq_true rfl⟩) rfl rfl rfl (by decide) rfl rfl (fun H locs S => ?_)
        refine lv_istore (lv' := [(5, .int r7), (0, .ref (aXm 0)), (1, .int x1), (2, .int x2), (3, .int x3), (4, .int x4)]) hx hb dX7_leastHarmed_27 hl (by decide) rfl (fun ls hl => ?_)
        refine lv_iload_n hx hb dX7_leastHarmed_29 rfl (lv_at hl 4 rfl) ?_
        refine lv_bipush (v := (-9 : Int32)) hx hb dX7_leastHarmed_30 (by decide) ?_
        refine lv_icmp_eq (tgt := 41) hx hb dX7_leastHarmed_32 (by decide) (fun c11 => ?_) (fun c11 => ?_)
        · have hF := zs_t hF c11
          exact j41 Tnw8 Yiw9 x1 x4 r7 _ _ _ S (lv_sub hl [1, 2, 5, 0] rfl) hF
        · have hF := zs_f hF c11
          refine lv_iload hx hb dX7_leastHarmed_35 (lv_at hl 0 rfl) ?_
          refine lv_iload_n hx hb dX7_leastHarmed_37 rfl (lv_at hl 3 rfl) ?_
          refine lv_icmp_ge (tgt := 47) hx hb dX7_leastHarmed_38 (by decide) (fun c12 => ?_) (fun c12 => ?_)
          · have hF := zs_t hF c12
            exact j47 Tnw8 Yiw9 x1 x2 x3 x4 _ _ _ S (lv_sub hl [1, 2, 3, 4, 5] rfl) hF
          · have hF := zs_f hF c12
            exact j41 Tnw8 Yiw9 x1 x4 r7 _ _ _ S (lv_sub hl [1, 2, 5, 0] rfl) hF
  refine lv_iconst (v := (0 : Int32)) hx hb dX7_leastHarmed_0 (by decide) ?_
  refine lv_istore_n (lv' := [(2, .int (0 : Int32)), (0, .ref (aXm 0)), (1, .int u1)]) hx hb dX7_leastHarmed_1 rfl hl (by decide) rfl (fun ls hl => ?_)
  refine lv_bipush (v := (-9 : Int32)) hx hb dX7_leastHarmed_2 (by decide) ?_
  refine lv_istore_n (lv' := [(3, .int (-9 : Int32)), (2, .int (0 : Int32)), (0, .ref (aXm 0)), (1, .int u1)]) hx hb dX7_leastHarmed_4 rfl hl (by decide) rfl (fun ls hl => ?_)
  refine lv_iconst (v := (0 : Int32)) hx hb dX7_leastHarmed_5 (by decide) ?_
  refine lv_istore (lv' := [(4, .int (0 : Int32)), (3, .int (-9 : Int32)), (2, .int (0 : Int32)), (0, .ref (aXm 0)), (1, .int u1)]) hx hb dX7_leastHarmed_6 hl (by decide) rfl (fun ls hl => ?_)
  exact j8 1000 Tn Yi u1 (0 : Int32) (-9 : Int32) (0 : Int32) _ _ _ S (lv_sub hl [3, 4, 2, 1, 0] rfl) hF

theorem zd_X7_leastHarmed : yX7_leastHarmed.cls = RX7 ∧ yX7_leastHarmed.cls ≠ "java/lang/invoke/MethodHandle" ∧ yX7_leastHarmed.cls ≠ "java/lang/invoke/VarHandle" ∧ (parseMethodDescriptor yX7_leastHarmed.desc).map (fun d => d.parameters.length) = some 1 := by decide +kernel
abbrev RMX7_harm : Room := { frames := 6, cells := 0, slots := 0, locals := 142 }
set_option maxRecDepth 100000 in
set_option maxHeartbeats 4000000 in
theorem c_X7_harm (l : Launch) (G : GG) (aXm aTx aRd aPr aSg aAh aIm0 aIm1 aYt aYr aTn aYi : Ad) (Xm : Ob) (tr : Int64) (Pr : Ob) (Yt : Ob) (Ah : Ob) (Tn : Ob) (Yi : Ob) (u1 : Int32) (u2 : Int32) (sz : Nat) (rr : Int32) (Tn_ : Ob) (Yi_ : Ob) (hF : F_X7_harm Pr Yt Ah Tn Yi u1 u2 = some (rr, (Tn_, Yi_))) : Met l yX7_harm wsX7_harm RMX7_harm (va_Pc [.ref (aXm 0), .int u1, .int u2] (zs_pre G (wX7 G aXm aTx aRd aPr aSg aAh aIm0 aIm1 aYt aYr Xm tr ++ wX1 G aPr Pr ++ wX6 G aYt Yt ++ wX0 G aAh aTn aYi Ah ++ wX1 G aTn Tn ++ wX6 G aYi Yi) sz)) (zs_Qi G (wX7 G aXm aTx aRd aPr aSg aAh aIm0 aIm1 aYt aYr Xm tr ++ wX1 G aPr Pr ++ wX6 G aYt Yt ++ wX0 G aAh aTn aYi Ah ++ wX1 G aTn Tn_ ++ wX6 G aYi Yi_) rr (va_A (wX7 G aXm aTx aRd aPr aSg aAh aIm0 aIm1 aYt aYr Xm tr ++ wX1 G aPr Pr ++ wX6 G aYt Yt ++ wX0 G aAh aTn aYi Ah ++ wX1 G aTn Tn ++ wX6 G aYi Yi) sz)) 0 0 (va_A (wX7 G aXm aTx aRd aPr aSg aAh aIm0 aIm1 aYt aYr Xm tr ++ wX1 G aPr Pr ++ wX6 G aYt Yt ++ wX0 G aAh aTn aYi Ah ++ wX1 G aTn Tn ++ wX6 G aYi Yi) sz) := by
  refine zs_met (cc := cX7_harm) (maxL := 3) (ret := (some .int)) (own := RX7) (Qc := zs_Qi G (wX7 G aXm aTx aRd aPr aSg aAh aIm0 aIm1 aYt aYr Xm tr ++ wX1 G aPr Pr ++ wX6 G aYt Yt ++ wX0 G aAh aTn aYi Ah ++ wX1 G aTn Tn_ ++ wX6 G aYi Yi_) rr) (by decide) rfl rfl (Nat.le_of_ble_eq_true rfl) ?_
  intro p e s m args below meth c C A hK hA S _ _ ls hl
  have hl : lv_has ls 3 [(0, .ref (aXm 0)), (1, .int u1), (2, .int u2)] := hl
  have hx := C.1.1
  have hb := C.1.2.1
  unfold F_X7_harm at hF
  have j24 : ∀ (Tn : Ob) (Yi : Ob) (H : Heap) (locs : List Loc) (ls : Array Slot), zs_S G A s.heap H locs (wX7 G aXm aTx aRd aPr aSg aAh aIm0 aIm1 aYt aYr Xm tr ++ wX1 G aPr Pr ++ wX6 G aYt Yt ++ wX0 G aAh aTn aYi Ah ++ wX1 G aTn Tn ++ wX6 G aYi Yi) → lv_has ls 3 [] → F_X7_harm_24 Pr Yt Ah Tn Yi = some (rr, (Tn_, Yi_)) → W p l e RMX7_harm s m args below meth c H locs 0 0 (MQ below (zs_Qi G (wX7 G aXm aTx aRd aPr aSg aAh aIm0 aIm1 aYt aYr Xm tr ++ wX1 G aPr Pr ++ wX6 G aYt Yt ++ wX0 G aAh aTn aYi Ah ++ wX1 G aTn Tn_ ++ wX6 G aYi Yi_) rr A) args s 0 0 A) (F0 m 24 ls []) := by
    intro Tn Yi H locs ls S hl hF
    unfold F_X7_harm_24 at hF
    refine lv_ldc (v := (-1000000 : Int32)) hx hb C.1.2.2.2.1 (C.1.2.2.2.2 (.constant RX7 192 (-1000000 : Int32)) (List.mem_of_getElem? (i := 1) rfl)) dX7_harm_24 ?_
    obtain ⟨e1, e2, e3⟩ := zs_s3 hF
    exact zs_iretE C S e1 (by rw [e2, e3]) dX7_harm_26
  have j13 : ∀ (Tn : Ob) (Yi : Ob) (x1 : Int32) (x2 : Int32) (H : Heap) (locs : List Loc) (ls : Array Slot), zs_S G A s.heap H locs (wX7 G aXm aTx aRd aPr aSg aAh aIm0 aIm1 aYt aYr Xm tr ++ wX1 G aPr Pr ++ wX6 G aYt Yt ++ wX0 G aAh aTn aYi Ah ++ wX1 G aTn Tn ++ wX6 G aYi Yi) → lv_has ls 3 [(0, .ref (aXm 0)), (1, .int x1), (2, .int x2)] → F_X7_harm_13 Pr Yt Ah Tn Yi x1 x2 = some (rr, (Tn_, Yi_)) → W p l e RMX7_harm s m args below meth c H locs 0 0 (MQ below (zs_Qi G (wX7 G aXm aTx aRd aPr aSg aAh aIm0 aIm1 aYt aYr Xm tr ++ wX1 G aPr Pr ++ wX6 G aYt Yt ++ wX0 G aAh aTn aYi Ah ++ wX1 G aTn Tn_ ++ wX6 G aYi Yi_) rr A) args s 0 0 A) (F0 m 13 ls []) := by
    intro Tn Yi x1 x2 H locs ls S hl hF
    unfold F_X7_harm_13 at hF
    refine lv_iload_n hx hb dX7_harm_13 rfl (lv_at hl 2 rfl) ?_
    refine lv_iconst (v := (1 : Int32)) hx hb dX7_harm_14 (by decide) ?_
    refine lv_icmp_lt (tgt := 24) hx hb dX7_harm_15 (by decide) (fun c4 => ?_) (fun c4 => ?_)
    · have hF := zs_t hF c4
      exact j24 Tn Yi _ _ _ S (lv_sub hl [] rfl) hF
    · have hF := zs_f hF c4
      refine lv_iload_n hx hb dX7_harm_18 rfl (lv_at hl 2 rfl) ?_
      refine lv_bipush (v := (50 : Int32)) hx hb dX7_harm_19 (by decide) ?_
      refine lv_icmp_le (tgt := 27) hx hb dX7_harm_21 (by decide) (fun c5 => ?_) (fun c5 => ?_)
      · have hF := zs_t hF c5
        refine lv_iload_n hx hb dX7_harm_27 rfl (lv_at hl 1 rfl) ?_
        refine lv_iconst (v := (-1 : Int32)) hx hb dX7_harm_28 (by decide) ?_
        refine lv_icmp_ne (tgt := 40) hx hb dX7_harm_29 (by decide) (fun c6 => ?_) (fun c6 => ?_)
        · have hF := zs_f hF c6
          refine lv_aload_n hx hb dX7_harm_40 rfl (lv_at hl 0 rfl) ?_
          refine lv_iload_n hx hb dX7_harm_41 rfl (lv_at hl 1 rfl) ?_
          refine lv_iload_n hx hb dX7_harm_42 rfl (lv_at hl 2 rfl) ?_
          obtain ⟨r7, Tnw8, Yiw9, f10, hF⟩ := zs_b3S hF
          refine zs_calli (wr := ([] : va_W)) (ws' := wX7 G aXm aTx aRd aPr aSg aAh aIm0 aIm1 aYt aYr Xm tr ++ wX1 G aPr Pr ++ wX6 G aYt Yt ++ wX0 G aAh aTn aYi Ah ++ wX1 G aTn Tnw8 ++ wX6 G aYi Yiw9) S hA [0, 1, 2, 3, 4, 5, 6, 7, 8, 9, 10, 11, 12, 13, 14, 15, 16, 17, 18, 19, 20, 21, 22, 23, 24, 25, 26, 27] [] [0, 1, 2, 3, 4, 5, 6, 7, 8, 9, 10, 11, 12, 13, 14, 15, 16, 17, 18, 19, 20, 21, 22, 23, 24, 25, 26, 27] (zs_runV C hK hA S [.int x1, .int x2] [] [0, 1, 2, 3, 4, 5, 6, 7, 8, 9, 10, 11, 12, 13, 14, 15, 16, 17, 18, 19, 20, 21, 22, 23, 24, 25, 26, 27] 0 2 (c_X7_harmDone l G aXm aTx aRd aPr aSg aAh aIm0 aIm1 aYt aYr aTn aYi Xm tr Pr Yt Ah Tn Yi x1 x2 H.size r7 Tnw8 Yiw9 f10) gX7_harm_X7_harmDone rfl rfl rfl zd_X7_harmDone ⟨Nat.le_of_ble_eq_true rfl, Nat.le_of_ble_eq_true rfl⟩ rfl rfl rfl rfl rfl hl rfl (Nat.le_of_ble_eq_true rfl) dX7_harm_43 ⟨Nat.le_of_ble_eq_true rfl, Nat.le_of_ble_eq_true rfl⟩) rfl rfl rfl (by decide) rfl rfl (fun H locs S => ?_)
          obtain ⟨e11, e12, e13⟩ := zs_s3 hF
          exact zs_iretE C S e11 (by rw [e12, e13]) dX7_harm_46
        · have hF := zs_t hF c6
          refine lv_aload_n hx hb dX7_harm_32 rfl (lv_at hl 0 rfl) ?_
          refine lv_iload_n hx hb dX7_harm_33 rfl (lv_at hl 2 rfl) ?_
          obtain ⟨r14, Tnw15, Yiw16, f17, hF⟩ := zs_b3S hF
          refine zs_calli (wr := ([] : va_W)) (ws' := wX7 G aXm aTx aRd aPr aSg aAh aIm0 aIm1 aYt aYr Xm tr ++ wX1 G aPr Pr ++ wX6 G aYt Yt ++ wX0 G aAh aTn aYi Ah ++ wX1 G aTn Tnw15 ++ wX6 G aYi Yiw16) S hA [0, 1, 2, 3, 4, 5, 6, 7, 8, 9, 10, 11, 12, 13, 14, 15, 16, 17, 18, 19, 20, 21, 22, 23, 24, 25, 26, 27] [] [0, 1, 2, 3, 4, 5, 6, 7, 8, 9, 10, 11, 12, 13, 14, 15, 16, 17, 18, 19, 20, 21, 22, 23, 24, 25, 26, 27] (zs_runV C hK hA S [.int x2] [] [0, 1, 2, 3, 4, 5, 6, 7, 8, 9, 10, 11, 12, 13, 14, 15, 16, 17, 18, 19, 20, 21, 22, 23, 24, 25, 26, 27] 0 1 (c_X7_leastHarmed l G aXm aTx aRd aPr aSg aAh aIm0 aIm1 aYt aYr aTn aYi Xm tr Pr Yt Ah Tn Yi x2 H.size r14 Tnw15 Yiw16 f17) gX7_harm_X7_leastHarmed rfl rfl rfl zd_X7_leastHarmed ⟨Nat.le_of_ble_eq_true rfl, Nat.le_of_ble_eq_true rfl⟩ rfl rfl rfl rfl rfl hl rfl (Nat.le_of_ble_eq_true rfl) dX7_harm_34 ⟨Nat.le_of_ble_eq_true rfl, Nat.le_of_ble_eq_true rfl⟩) rfl rfl rfl (by decide) rfl rfl (fun H locs S => ?_)
          refine lv_goto (tgt := 46) hx hb dX7_harm_37 (by decide) ?_
          obtain ⟨e18, e19, e20⟩ := zs_s3 hF
          exact zs_iretE C S e18 (by rw [e19, e20]) dX7_harm_46
      · have hF := zs_f hF c5
        exact j24 Tn Yi _ _ _ S (lv_sub hl [] rfl) hF
  refine lv_iload_n hx hb dX7_harm_0 rfl (lv_at hl 1 rfl) ?_
  refine lv_iconst (v := (-1 : Int32)) hx hb dX7_harm_1 (by decide) ?_
  refine lv_icmp_eq (tgt := 13) hx hb dX7_harm_2 (by decide) (fun c21 => ?_) (fun c21 => ?_)
  · have hF := zs_t hF c21
    exact j13 Tn Yi u1 u2 _ _ _ S (lv_sub hl [0, 1, 2] rfl) hF
  · have hF := zs_f hF c21
    refine lv_aload_n hx hb dX7_harm_5 rfl (lv_at hl 0 rfl) ?_
    refine lv_iload_n hx hb dX7_harm_6 rfl (lv_at hl 1 rfl) ?_
    obtain ⟨r22, f23, hF⟩ := zs_bdS hF
    refine zs_calli (wr := wX1 G aPr Pr ++ wX0 G aAh aTn aYi Ah ++ wX1 G aTn Tn ++ wX6 G aYi Yi) (ws' := wX7 G aXm aTx aRd aPr aSg aAh aIm0 aIm1 aYt aYr Xm tr ++ wX1 G aPr Pr ++ wX6 G aYt Yt ++ wX0 G aAh aTn aYi Ah ++ wX1 G aTn Tn ++ wX6 G aYi Yi) S hA [0, 1, 6, 7, 8, 9, 10, 11, 12, 13] [2, 3, 4, 5, 14, 15, 16, 17, 18, 19, 20, 21, 22, 23, 24, 25, 26, 27] [18, 19, 0, 1, 2, 3, 20, 21, 22, 23, 24, 25, 26, 27, 4, 5, 6, 7, 8, 9, 10, 11, 12, 13, 14, 15, 16, 17] (zs_runV C hK hA S [.int u1] [] [0, 1, 6, 7, 8, 9, 10, 11, 12, 13] 0 1 (c_X7_isWall l G aXm aTx aRd aPr aSg aAh aIm0 aIm1 aYt aYr Xm tr Yt u1 s.heap.size r22 f23) gX7_harm_X7_isWall rfl rfl rfl zd_X7_isWall ⟨Nat.le_of_ble_eq_true rfl, Nat.le_of_ble_eq_true rfl⟩ rfl rfl rfl rfl rfl hl rfl (Nat.le_of_ble_eq_true rfl) dX7_harm_7 ⟨Nat.le_of_ble_eq_true rfl, Nat.le_of_ble_eq_true rfl⟩) rfl rfl rfl (by decide) rfl rfl (fun H locs S => ?_)
    refine lv_if_eq (tgt := 24) hx hb dX7_harm_10 (by decide) (fun c24 => ?_) (fun c24 => ?_)
    · have hF := zs_t hF c24
      exact j24 Tn Yi _ _ _ S (lv_sub hl [] rfl) hF
    · have hF := zs_f hF c24
      exact j13 Tn Yi u1 u2 _ _ _ S (lv_sub hl [0, 1, 2] rfl) hF

theorem zd_X0_allSeenIsSo : yX0_allSeenIsSo.cls = RX0 ∧ yX0_allSeenIsSo.cls ≠ "java/lang/invoke/MethodHandle" ∧ yX0_allSeenIsSo.cls ≠ "java/lang/invoke/VarHandle" ∧ (parseMethodDescriptor yX0_allSeenIsSo.desc).map (fun d => d.parameters.length) = some 1 := by decide +kernel
abbrev RMX7_holeRate : Room := { frames := 4, cells := 0, slots := 0, locals := 94 }
theorem zn_X7_holeRate_X0 : ∀ w ∈ wsX00, w ∈ wsX7_holeRate := zs_inl wsX00 [71, 72, 73] (by decide +kernel)
theorem zn_X7_holeRate_X6 : ∀ w ∈ wsX60, w ∈ wsX7_holeRate := zs_inl wsX60 [74, 75, 76, 77, 78, 79, 80, 81, 82] (by decide +kernel)
theorem zn_X7_holeRate_X7 : ∀ w ∈ wsX70, w ∈ wsX7_holeRate := zs_inl wsX70 [61, 62, 63, 64, 65, 66, 67, 68, 69, 70] (by decide +kernel)
set_option maxRecDepth 100000 in
set_option maxHeartbeats 4000000 in
theorem c_X7_holeRate (l : Launch) (G : GG) (aXm aTx aRd aPr aSg aAh aIm0 aIm1 aYt aYr aTn aYi : Ad) (Xm : Ob) (tr : Int64) (Yt : Ob) (Sg : Ob) (Ah : Ob) (Tn : Ob) (Yi : Ob) (u1 : Int32) (sz : Nat) (rr : Int32) (Tn_ : Ob) (Yi_ : Ob) (hF : F_X7_holeRate Yt Sg Ah Tn Yi u1 = some (rr, (Tn_, Yi_))) : Met l yX7_holeRate wsX7_holeRate RMX7_holeRate (va_Pc [.ref (aXm 0), .int u1] (zs_pre G (wX7 G aXm aTx aRd aPr aSg aAh aIm0 aIm1 aYt aYr Xm tr ++ wX6 G aYt Yt ++ wX3 G aSg Sg ++ wX0 G aAh aTn aYi Ah ++ wX1 G aTn Tn ++ wX6 G aYi Yi) sz)) (zs_Qi G (wX7 G aXm aTx aRd aPr aSg aAh aIm0 aIm1 aYt aYr Xm tr ++ wX6 G aYt Yt ++ wX3 G aSg Sg ++ wX0 G aAh aTn aYi Ah ++ wX1 G aTn Tn_ ++ wX6 G aYi Yi_) rr (va_A (wX7 G aXm aTx aRd aPr aSg aAh aIm0 aIm1 aYt aYr Xm tr ++ wX6 G aYt Yt ++ wX3 G aSg Sg ++ wX0 G aAh aTn aYi Ah ++ wX1 G aTn Tn ++ wX6 G aYi Yi) sz)) 0 0 (va_A (wX7 G aXm aTx aRd aPr aSg aAh aIm0 aIm1 aYt aYr Xm tr ++ wX6 G aYt Yt ++ wX3 G aSg Sg ++ wX0 G aAh aTn aYi Ah ++ wX1 G aTn Tn ++ wX6 G aYi Yi) sz) := by
  refine zs_met (cc := cX7_holeRate) (maxL := 4) (ret := (some .int)) (own := RX7) (Qc := zs_Qi G (wX7 G aXm aTx aRd aPr aSg aAh aIm0 aIm1 aYt aYr Xm tr ++ wX6 G aYt Yt ++ wX3 G aSg Sg ++ wX0 G aAh aTn aYi Ah ++ wX1 G aTn Tn_ ++ wX6 G aYi Yi_) rr) (by decide) rfl rfl (Nat.le_of_ble_eq_true rfl) ?_
  intro p e s m args below meth c C A hK hA S _ _ ls hl
  have hl : lv_has ls 4 [(0, .ref (aXm 0)), (1, .int u1)] := hl
  have hx := C.1.1
  have hb := C.1.2.1
  unfold F_X7_holeRate at hF
  have j65 : ∀ (Tn : Ob) (Yi : Ob) (x1 : Int32) (x2 : Int32) (H : Heap) (locs : List Loc) (ls : Array Slot), zs_S G A s.heap H locs (wX7 G aXm aTx aRd aPr aSg aAh aIm0 aIm1 aYt aYr Xm tr ++ wX6 G aYt Yt ++ wX3 G aSg Sg ++ wX0 G aAh aTn aYi Ah ++ wX1 G aTn Tn ++ wX6 G aYi Yi) → lv_has ls 4 [(0, .ref (aXm 0)), (1, .int x1), (2, .int x2)] → F_X7_holeRate_65 Yt Sg Ah Tn Yi x1 x2 = some (rr, (Tn_, Yi_)) → W p l e RMX7_holeRate s m args below meth c H locs 0 0 (MQ below (zs_Qi G (wX7 G aXm aTx aRd aPr aSg aAh aIm0 aIm1 aYt aYr Xm tr ++ wX6 G aYt Yt ++ wX3 G aSg Sg ++ wX0 G aAh aTn aYi Ah ++ wX1 G aTn Tn_ ++ wX6 G aYi Yi_) rr A) args s 0 0 A) (F0 m 65 ls []) := by
    intro Tn Yi x1 x2 H locs ls S hl hF
    unfold F_X7_holeRate_65 at hF
    refine lv_aload_n hx hb dX7_holeRate_65 rfl (lv_at hl 0 rfl) ?_
    refine zs_get C hK S 0 4 (Cn := RX7) (T := TX7) (N := 10) (ci := 7) rfl rfl (by decide) zn_X7_holeRate_X7 (List.mem_of_getElem? (i := 1) rfl) rfl dX7_holeRate_66 ?_
    refine zs_get C hK S 14 1 (Cn := RX0) (T := TX0) (N := 3) (ci := 0) rfl rfl (by decide) zn_X7_holeRate_X0 (List.mem_of_getElem? (i := 2) rfl) rfl dX7_holeRate_69 ?_
    refine zs_get C hK S 20 3 (Cn := RX6) (T := TX6) (N := 9) (ci := 6) rfl rfl (by decide) zn_X7_holeRate_X6 (List.mem_of_getElem? (i := 3) rfl) rfl dX7_holeRate_72 ?_
    refine lv_iload_n hx hb dX7_holeRate_75 rfl (lv_at hl 1 rfl) ?_
    refine lv_aload_n hx hb dX7_holeRate_76 rfl (lv_at hl 0 rfl) ?_
    refine zs_get C hK S 0 6 (Cn := RX7) (T := TX7) (N := 10) (ci := 7) rfl rfl (by decide) zn_X7_holeRate_X7 (List.mem_of_getElem? (i := 4) rfl) rfl dX7_holeRate_77 ?_
    refine zs_get C hK S 2 3 (Cn := RX6) (T := TX6) (N := 9) (ci := 6) rfl rfl (by decide) zn_X7_holeRate_X6 (List.mem_of_getElem? (i := 3) rfl) rfl dX7_holeRate_80 ?_
    refine lv_iload_n hx hb dX7_holeRate_83 rfl (lv_at hl 1 rfl) ?_
    obtain ⟨h1, hF⟩ := zs_ckS hF
    refine zs_iald C hK S 4 rfl h1 dX7_holeRate_84 ?_
    obtain ⟨h2, hF⟩ := zs_ckS hF
    obtain ⟨Yiw3, e4⟩ : ∃ q : Ob, q = zs_up Yi 2 (x1).toNatClampNeg (Yt 2 (x1).toNatClampNeg) := ⟨_, rfl⟩
    have hF := zs_letS hF e4
    refine zs_iast C hK S 22 (ws' := wX7 G aXm aTx aRd aPr aSg aAh aIm0 aIm1 aYt aYr Xm tr ++ wX6 G aYt Yt ++ wX3 G aSg Sg ++ wX0 G aAh aTn aYi Ah ++ wX1 G aTn Tn ++ wX6 G aYi Yiw3) rfl h2 (by rw [e4]; rfl) dX7_holeRate_85 (fun H locs S => ?_)
    refine lv_iload_n hx hb dX7_holeRate_86 rfl (lv_at hl 2 rfl) ?_
    obtain ⟨e5, e6, e7⟩ := zs_s3 hF
    exact zs_iretE C S e5 (by rw [e6, e7]) dX7_holeRate_87
  have j5 : ∀ (n5 : Nat) (Tn : Ob) (Yi : Ob) (x1 : Int32) (x2 : Int32) (x3 : Int32) (H : Heap) (locs : List Loc) (ls : Array Slot), zs_S G A s.heap H locs (wX7 G aXm aTx aRd aPr aSg aAh aIm0 aIm1 aYt aYr Xm tr ++ wX6 G aYt Yt ++ wX3 G aSg Sg ++ wX0 G aAh aTn aYi Ah ++ wX1 G aTn Tn ++ wX6 G aYi Yi) → lv_has ls 4 [(0, .ref (aXm 0)), (1, .int x1), (2, .int x2), (3, .int x3)] → F_X7_holeRate_5 Yt Sg Ah n5 Tn Yi x1 x2 x3 = some (rr, (Tn_, Yi_)) → W p l e RMX7_holeRate s m args below meth c H locs 0 0 (MQ below (zs_Qi G (wX7 G aXm aTx aRd aPr aSg aAh aIm0 aIm1 aYt aYr Xm tr ++ wX6 G aYt Yt ++ wX3 G aSg Sg ++ wX0 G aAh aTn aYi Ah ++ wX1 G aTn Tn_ ++ wX6 G aYi Yi_) rr A) args s 0 0 A) (F0 m 5 ls []) := by
    intro n5
    induction n5 with
    | zero => intro Tn Yi x1 x2 x3 H locs ls _ _ hF; rw [F_X7_holeRate_5_z] at hF; cases hF
    | succ n5 ih5 =>
      have j59 : ∀ (Tn : Ob) (Yi : Ob) (x1 : Int32) (x2 : Int32) (x3 : Int32) (H : Heap) (locs : List Loc) (ls : Array Slot), zs_S G A s.heap H locs (wX7 G aXm aTx aRd aPr aSg aAh aIm0 aIm1 aYt aYr Xm tr ++ wX6 G aYt Yt ++ wX3 G aSg Sg ++ wX0 G aAh aTn aYi Ah ++ wX1 G aTn Tn ++ wX6 G aYi Yi) → lv_has ls 4 [(0, .ref (aXm 0)), (1, .int x1), (2, .int x2), (3, .int x3)] → F_X7_holeRate_59 Yt Sg Ah (F_X7_holeRate_5 Yt Sg Ah n5) Tn Yi x1 x2 x3 = some (rr, (Tn_, Yi_)) → W p l e RMX7_holeRate s m args below meth c H locs 0 0 (MQ below (zs_Qi G (wX7 G aXm aTx aRd aPr aSg aAh aIm0 aIm1 aYt aYr Xm tr ++ wX6 G aYt Yt ++ wX3 G aSg Sg ++ wX0 G aAh aTn aYi Ah ++ wX1 G aTn Tn_ ++ wX6 G aYi Yi_) rr A) args s 0 0 A) (F0 m 59 ls []) := by
        intro Tn Yi x1 x2 x3 H locs ls S hl hF
        unfold F_X7_holeRate_59 at hF
        obtain ⟨z8, e9⟩ : ∃ q : Int32, q = x3 + (1 : Int32) := ⟨_, rfl⟩
        have hF := zs_letS hF e9
        refine lv_iinc (v := z8) (lv' := [(3, .int z8), (0, .ref (aXm 0)), (1, .int x1), (2, .int x2)]) hx hb dX7_holeRate_59 hl (k := 3) rfl (by rw [e9]; rfl) (by decide) rfl (fun ls hl => ?_)
        refine lv_goto (tgt := 5) hx hb dX7_holeRate_62 (by decide) ?_
        exact ih5 Tn Yi x1 x2 z8 _ _ _ S (lv_sub hl [1, 2, 3, 0] rfl) hF
      intro Tn Yi x1 x2 x3 H locs ls S hl hF
      rw [F_X7_holeRate_5_n] at hF
      unfold F_X7_holeRate_5_s at hF
      refine lv_iload_n hx hb dX7_holeRate_5 rfl (lv_at hl 3 rfl) ?_
      refine lv_bipush (v := (9 : Int32)) hx hb dX7_holeRate_6 (by decide) ?_
      refine lv_icmp_gt (tgt := 65) hx hb dX7_holeRate_8 (by decide) (fun c10 => ?_) (fun c10 => ?_)
      · have hF := zs_t hF c10
        exact j65 Tn Yi x1 x2 _ _ _ S (lv_sub hl [0, 1, 2] rfl) hF
      · have hF := zs_f hF c10
        refine lv_iload_n hx hb dX7_holeRate_11 rfl (lv_at hl 2 rfl) ?_
        refine lv_bipush (v := (-9 : Int32)) hx hb dX7_holeRate_12 (by decide) ?_
        refine lv_icmp_ne (tgt := 65) hx hb dX7_holeRate_14 (by decide) (fun c11 => ?_) (fun c11 => ?_)
        · have hF := zs_f hF c11
          exact j65 Tn Yi x1 x2 _ _ _ S (lv_sub hl [0, 1, 2] rfl) hF
        · have hF := zs_t hF c11
          refine lv_aload_n hx hb dX7_holeRate_17 rfl (lv_at hl 0 rfl) ?_
          refine zs_get C hK S 0 4 (Cn := RX7) (T := TX7) (N := 10) (ci := 7) rfl rfl (by decide) zn_X7_holeRate_X7 (List.mem_of_getElem? (i := 1) rfl) rfl dX7_holeRate_18 ?_
          refine zs_get C hK S 14 1 (Cn := RX0) (T := TX0) (N := 3) (ci := 0) rfl rfl (by decide) zn_X7_holeRate_X0 (List.mem_of_getElem? (i := 2) rfl) rfl dX7_holeRate_21 ?_
          refine zs_get C hK S 20 3 (Cn := RX6) (T := TX6) (N := 9) (ci := 6) rfl rfl (by decide) zn_X7_holeRate_X6 (List.mem_of_getElem? (i := 3) rfl) rfl dX7_holeRate_24 ?_
          refine lv_iload_n hx hb dX7_holeRate_27 rfl (lv_at hl 1 rfl) ?_
          refine lv_iload_n hx hb dX7_holeRate_28 rfl (lv_at hl 3 rfl) ?_
          obtain ⟨h12, hF⟩ := zs_ckS hF
          obtain ⟨Yiw13, e14⟩ : ∃ q : Ob, q = zs_up Yi 2 (x1).toNatClampNeg x3 := ⟨_, rfl⟩
          have hF := zs_letS hF e14
          refine zs_iast C hK S 22 (ws' := wX7 G aXm aTx aRd aPr aSg aAh aIm0 aIm1 aYt aYr Xm tr ++ wX6 G aYt Yt ++ wX3 G aSg Sg ++ wX0 G aAh aTn aYi Ah ++ wX1 G aTn Tn ++ wX6 G aYi Yiw13) rfl h12 (by rw [e14]; rfl) dX7_holeRate_29 (fun H locs S => ?_)
          refine lv_iload_n hx hb dX7_holeRate_30 rfl (lv_at hl 3 rfl) ?_
          refine lv_aload_n hx hb dX7_holeRate_31 rfl (lv_at hl 0 rfl) ?_
          refine zs_get C hK S 0 6 (Cn := RX7) (T := TX7) (N := 10) (ci := 7) rfl rfl (by decide) zn_X7_holeRate_X7 (List.mem_of_getElem? (i := 4) rfl) rfl dX7_holeRate_32 ?_
          refine zs_get C hK S 2 3 (Cn := RX6) (T := TX6) (N := 9) (ci := 6) rfl rfl (by decide) zn_X7_holeRate_X6 (List.mem_of_getElem? (i := 3) rfl) rfl dX7_holeRate_35 ?_
          refine lv_iload_n hx hb dX7_holeRate_38 rfl (lv_at hl 1 rfl) ?_
          obtain ⟨h15, hF⟩ := zs_ckS hF
          refine zs_iald C hK S 4 rfl h15 dX7_holeRate_39 ?_
          refine lv_icmp_eq (tgt := 59) hx hb dX7_holeRate_40 (by decide) (fun c16 => ?_) (fun c16 => ?_)
          · have hF := zs_t hF c16
            exact j59 Tn Yiw13 x1 x2 x3 _ _ _ S (lv_sub hl [0, 1, 2, 3] rfl) hF
          · have hF := zs_f hF c16
            refine lv_aload_n hx hb dX7_holeRate_43 rfl (lv_at hl 0 rfl) ?_
            refine zs_get C hK S 0 4 (Cn := RX7) (T := TX7) (N := 10) (ci := 7) rfl rfl (by decide) zn_X7_holeRate_X7 (List.mem_of_getElem? (i := 1) rfl) rfl dX7_holeRate_44 ?_
            refine lv_aload_n hx hb dX7_holeRate_47 rfl (lv_at hl 0 rfl) ?_
            refine zs_get C hK S 0 3 (Cn := RX7) (T := TX7) (N := 10) (ci := 7) rfl rfl (by decide) zn_X7_holeRate_X7 (List.mem_of_getElem? (i := 5) rfl) rfl dX7_holeRate_48 ?_
            obtain ⟨r17, Tnw18, f19, hF⟩ := zs_b2S hF
            refine zs_calli (wr := wX7 G aXm aTx aRd aPr aSg aAh aIm0 aIm1 aYt aYr Xm tr ++ wX6 G aYt Yt) (ws' := wX7 G aXm aTx aRd aPr aSg aAh aIm0 aIm1 aYt aYr Xm tr ++ wX6 G aYt Yt ++ wX3 G aSg Sg ++ wX0 G aAh aTn aYi Ah ++ wX1 G aTn Tnw18 ++ wX6 G aYi Yiw13) S hA [14, 15, 16, 17, 18, 19, 20, 21, 22, 23, 24, 25, 26, 27, 10, 11, 12, 13] [0, 1, 2, 3, 4, 5, 6, 7, 8, 9] [0, 1, 2, 3, 4, 5, 6, 7, 8, 9, 24, 25, 26, 27, 10, 11, 12, 13, 14, 15, 16, 17, 18, 19, 20, 21, 22, 23] (zs_runV C hK hA S [.ref (aSg 0)] [] [14, 15, 16, 17, 18, 19, 20, 21, 22, 23, 24, 25, 26, 27, 10, 11, 12, 13] 14 1 (c_X0_allSeenIsSo l G aAh aTn aYi aSg Ah Tn Yiw13 Sg H.size r17 Tnw18 f19) gX7_holeRate_X0_allSeenIsSo rfl rfl rfl zd_X0_allSeenIsSo ⟨Nat.le_of_ble_eq_true rfl, Nat.le_of_ble_eq_true rfl⟩ rfl rfl rfl rfl rfl hl rfl (Nat.le_of_ble_eq_true rfl) dX7_holeRate_51 ⟨Nat.le_of_ble_eq_true rfl, Nat.le_of_ble_eq_true rfl⟩) rfl rfl rfl (by decide) rfl rfl (fun H locs S => ?_)
            refine lv_if_eq (tgt := 59) hx hb dX7_holeRate_54 (by decide) (fun c20 => ?_) (fun c20 => ?_)
            · have hF := zs_t hF c20
              exact j59 Tnw18 Yiw13 x1 x2 x3 _ _ _ S (lv_sub hl [0, 1, 2, 3] rfl) hF
            · have hF := zs_f hF c20
              refine lv_iload_n hx hb dX7_holeRate_57 rfl (lv_at hl 3 rfl) ?_
              refine lv_istore_n (lv' := [(2, .int x3), (0, .ref (aXm 0)), (1, .int x1), (3, .int x3)]) hx hb dX7_holeRate_58 rfl hl (by decide) rfl (fun ls hl => ?_)
              exact j59 Tnw18 Yiw13 x1 x3 x3 _ _ _ S (lv_sub hl [1, 2, 0, 3] rfl) hF
  refine lv_bipush (v := (-9 : Int32)) hx hb dX7_holeRate_0 (by decide) ?_
  refine lv_istore_n (lv' := [(2, .int (-9 : Int32)), (0, .ref (aXm 0)), (1, .int u1)]) hx hb dX7_holeRate_2 rfl hl (by decide) rfl (fun ls hl => ?_)
  refine lv_iconst (v := (0 : Int32)) hx hb dX7_holeRate_3 (by decide) ?_
  refine lv_istore_n (lv' := [(3, .int (0 : Int32)), (2, .int (-9 : Int32)), (0, .ref (aXm 0)), (1, .int u1)]) hx hb dX7_holeRate_4 rfl hl (by decide) rfl (fun ls hl => ?_)
  exact j5 1000 Tn Yi u1 (-9 : Int32) (0 : Int32) _ _ _ S (lv_sub hl [2, 3, 1, 0] rfl) hF

theorem zd_X7_holeRate : yX7_holeRate.cls = RX7 ∧ yX7_holeRate.cls ≠ "java/lang/invoke/MethodHandle" ∧ yX7_holeRate.cls ≠ "java/lang/invoke/VarHandle" ∧ (parseMethodDescriptor yX7_holeRate.desc).map (fun d => d.parameters.length) = some 1 := by decide +kernel
abbrev RMX7_holesOfAll : Room := { frames := 5, cells := 0, slots := 0, locals := 117 }
theorem zn_X7_holesOfAll_X6 : ∀ w ∈ wsX60, w ∈ wsX7_holesOfAll := zs_inl wsX60 [76, 77, 78, 79, 80, 81, 82, 83, 84] (by decide +kernel)
theorem zn_X7_holesOfAll_X7 : ∀ w ∈ wsX70, w ∈ wsX7_holesOfAll := zs_inl wsX70 [66, 67, 68, 69, 70, 71, 72, 73, 74, 75] (by decide +kernel)
set_option maxRecDepth 100000 in
set_option maxHeartbeats 4000000 in
theorem c_X7_holesOfAll (l : Launch) (G : GG) (aXm aTx aRd aPr aSg aAh aIm0 aIm1 aYt aYr aTn aYi : Ad) (Xm : Ob) (tr : Int64) (Yt : Ob) (Sg : Ob) (Ah : Ob) (Tn : Ob) (Yi : Ob) (sz : Nat) (rr : Int32) (Tn_ : Ob) (Yi_ : Ob) (hF : F_X7_holesOfAll Yt Sg Ah Tn Yi = some (rr, (Tn_, Yi_))) : Met l yX7_holesOfAll wsX7_holesOfAll RMX7_holesOfAll (va_Pc [.ref (aXm 0)] (zs_pre G (wX7 G aXm aTx aRd aPr aSg aAh aIm0 aIm1 aYt aYr Xm tr ++ wX6 G aYt Yt ++ wX3 G aSg Sg ++ wX0 G aAh aTn aYi Ah ++ wX1 G aTn Tn ++ wX6 G aYi Yi) sz)) (zs_Qi G (wX7 G aXm aTx aRd aPr aSg aAh aIm0 aIm1 aYt aYr Xm tr ++ wX6 G aYt Yt ++ wX3 G aSg Sg ++ wX0 G aAh aTn aYi Ah ++ wX1 G aTn Tn_ ++ wX6 G aYi Yi_) rr (va_A (wX7 G aXm aTx aRd aPr aSg aAh aIm0 aIm1 aYt aYr Xm tr ++ wX6 G aYt Yt ++ wX3 G aSg Sg ++ wX0 G aAh aTn aYi Ah ++ wX1 G aTn Tn ++ wX6 G aYi Yi) sz)) 0 0 (va_A (wX7 G aXm aTx aRd aPr aSg aAh aIm0 aIm1 aYt aYr Xm tr ++ wX6 G aYt Yt ++ wX3 G aSg Sg ++ wX0 G aAh aTn aYi Ah ++ wX1 G aTn Tn ++ wX6 G aYi Yi) sz) := by
  refine zs_met (cc := cX7_holesOfAll) (maxL := 3) (ret := (some .int)) (own := RX7) (Qc := zs_Qi G (wX7 G aXm aTx aRd aPr aSg aAh aIm0 aIm1 aYt aYr Xm tr ++ wX6 G aYt Yt ++ wX3 G aSg Sg ++ wX0 G aAh aTn aYi Ah ++ wX1 G aTn Tn_ ++ wX6 G aYi Yi_) rr) (by decide) rfl rfl (Nat.le_of_ble_eq_true rfl) ?_
  intro p e s m args below meth c C A hK hA S _ _ ls hl
  have hl : lv_has ls 3 [(0, .ref (aXm 0))] := hl
  have hx := C.1.1
  have hb := C.1.2.1
  unfold F_X7_holesOfAll at hF
  have j23 : ∀ (n23 : Nat) (Tn : Ob) (Yi : Ob) (x1 : Int32) (x2 : Int32) (H : Heap) (locs : List Loc) (ls : Array Slot), zs_S G A s.heap H locs (wX7 G aXm aTx aRd aPr aSg aAh aIm0 aIm1 aYt aYr Xm tr ++ wX6 G aYt Yt ++ wX3 G aSg Sg ++ wX0 G aAh aTn aYi Ah ++ wX1 G aTn Tn ++ wX6 G aYi Yi) → lv_has ls 3 [(0, .ref (aXm 0)), (1, .int x1), (2, .int x2)] → F_X7_holesOfAll_23 Yt Sg Ah n23 Tn Yi x1 x2 = some (rr, (Tn_, Yi_)) → W p l e RMX7_holesOfAll s m args below meth c H locs 0 0 (MQ below (zs_Qi G (wX7 G aXm aTx aRd aPr aSg aAh aIm0 aIm1 aYt aYr Xm tr ++ wX6 G aYt Yt ++ wX3 G aSg Sg ++ wX0 G aAh aTn aYi Ah ++ wX1 G aTn Tn_ ++ wX6 G aYi Yi_) rr A) args s 0 0 A) (F0 m 23 ls []) := by
    intro n23
    induction n23 with
    | zero => intro Tn Yi x1 x2 H locs ls _ _ hF; rw [F_X7_holesOfAll_23_z] at hF; cases hF
    | succ n23 ih23 =>
      have j50 : ∀ (Tn : Ob) (Yi : Ob) (x1 : Int32) (x2 : Int32) (H : Heap) (locs : List Loc) (ls : Array Slot), zs_S G A s.heap H locs (wX7 G aXm aTx aRd aPr aSg aAh aIm0 aIm1 aYt aYr Xm tr ++ wX6 G aYt Yt ++ wX3 G aSg Sg ++ wX0 G aAh aTn aYi Ah ++ wX1 G aTn Tn ++ wX6 G aYi Yi) → lv_has ls 3 [(0, .ref (aXm 0)), (1, .int x1), (2, .int x2)] → F_X7_holesOfAll_50 Yt Sg Ah (F_X7_holesOfAll_23 Yt Sg Ah n23) Tn Yi x1 x2 = some (rr, (Tn_, Yi_)) → W p l e RMX7_holesOfAll s m args below meth c H locs 0 0 (MQ below (zs_Qi G (wX7 G aXm aTx aRd aPr aSg aAh aIm0 aIm1 aYt aYr Xm tr ++ wX6 G aYt Yt ++ wX3 G aSg Sg ++ wX0 G aAh aTn aYi Ah ++ wX1 G aTn Tn_ ++ wX6 G aYi Yi_) rr A) args s 0 0 A) (F0 m 50 ls []) := by
        intro Tn Yi x1 x2 H locs ls S hl hF
        unfold F_X7_holesOfAll_50 at hF
        obtain ⟨z1, e2⟩ : ∃ q : Int32, q = x2 + (1 : Int32) := ⟨_, rfl⟩
        have hF := zs_letS hF e2
        refine lv_iinc (v := z1) (lv' := [(2, .int z1), (0, .ref (aXm 0)), (1, .int x1)]) hx hb dX7_holesOfAll_50 hl (k := 2) rfl (by rw [e2]; rfl) (by decide) rfl (fun ls hl => ?_)
        refine lv_goto (tgt := 23) hx hb dX7_holesOfAll_53 (by decide) ?_
        exact ih23 Tn Yi x1 z1 _ _ _ S (lv_sub hl [1, 2, 0] rfl) hF
      intro Tn Yi x1 x2 H locs ls S hl hF
      rw [F_X7_holesOfAll_23_n] at hF
      unfold F_X7_holesOfAll_23_s at hF
      refine lv_iload_n hx hb dX7_holesOfAll_23 rfl (lv_at hl 2 rfl) ?_
      refine lv_aload_n hx hb dX7_holesOfAll_24 rfl (lv_at hl 0 rfl) ?_
      refine zs_get C hK S 0 6 (Cn := RX7) (T := TX7) (N := 10) (ci := 7) rfl rfl (by decide) zn_X7_holesOfAll_X7 (List.mem_of_getElem? (i := 3) rfl) rfl dX7_holesOfAll_25 ?_
      refine zs_get C hK S 2 0 (Cn := RX6) (T := TX6) (N := 9) (ci := 6) rfl rfl (by decide) zn_X7_holesOfAll_X6 (List.mem_of_getElem? (i := 4) rfl) rfl dX7_holesOfAll_28 ?_
      refine lv_icmp_ge (tgt := 56) hx hb dX7_holesOfAll_31 (by decide) (fun c3 => ?_) (fun c3 => ?_)
      · have hF := zs_t hF c3
        refine lv_iload_n hx hb dX7_holesOfAll_56 rfl (lv_at hl 1 rfl) ?_
        obtain ⟨e4, e5, e6⟩ := zs_s3 hF
        exact zs_iretE C S e4 (by rw [e5, e6]) dX7_holesOfAll_57
      · have hF := zs_f hF c3
        refine lv_aload_n hx hb dX7_holesOfAll_34 rfl (lv_at hl 0 rfl) ?_
        refine lv_iload_n hx hb dX7_holesOfAll_35 rfl (lv_at hl 2 rfl) ?_
        obtain ⟨r7, Tnw8, Yiw9, f10, hF⟩ := zs_b3S hF
        refine zs_calli (wr := ([] : va_W)) (ws' := wX7 G aXm aTx aRd aPr aSg aAh aIm0 aIm1 aYt aYr Xm tr ++ wX6 G aYt Yt ++ wX3 G aSg Sg ++ wX0 G aAh aTn aYi Ah ++ wX1 G aTn Tnw8 ++ wX6 G aYi Yiw9) S hA [0, 1, 2, 3, 4, 5, 6, 7, 8, 9, 10, 11, 12, 13, 14, 15, 16, 17, 18, 19, 20, 21, 22, 23, 24, 25, 26, 27] [] [0, 1, 2, 3, 4, 5, 6, 7, 8, 9, 10, 11, 12, 13, 14, 15, 16, 17, 18, 19, 20, 21, 22, 23, 24, 25, 26, 27] (zs_runV C hK hA S [.int x2] [] [0, 1, 2, 3, 4, 5, 6, 7, 8, 9, 10, 11, 12, 13, 14, 15, 16, 17, 18, 19, 20, 21, 22, 23, 24, 25, 26, 27] 0 1 (c_X7_holeRate l G aXm aTx aRd aPr aSg aAh aIm0 aIm1 aYt aYr aTn aYi Xm tr Yt Sg Ah Tn Yi x2 H.size r7 Tnw8 Yiw9 f10) gX7_holesOfAll_X7_holeRate rfl rfl rfl zd_X7_holeRate ⟨Nat.le_of_ble_eq_true rfl, Nat.le_of_ble_eq_true rfl⟩ rfl rfl rfl rfl rfl hl rfl (Nat.le_of_ble_eq_true rfl) dX7_holesOfAll_36 ⟨Nat.le_of_ble_eq_true rfl, Nat.le_of_ble_eq_true rfl⟩) rfl rfl rfl (by decide) rfl rfl (fun H locs S => ?_)
        refine lv_bipush (v := (-9 : Int32)) hx hb dX7_holesOfAll_39 (by decide) ?_
        refine lv_icmp_eq (tgt := 50) hx hb dX7_holesOfAll_41 (by decide) (fun c11 => ?_) (fun c11 => ?_)
        · have hF := zs_t hF c11
          exact j50 Tnw8 Yiw9 x1 x2 _ _ _ S (lv_sub hl [0, 1, 2] rfl) hF
        · have hF := zs_f hF c11
          refine lv_iload_n hx hb dX7_holesOfAll_44 rfl (lv_at hl 1 rfl) ?_
          refine lv_iconst (v := (1 : Int32)) hx hb dX7_holesOfAll_45 (by decide) ?_
          refine lv_iload_n hx hb dX7_holesOfAll_46 rfl (lv_at hl 2 rfl) ?_
          refine lv_ishl hx hb dX7_holesOfAll_47 ?_
          refine lv_ior hx hb dX7_holesOfAll_48 ?_
          refine lv_topi (fun z12 e13 => ?_)
          have hF := zs_letS hF e13
          refine lv_istore_n (lv' := [(1, .int z12), (0, .ref (aXm 0)), (2, .int x2)]) hx hb dX7_holesOfAll_49 rfl hl (by decide) rfl (fun ls hl => ?_)
          exact j50 Tnw8 Yiw9 z12 x2 _ _ _ S (lv_sub hl [1, 0, 2] rfl) hF
  have j20 : ∀ (Tn : Ob) (Yi : Ob) (y0 : Int32) (H : Heap) (locs : List Loc) (ls : Array Slot), zs_S G A s.heap H locs (wX7 G aXm aTx aRd aPr aSg aAh aIm0 aIm1 aYt aYr Xm tr ++ wX6 G aYt Yt ++ wX3 G aSg Sg ++ wX0 G aAh aTn aYi Ah ++ wX1 G aTn Tn ++ wX6 G aYi Yi) → lv_has ls 3 [(0, .ref (aXm 0))] → F_X7_holesOfAll_20 Yt Sg Ah Tn Yi y0 = some (rr, (Tn_, Yi_)) → W p l e RMX7_holesOfAll s m args below meth c H locs 0 0 (MQ below (zs_Qi G (wX7 G aXm aTx aRd aPr aSg aAh aIm0 aIm1 aYt aYr Xm tr ++ wX6 G aYt Yt ++ wX3 G aSg Sg ++ wX0 G aAh aTn aYi Ah ++ wX1 G aTn Tn_ ++ wX6 G aYi Yi_) rr A) args s 0 0 A) (F0 m 20 ls [.int y0]) := by
    intro Tn Yi y0 H locs ls S hl hF
    unfold F_X7_holesOfAll_20 at hF
    refine lv_istore_n (lv' := [(1, .int y0), (0, .ref (aXm 0))]) hx hb dX7_holesOfAll_20 rfl hl (by decide) rfl (fun ls hl => ?_)
    refine lv_iconst (v := (0 : Int32)) hx hb dX7_holesOfAll_21 (by decide) ?_
    refine lv_istore_n (lv' := [(2, .int (0 : Int32)), (1, .int y0), (0, .ref (aXm 0))]) hx hb dX7_holesOfAll_22 rfl hl (by decide) rfl (fun ls hl => ?_)
    exact j23 1000 Tn Yi y0 (0 : Int32) _ _ _ S (lv_sub hl [2, 1, 0] rfl) hF
  refine lv_aload_n hx hb dX7_holesOfAll_0 rfl (lv_at hl 0 rfl) ?_
  refine zs_get C hK S 0 4 (Cn := RX7) (T := TX7) (N := 10) (ci := 7) rfl rfl (by decide) zn_X7_holesOfAll_X7 (List.mem_of_getElem? (i := 1) rfl) rfl dX7_holesOfAll_1 ?_
  refine lv_aload_n hx hb dX7_holesOfAll_4 rfl (lv_at hl 0 rfl) ?_
  refine zs_get C hK S 0 3 (Cn := RX7) (T := TX7) (N := 10) (ci := 7) rfl rfl (by decide) zn_X7_holesOfAll_X7 (List.mem_of_getElem? (i := 2) rfl) rfl dX7_holesOfAll_5 ?_
  obtain ⟨r14, Tnw15, f16, hF⟩ := zs_b2S hF
  refine zs_calli (wr := wX7 G aXm aTx aRd aPr aSg aAh aIm0 aIm1 aYt aYr Xm tr ++ wX6 G aYt Yt) (ws' := wX7 G aXm aTx aRd aPr aSg aAh aIm0 aIm1 aYt aYr Xm tr ++ wX6 G aYt Yt ++ wX3 G aSg Sg ++ wX0 G aAh aTn aYi Ah ++ wX1 G aTn Tnw15 ++ wX6 G aYi Yi) S hA [14, 15, 16, 17, 18, 19, 20, 21, 22, 23, 24, 25, 26, 27, 10, 11, 12, 13] [0, 1, 2, 3, 4, 5, 6, 7, 8, 9] [0, 1, 2, 3, 4, 5, 6, 7, 8, 9, 24, 25, 26, 27, 10, 11, 12, 13, 14, 15, 16, 17, 18, 19, 20, 21, 22, 23] (zs_runV C hK hA S [.ref (aSg 0)] [] [14, 15, 16, 17, 18, 19, 20, 21, 22, 23, 24, 25, 26, 27, 10, 11, 12, 13] 14 1 (c_X0_allSeenIsSo l G aAh aTn aYi aSg Ah Tn Yi Sg s.heap.size r14 Tnw15 f16) gX7_holesOfAll_X0_allSeenIsSo rfl rfl rfl zd_X0_allSeenIsSo ⟨Nat.le_of_ble_eq_true rfl, Nat.le_of_ble_eq_true rfl⟩ rfl rfl rfl rfl rfl hl rfl (Nat.le_of_ble_eq_true rfl) dX7_holesOfAll_8 ⟨Nat.le_of_ble_eq_true rfl, Nat.le_of_ble_eq_true rfl⟩) rfl rfl rfl (by decide) rfl rfl (fun H locs S => ?_)
  refine lv_if_eq (tgt := 19) hx hb dX7_holesOfAll_11 (by decide) (fun c17 => ?_) (fun c17 => ?_)
  · have hF := zs_t hF c17
    refine lv_iconst (v := (0 : Int32)) hx hb dX7_holesOfAll_19 (by decide) ?_
    exact j20 Tnw15 Yi (0 : Int32) _ _ _ S (lv_sub hl [0] rfl) hF
  · have hF := zs_f hF c17
    refine lv_bipush (v := (64 : Int32)) hx hb dX7_holesOfAll_14 (by decide) ?_
    refine lv_goto (tgt := 20) hx hb dX7_holesOfAll_16 (by decide) ?_
    exact j20 Tnw15 Yi (64 : Int32) _ _ _ S (lv_sub hl [0] rfl) hF

theorem zd_X7_holesOfAll : yX7_holesOfAll.cls = RX7 ∧ yX7_holesOfAll.cls ≠ "java/lang/invoke/MethodHandle" ∧ yX7_holesOfAll.cls ≠ "java/lang/invoke/VarHandle" ∧ (parseMethodDescriptor yX7_holesOfAll.desc).map (fun d => d.parameters.length) = some 0 := by decide +kernel
abbrev RMX7_holes : Room := { frames := 6, cells := 0, slots := 0, locals := 139 }
theorem zn_X7_holes_X0 : ∀ w ∈ wsX00, w ∈ wsX7_holes := zs_inl wsX00 [98, 99, 100] (by decide +kernel)
theorem zn_X7_holes_X7 : ∀ w ∈ wsX70, w ∈ wsX7_holes := zs_inl wsX70 [88, 89, 90, 91, 92, 93, 94, 95, 96, 97] (by decide +kernel)
set_option maxRecDepth 100000 in
set_option maxHeartbeats 4000000 in
theorem c_X7_holes (l : Launch) (G : GG) (aXm aTx aRd aPr aSg aAh aIm0 aIm1 aYt aYr aTn aYi : Ad) (Xm : Ob) (tr : Int64) (Yt : Ob) (Sg : Ob) (Ah : Ob) (Tn : Ob) (Yi : Ob) (u1 : Int32) (sz : Nat) (rr : Int32) (Tn_ : Ob) (Yi_ : Ob) (hF : F_X7_holes Yt Sg Ah Tn Yi u1 = some (rr, (Tn_, Yi_))) : Met l yX7_holes wsX7_holes RMX7_holes (va_Pc [.ref (aXm 0), .int u1] (zs_pre G (wX7 G aXm aTx aRd aPr aSg aAh aIm0 aIm1 aYt aYr Xm tr ++ wX6 G aYt Yt ++ wX3 G aSg Sg ++ wX0 G aAh aTn aYi Ah ++ wX1 G aTn Tn ++ wX6 G aYi Yi) sz)) (zs_Qi G (wX7 G aXm aTx aRd aPr aSg aAh aIm0 aIm1 aYt aYr Xm tr ++ wX6 G aYt Yt ++ wX3 G aSg Sg ++ wX0 G aAh aTn aYi Ah ++ wX1 G aTn Tn_ ++ wX6 G aYi Yi_) rr (va_A (wX7 G aXm aTx aRd aPr aSg aAh aIm0 aIm1 aYt aYr Xm tr ++ wX6 G aYt Yt ++ wX3 G aSg Sg ++ wX0 G aAh aTn aYi Ah ++ wX1 G aTn Tn ++ wX6 G aYi Yi) sz)) 0 0 (va_A (wX7 G aXm aTx aRd aPr aSg aAh aIm0 aIm1 aYt aYr Xm tr ++ wX6 G aYt Yt ++ wX3 G aSg Sg ++ wX0 G aAh aTn aYi Ah ++ wX1 G aTn Tn ++ wX6 G aYi Yi) sz) := by
  refine zs_met (cc := cX7_holes) (maxL := 2) (ret := (some .int)) (own := RX7) (Qc := zs_Qi G (wX7 G aXm aTx aRd aPr aSg aAh aIm0 aIm1 aYt aYr Xm tr ++ wX6 G aYt Yt ++ wX3 G aSg Sg ++ wX0 G aAh aTn aYi Ah ++ wX1 G aTn Tn_ ++ wX6 G aYi Yi_) rr) (by decide) rfl rfl (Nat.le_of_ble_eq_true rfl) ?_
  intro p e s m args below meth c C A hK hA S _ _ ls hl
  have hl : lv_has ls 2 [(0, .ref (aXm 0)), (1, .int u1)] := hl
  have hx := C.1.1
  have hb := C.1.2.1
  unfold F_X7_holes at hF
  have j15 : ∀ (Tn : Ob) (Yi : Ob) (x1 : Int32) (H : Heap) (locs : List Loc) (ls : Array Slot), zs_S G A s.heap H locs (wX7 G aXm aTx aRd aPr aSg aAh aIm0 aIm1 aYt aYr Xm tr ++ wX6 G aYt Yt ++ wX3 G aSg Sg ++ wX0 G aAh aTn aYi Ah ++ wX1 G aTn Tn ++ wX6 G aYi Yi) → lv_has ls 2 [(0, .ref (aXm 0)), (1, .int x1)] → F_X7_holes_15 Yt Sg Ah Tn Yi x1 = some (rr, (Tn_, Yi_)) → W p l e RMX7_holes s m args below meth c H locs 0 0 (MQ below (zs_Qi G (wX7 G aXm aTx aRd aPr aSg aAh aIm0 aIm1 aYt aYr Xm tr ++ wX6 G aYt Yt ++ wX3 G aSg Sg ++ wX0 G aAh aTn aYi Ah ++ wX1 G aTn Tn_ ++ wX6 G aYi Yi_) rr A) args s 0 0 A) (F0 m 15 ls []) := by
    intro Tn Yi x1 H locs ls S hl hF
    unfold F_X7_holes_15 at hF
    refine lv_aload_n hx hb dX7_holes_15 rfl (lv_at hl 0 rfl) ?_
    refine zs_get C hK S 0 4 (Cn := RX7) (T := TX7) (N := 10) (ci := 7) rfl rfl (by decide) zn_X7_holes_X7 (List.mem_of_getElem? (i := 1) rfl) rfl dX7_holes_16 ?_
    refine zs_get C hK S 14 1 (Cn := RX0) (T := TX0) (N := 3) (ci := 0) rfl rfl (by decide) zn_X7_holes_X0 (List.mem_of_getElem? (i := 2) rfl) rfl dX7_holes_19 ?_
    refine lv_aload_n hx hb dX7_holes_22 rfl (lv_at hl 0 rfl) ?_
    refine zs_get C hK S 0 6 (Cn := RX7) (T := TX7) (N := 10) (ci := 7) rfl rfl (by decide) zn_X7_holes_X7 (List.mem_of_getElem? (i := 3) rfl) rfl dX7_holes_23 ?_
    obtain ⟨Yiw1, f2, hF⟩ := zs_bdS hF
    refine zs_callv (wr := wX7 G aXm aTx aRd aPr aSg aAh aIm0 aIm1 aYt aYr Xm tr ++ wX3 G aSg Sg ++ wX0 G aAh aTn aYi Ah ++ wX1 G aTn Tn) (ws' := wX7 G aXm aTx aRd aPr aSg aAh aIm0 aIm1 aYt aYr Xm tr ++ wX6 G aYt Yt ++ wX3 G aSg Sg ++ wX0 G aAh aTn aYi Ah ++ wX1 G aTn Tn ++ wX6 G aYi Yiw1) S hA [20, 21, 22, 23, 24, 25, 26, 27, 2, 3, 4, 5, 6, 7, 8, 9] [0, 1, 10, 11, 12, 13, 14, 15, 16, 17, 18, 19] [0, 1, 20, 21, 22, 23, 24, 25, 26, 27, 2, 3, 4, 5, 6, 7, 8, 9, 10, 11, 12, 13, 14, 15, 16, 17, 18, 19] (zs_runV C hK hA S [.ref (aYt 0)] [] [20, 21, 22, 23, 24, 25, 26, 27, 2, 3, 4, 5, 6, 7, 8, 9] 20 1 (c_X6_copy l G aYi aYt Yi Yt H.size Yiw1 f2) gX7_holes_X6_copy rfl rfl rfl zd_X6_copy ⟨Nat.le_of_ble_eq_true rfl, Nat.le_of_ble_eq_true rfl⟩ rfl rfl rfl rfl rfl hl rfl (Nat.le_of_ble_eq_true rfl) dX7_holes_26 ⟨Nat.le_of_ble_eq_true rfl, Nat.le_of_ble_eq_true rfl⟩) rfl rfl rfl (by decide) rfl rfl (fun H locs S => ?_)
    refine lv_iload_n hx hb dX7_holes_29 rfl (lv_at hl 1 rfl) ?_
    refine lv_iconst (v := (-1 : Int32)) hx hb dX7_holes_30 (by decide) ?_
    refine lv_icmp_ne (tgt := 41) hx hb dX7_holes_31 (by decide) (fun c3 => ?_) (fun c3 => ?_)
    · have hF := zs_f hF c3
      refine lv_aload_n hx hb dX7_holes_41 rfl (lv_at hl 0 rfl) ?_
      refine lv_iload_n hx hb dX7_holes_42 rfl (lv_at hl 1 rfl) ?_
      obtain ⟨r4, Tnw5, Yiw6, f7, hF⟩ := zs_b3S hF
      refine zs_calli (wr := ([] : va_W)) (ws' := wX7 G aXm aTx aRd aPr aSg aAh aIm0 aIm1 aYt aYr Xm tr ++ wX6 G aYt Yt ++ wX3 G aSg Sg ++ wX0 G aAh aTn aYi Ah ++ wX1 G aTn Tnw5 ++ wX6 G aYi Yiw6) S hA [0, 1, 2, 3, 4, 5, 6, 7, 8, 9, 10, 11, 12, 13, 14, 15, 16, 17, 18, 19, 20, 21, 22, 23, 24, 25, 26, 27] [] [0, 1, 2, 3, 4, 5, 6, 7, 8, 9, 10, 11, 12, 13, 14, 15, 16, 17, 18, 19, 20, 21, 22, 23, 24, 25, 26, 27] (zs_runV C hK hA S [.int x1] [] [0, 1, 2, 3, 4, 5, 6, 7, 8, 9, 10, 11, 12, 13, 14, 15, 16, 17, 18, 19, 20, 21, 22, 23, 24, 25, 26, 27] 0 1 (c_X7_holeRate l G aXm aTx aRd aPr aSg aAh aIm0 aIm1 aYt aYr aTn aYi Xm tr Yt Sg Ah Tn Yiw1 x1 H.size r4 Tnw5 Yiw6 f7) gX7_holes_X7_holeRate rfl rfl rfl zd_X7_holeRate ⟨Nat.le_of_ble_eq_true rfl, Nat.le_of_ble_eq_true rfl⟩ rfl rfl rfl rfl rfl hl rfl (Nat.le_of_ble_eq_true rfl) dX7_holes_43 ⟨Nat.le_of_ble_eq_true rfl, Nat.le_of_ble_eq_true rfl⟩) rfl rfl rfl (by decide) rfl rfl (fun H locs S => ?_)
      obtain ⟨e8, e9, e10⟩ := zs_s3 hF
      exact zs_iretE C S e8 (by rw [e9, e10]) dX7_holes_46
    · have hF := zs_t hF c3
      refine lv_aload_n hx hb dX7_holes_34 rfl (lv_at hl 0 rfl) ?_
      obtain ⟨r11, Tnw12, Yiw13, f14, hF⟩ := zs_b3S hF
      refine zs_calli (wr := ([] : va_W)) (ws' := wX7 G aXm aTx aRd aPr aSg aAh aIm0 aIm1 aYt aYr Xm tr ++ wX6 G aYt Yt ++ wX3 G aSg Sg ++ wX0 G aAh aTn aYi Ah ++ wX1 G aTn Tnw12 ++ wX6 G aYi Yiw13) S hA [0, 1, 2, 3, 4, 5, 6, 7, 8, 9, 10, 11, 12, 13, 14, 15, 16, 17, 18, 19, 20, 21, 22, 23, 24, 25, 26, 27] [] [0, 1, 2, 3, 4, 5, 6, 7, 8, 9, 10, 11, 12, 13, 14, 15, 16, 17, 18, 19, 20, 21, 22, 23, 24, 25, 26, 27] (zs_runV C hK hA S [] [] [0, 1, 2, 3, 4, 5, 6, 7, 8, 9, 10, 11, 12, 13, 14, 15, 16, 17, 18, 19, 20, 21, 22, 23, 24, 25, 26, 27] 0 0 (c_X7_holesOfAll l G aXm aTx aRd aPr aSg aAh aIm0 aIm1 aYt aYr aTn aYi Xm tr Yt Sg Ah Tn Yiw1 H.size r11 Tnw12 Yiw13 f14) gX7_holes_X7_holesOfAll rfl rfl rfl zd_X7_holesOfAll ⟨Nat.le_of_ble_eq_true rfl, Nat.le_of_ble_eq_true rfl⟩ rfl rfl rfl rfl rfl hl rfl (Nat.le_of_ble_eq_true rfl) dX7_holes_35 ⟨Nat.le_of_ble_eq_true rfl, Nat.le_of_ble_eq_true rfl⟩) rfl rfl rfl (by decide) rfl rfl (fun H locs S => ?_)
      refine lv_goto (tgt := 46) hx hb dX7_holes_38 (by decide) ?_
      obtain ⟨e15, e16, e17⟩ := zs_s3 hF
      exact zs_iretE C S e15 (by rw [e16, e17]) dX7_holes_46
  refine lv_iload_n hx hb dX7_holes_0 rfl (lv_at hl 1 rfl) ?_
  refine lv_iconst (v := (-1 : Int32)) hx hb dX7_holes_1 (by decide) ?_
  refine lv_icmp_eq (tgt := 15) hx hb dX7_holes_2 (by decide) (fun c18 => ?_) (fun c18 => ?_)
  · have hF := zs_t hF c18
    exact j15 Tn Yi u1 _ _ _ S (lv_sub hl [0, 1] rfl) hF
  · have hF := zs_f hF c18
    refine lv_aload_n hx hb dX7_holes_5 rfl (lv_at hl 0 rfl) ?_
    refine lv_iload_n hx hb dX7_holes_6 rfl (lv_at hl 1 rfl) ?_
    obtain ⟨r19, f20, hF⟩ := zs_bdS hF
    refine zs_calli (wr := wX3 G aSg Sg ++ wX0 G aAh aTn aYi Ah ++ wX1 G aTn Tn ++ wX6 G aYi Yi) (ws' := wX7 G aXm aTx aRd aPr aSg aAh aIm0 aIm1 aYt aYr Xm tr ++ wX6 G aYt Yt ++ wX3 G aSg Sg ++ wX0 G aAh aTn aYi Ah ++ wX1 G aTn Tn ++ wX6 G aYi Yi) S hA [0, 1, 2, 3, 4, 5, 6, 7, 8, 9] [10, 11, 12, 13, 14, 15, 16, 17, 18, 19, 20, 21, 22, 23, 24, 25, 26, 27] [18, 19, 20, 21, 22, 23, 24, 25, 26, 27, 0, 1, 2, 3, 4, 5, 6, 7, 8, 9, 10, 11, 12, 13, 14, 15, 16, 17] (zs_runV C hK hA S [.int u1] [] [0, 1, 2, 3, 4, 5, 6, 7, 8, 9] 0 1 (c_X7_isWall l G aXm aTx aRd aPr aSg aAh aIm0 aIm1 aYt aYr Xm tr Yt u1 s.heap.size r19 f20) gX7_holes_X7_isWall rfl rfl rfl zd_X7_isWall ⟨Nat.le_of_ble_eq_true rfl, Nat.le_of_ble_eq_true rfl⟩ rfl rfl rfl rfl rfl hl rfl (Nat.le_of_ble_eq_true rfl) dX7_holes_7 ⟨Nat.le_of_ble_eq_true rfl, Nat.le_of_ble_eq_true rfl⟩) rfl rfl rfl (by decide) rfl rfl (fun H locs S => ?_)
    refine lv_if_ne (tgt := 15) hx hb dX7_holes_10 (by decide) (fun c21 => ?_) (fun c21 => ?_)
    · have hF := zs_f hF c21
      exact j15 Tn Yi u1 _ _ _ S (lv_sub hl [0, 1] rfl) hF
    · have hF := zs_t hF c21
      refine lv_iconst (v := (-1 : Int32)) hx hb dX7_holes_13 (by decide) ?_
      obtain ⟨e22, e23, e24⟩ := zs_s3 hF
      exact zs_iretE C S e22 (by rw [e23, e24]) dX7_holes_14

abbrev RMX7_markOfWall : Room := { frames := 0, cells := 0, slots := 0, locals := 0 }
theorem zn_X7_markOfWall_X1 : ∀ w ∈ wsX10, w ∈ wsX7_markOfWall := zs_inl wsX10 [14, 15, 16, 17, 18, 19, 20, 21] (by decide +kernel)
theorem zn_X7_markOfWall_X7 : ∀ w ∈ wsX70, w ∈ wsX7_markOfWall := zs_inl wsX70 [4, 5, 6, 7, 8, 9, 10, 11, 12, 13] (by decide +kernel)
set_option maxRecDepth 100000 in
set_option maxHeartbeats 4000000 in
theorem c_X7_markOfWall (l : Launch) (G : GG) (aXm aTx aRd aPr aSg aAh aIm0 aIm1 aYt aYr : Ad) (Xm : Ob) (tr : Int64) (Pr : Ob) (Yt : Ob) (u1 : Int32) (sz : Nat) (rr : Int32) (tr_ : Int64) (hF : F_X7_markOfWall tr Pr Yt u1 = some (rr, tr_)) : Met l yX7_markOfWall wsX7_markOfWall RMX7_markOfWall (va_Pc [.ref (aXm 0), .int u1] (zs_pre G (wX7 G aXm aTx aRd aPr aSg aAh aIm0 aIm1 aYt aYr Xm tr ++ wX1 G aPr Pr ++ wX6 G aYt Yt) sz)) (zs_Qi G (wX7 G aXm aTx aRd aPr aSg aAh aIm0 aIm1 aYt aYr Xm tr_ ++ wX1 G aPr Pr ++ wX6 G aYt Yt) rr (va_A (wX7 G aXm aTx aRd aPr aSg aAh aIm0 aIm1 aYt aYr Xm tr ++ wX1 G aPr Pr ++ wX6 G aYt Yt) sz)) 0 0 (va_A (wX7 G aXm aTx aRd aPr aSg aAh aIm0 aIm1 aYt aYr Xm tr ++ wX1 G aPr Pr ++ wX6 G aYt Yt) sz) := by
  refine zs_met (cc := cX7_markOfWall) (maxL := 2) (ret := (some .int)) (own := RX7) (Qc := zs_Qi G (wX7 G aXm aTx aRd aPr aSg aAh aIm0 aIm1 aYt aYr Xm tr_ ++ wX1 G aPr Pr ++ wX6 G aYt Yt) rr) (by decide) rfl rfl (Nat.le_of_ble_eq_true rfl) ?_
  intro p e s m args below meth c C A hK hA S _ _ ls hl
  have hl : lv_has ls 2 [(0, .ref (aXm 0)), (1, .int u1)] := hl
  have hx := C.1.1
  have hb := C.1.2.1
  unfold F_X7_markOfWall at hF
  refine lv_aload_n hx hb dX7_markOfWall_0 rfl (lv_at hl 0 rfl) ?_
  refine lv_dup hx hb dX7_markOfWall_1 rfl ?_
  refine zs_get C hK S 0 9 (Cn := RX7) (T := TX7) (N := 10) (ci := 7) rfl rfl (by decide) zn_X7_markOfWall_X7 (List.mem_of_getElem? (i := 1) rfl) rfl dX7_markOfWall_2 ?_
  refine lv_lconst (v := (1 : Int64)) hx hb dX7_markOfWall_5 rfl ?_
  refine lv_ladd hx hb dX7_markOfWall_6 ?_
  obtain ⟨trw1, e2⟩ : ∃ q : Int64, q = (tr + (1 : Int64)) := ⟨_, rfl⟩
  have hF := zs_letS hF e2
  refine zs_put C hK S 0 9 (ws' := wX7 G aXm aTx aRd aPr aSg aAh aIm0 aIm1 aYt aYr Xm trw1 ++ wX1 G aPr Pr ++ wX6 G aYt Yt) (Cn := RX7) (T := TX7) (N := 10) (ci := 7) rfl rfl (by decide) zn_X7_markOfWall_X7 tyX7_ok nmX7 (List.mem_of_getElem? (i := 1) rfl) rfl rfl rfl (Nat.le_of_ble_eq_true rfl) (by rw [e2]; rfl) dX7_markOfWall_7 (fun H locs S => ?_)
  refine lv_aload_n hx hb dX7_markOfWall_10 rfl (lv_at hl 0 rfl) ?_
  refine zs_get C hK S 0 2 (Cn := RX7) (T := TX7) (N := 10) (ci := 7) rfl rfl (by decide) zn_X7_markOfWall_X7 (List.mem_of_getElem? (i := 2) rfl) rfl dX7_markOfWall_11 ?_
  refine zs_get C hK S 2 5 (Cn := RX1) (T := TX1) (N := 8) (ci := 1) rfl rfl (by decide) zn_X7_markOfWall_X1 (List.mem_of_getElem? (i := 3) rfl) rfl dX7_markOfWall_14 ?_
  refine lv_iload_n hx hb dX7_markOfWall_17 rfl (lv_at hl 1 rfl) ?_
  obtain ⟨h3, hF⟩ := zs_ckS hF
  refine zs_iald C hK S 3 rfl h3 dX7_markOfWall_18 ?_
  obtain ⟨e4, e5⟩ := zs_s2 hF
  exact zs_iretE C S e4 (by rw [e5]) dX7_markOfWall_19

theorem zd_X7_markOfWall : yX7_markOfWall.cls = RX7 ∧ yX7_markOfWall.cls ≠ "java/lang/invoke/MethodHandle" ∧ yX7_markOfWall.cls ≠ "java/lang/invoke/VarHandle" ∧ (parseMethodDescriptor yX7_markOfWall.desc).map (fun d => d.parameters.length) = some 1 := by decide +kernel
abbrev RMX7_markOfFin : Room := { frames := 1, cells := 0, slots := 0, locals := 21 }
theorem zn_X7_markOfFin_X6 : ∀ w ∈ wsX60, w ∈ wsX7_markOfFin := zs_inl wsX60 [22, 23, 24, 25, 26, 27, 28, 29, 30] (by decide +kernel)
theorem zn_X7_markOfFin_X7 : ∀ w ∈ wsX70, w ∈ wsX7_markOfFin := zs_inl wsX70 [12, 13, 14, 15, 16, 17, 18, 19, 20, 21] (by decide +kernel)
set_option maxRecDepth 100000 in
set_option maxHeartbeats 4000000 in
theorem c_X7_markOfFin (l : Launch) (G : GG) (aXm aTx aRd aPr aSg aAh aIm0 aIm1 aYt aYr : Ad) (Xm : Ob) (tr : Int64) (Pr : Ob) (Yt : Ob) (u1 : Int32) (sz : Nat) (rr : Int32) (tr_ : Int64) (hF : F_X7_markOfFin tr Pr Yt u1 = some (rr, tr_)) : Met l yX7_markOfFin wsX7_markOfFin RMX7_markOfFin (va_Pc [.ref (aXm 0), .int u1] (zs_pre G (wX7 G aXm aTx aRd aPr aSg aAh aIm0 aIm1 aYt aYr Xm tr ++ wX1 G aPr Pr ++ wX6 G aYt Yt) sz)) (zs_Qi G (wX7 G aXm aTx aRd aPr aSg aAh aIm0 aIm1 aYt aYr Xm tr_ ++ wX1 G aPr Pr ++ wX6 G aYt Yt) rr (va_A (wX7 G aXm aTx aRd aPr aSg aAh aIm0 aIm1 aYt aYr Xm tr ++ wX1 G aPr Pr ++ wX6 G aYt Yt) sz)) 0 0 (va_A (wX7 G aXm aTx aRd aPr aSg aAh aIm0 aIm1 aYt aYr Xm tr ++ wX1 G aPr Pr ++ wX6 G aYt Yt) sz) := by
  refine zs_met (cc := cX7_markOfFin) (maxL := 2) (ret := (some .int)) (own := RX7) (Qc := zs_Qi G (wX7 G aXm aTx aRd aPr aSg aAh aIm0 aIm1 aYt aYr Xm tr_ ++ wX1 G aPr Pr ++ wX6 G aYt Yt) rr) (by decide) rfl rfl (Nat.le_of_ble_eq_true rfl) ?_
  intro p e s m args below meth c C A hK hA S _ _ ls hl
  have hl : lv_has ls 2 [(0, .ref (aXm 0)), (1, .int u1)] := hl
  have hx := C.1.1
  have hb := C.1.2.1
  unfold F_X7_markOfFin at hF
  refine lv_aload_n hx hb dX7_markOfFin_0 rfl (lv_at hl 0 rfl) ?_
  refine lv_dup hx hb dX7_markOfFin_1 rfl ?_
  refine zs_get C hK S 0 9 (Cn := RX7) (T := TX7) (N := 10) (ci := 7) rfl rfl (by decide) zn_X7_markOfFin_X7 (List.mem_of_getElem? (i := 1) rfl) rfl dX7_markOfFin_2 ?_
  refine lv_ldc2 (v := (10 : Int64)) hx hb C.1.2.2.2.1 (C.1.2.2.2.2 (.constantLong RX7 256 (10 : Int64)) (List.mem_of_getElem? (i := 2) rfl)) dX7_markOfFin_5 ?_
  refine lv_ladd hx hb dX7_markOfFin_8 ?_
  obtain ⟨trw1, e2⟩ : ∃ q : Int64, q = (tr + (10 : Int64)) := ⟨_, rfl⟩
  have hF := zs_letS hF e2
  refine zs_put C hK S 0 9 (ws' := wX7 G aXm aTx aRd aPr aSg aAh aIm0 aIm1 aYt aYr Xm trw1 ++ wX1 G aPr Pr ++ wX6 G aYt Yt) (Cn := RX7) (T := TX7) (N := 10) (ci := 7) rfl rfl (by decide) zn_X7_markOfFin_X7 tyX7_ok nmX7 (List.mem_of_getElem? (i := 1) rfl) rfl rfl rfl (Nat.le_of_ble_eq_true rfl) (by rw [e2]; rfl) dX7_markOfFin_9 (fun H locs S => ?_)
  refine lv_aload_n hx hb dX7_markOfFin_12 rfl (lv_at hl 0 rfl) ?_
  refine lv_iload_n hx hb dX7_markOfFin_13 rfl (lv_at hl 1 rfl) ?_
  obtain ⟨r3, trw4, f5, hF⟩ := zs_b2S hF
  refine zs_calli (wr := ([] : va_W)) (ws' := wX7 G aXm aTx aRd aPr aSg aAh aIm0 aIm1 aYt aYr Xm trw4 ++ wX1 G aPr Pr ++ wX6 G aYt Yt) S hA [0, 1, 2, 3, 4, 5, 6, 7, 8, 9, 10, 11, 12, 13] [] [0, 1, 2, 3, 4, 5, 6, 7, 8, 9, 10, 11, 12, 13] (zs_runV C hK hA S [.int u1] [] [0, 1, 2, 3, 4, 5, 6, 7, 8, 9, 10, 11, 12, 13] 0 1 (c_X7_markOfWall l G aXm aTx aRd aPr aSg aAh aIm0 aIm1 aYt aYr Xm trw1 Pr Yt u1 H.size r3 trw4 f5) gX7_markOfFin_X7_markOfWall rfl rfl rfl zd_X7_markOfWall ⟨Nat.le_of_ble_eq_true rfl, Nat.le_of_ble_eq_true rfl⟩ rfl rfl rfl rfl rfl hl rfl (Nat.le_of_ble_eq_true rfl) dX7_markOfFin_14 ⟨Nat.le_of_ble_eq_true rfl, Nat.le_of_ble_eq_true rfl⟩) rfl rfl rfl (by decide) rfl rfl (fun H locs S => ?_)
  refine lv_aload_n hx hb dX7_markOfFin_17 rfl (lv_at hl 0 rfl) ?_
  refine zs_get C hK S 0 6 (Cn := RX7) (T := TX7) (N := 10) (ci := 7) rfl rfl (by decide) zn_X7_markOfFin_X7 (List.mem_of_getElem? (i := 3) rfl) rfl dX7_markOfFin_18 ?_
  refine zs_get C hK S 6 3 (Cn := RX6) (T := TX6) (N := 9) (ci := 6) rfl rfl (by decide) zn_X7_markOfFin_X6 (List.mem_of_getElem? (i := 4) rfl) rfl dX7_markOfFin_21 ?_
  refine lv_iload_n hx hb dX7_markOfFin_24 rfl (lv_at hl 1 rfl) ?_
  obtain ⟨h6, hF⟩ := zs_ckS hF
  refine zs_iald C hK S 8 rfl h6 dX7_markOfFin_25 ?_
  refine lv_iadd hx hb dX7_markOfFin_26 ?_
  obtain ⟨e7, e8⟩ := zs_s2 hF
  exact zs_iretE C S e7 (by rw [e8]) dX7_markOfFin_27

abbrev RMX7_markOfBrick : Room := { frames := 1, cells := 0, slots := 0, locals := 21 }
theorem zn_X7_markOfBrick_X7 : ∀ w ∈ wsX70, w ∈ wsX7_markOfBrick := zs_inl wsX70 [17, 18, 19, 20, 21, 22, 23, 24, 25, 26] (by decide +kernel)
set_option maxRecDepth 100000 in
set_option maxHeartbeats 4000000 in
theorem c_X7_markOfBrick (l : Launch) (G : GG) (aXm aTx aRd aPr aSg aAh aIm0 aIm1 aYt aYr : Ad) (Xm : Ob) (tr : Int64) (Pr : Ob) (Yt : Ob) (u1 : Int32) (sz : Nat) (rr : Int32) (tr_ : Int64) (hF : F_X7_markOfBrick tr Pr Yt u1 = some (rr, tr_)) : Met l yX7_markOfBrick wsX7_markOfBrick RMX7_markOfBrick (va_Pc [.ref (aXm 0), .int u1] (zs_pre G (wX7 G aXm aTx aRd aPr aSg aAh aIm0 aIm1 aYt aYr Xm tr ++ wX1 G aPr Pr ++ wX6 G aYt Yt) sz)) (zs_Qi G (wX7 G aXm aTx aRd aPr aSg aAh aIm0 aIm1 aYt aYr Xm tr_ ++ wX1 G aPr Pr ++ wX6 G aYt Yt) rr (va_A (wX7 G aXm aTx aRd aPr aSg aAh aIm0 aIm1 aYt aYr Xm tr ++ wX1 G aPr Pr ++ wX6 G aYt Yt) sz)) 0 0 (va_A (wX7 G aXm aTx aRd aPr aSg aAh aIm0 aIm1 aYt aYr Xm tr ++ wX1 G aPr Pr ++ wX6 G aYt Yt) sz) := by
  refine zs_met (cc := cX7_markOfBrick) (maxL := 2) (ret := (some .int)) (own := RX7) (Qc := zs_Qi G (wX7 G aXm aTx aRd aPr aSg aAh aIm0 aIm1 aYt aYr Xm tr_ ++ wX1 G aPr Pr ++ wX6 G aYt Yt) rr) (by decide) rfl rfl (Nat.le_of_ble_eq_true rfl) ?_
  intro p e s m args below meth c C A hK hA S _ _ ls hl
  have hl : lv_has ls 2 [(0, .ref (aXm 0)), (1, .int u1)] := hl
  have hx := C.1.1
  have hb := C.1.2.1
  unfold F_X7_markOfBrick at hF
  refine lv_aload_n hx hb dX7_markOfBrick_0 rfl (lv_at hl 0 rfl) ?_
  refine lv_dup hx hb dX7_markOfBrick_1 rfl ?_
  refine zs_get C hK S 0 9 (Cn := RX7) (T := TX7) (N := 10) (ci := 7) rfl rfl (by decide) zn_X7_markOfBrick_X7 (List.mem_of_getElem? (i := 1) rfl) rfl dX7_markOfBrick_2 ?_
  refine lv_ldc2 (v := (100 : Int64)) hx hb C.1.2.2.2.1 (C.1.2.2.2.2 (.constantLong RX7 258 (100 : Int64)) (List.mem_of_getElem? (i := 2) rfl)) dX7_markOfBrick_5 ?_
  refine lv_ladd hx hb dX7_markOfBrick_8 ?_
  obtain ⟨trw1, e2⟩ : ∃ q : Int64, q = (tr + (100 : Int64)) := ⟨_, rfl⟩
  have hF := zs_letS hF e2
  refine zs_put C hK S 0 9 (ws' := wX7 G aXm aTx aRd aPr aSg aAh aIm0 aIm1 aYt aYr Xm trw1 ++ wX1 G aPr Pr ++ wX6 G aYt Yt) (Cn := RX7) (T := TX7) (N := 10) (ci := 7) rfl rfl (by decide) zn_X7_markOfBrick_X7 tyX7_ok nmX7 (List.mem_of_getElem? (i := 1) rfl) rfl rfl rfl (Nat.le_of_ble_eq_true rfl) (by rw [e2]; rfl) dX7_markOfBrick_9 (fun H locs S => ?_)
  refine lv_aload_n hx hb dX7_markOfBrick_12 rfl (lv_at hl 0 rfl) ?_
  refine lv_iload_n hx hb dX7_markOfBrick_13 rfl (lv_at hl 1 rfl) ?_
  obtain ⟨r3, trw4, f5, hF⟩ := zs_b2S hF
  refine zs_calli (wr := ([] : va_W)) (ws' := wX7 G aXm aTx aRd aPr aSg aAh aIm0 aIm1 aYt aYr Xm trw4 ++ wX1 G aPr Pr ++ wX6 G aYt Yt) S hA [0, 1, 2, 3, 4, 5, 6, 7, 8, 9, 10, 11, 12, 13] [] [0, 1, 2, 3, 4, 5, 6, 7, 8, 9, 10, 11, 12, 13] (zs_runV C hK hA S [.int u1] [] [0, 1, 2, 3, 4, 5, 6, 7, 8, 9, 10, 11, 12, 13] 0 1 (c_X7_markOfWall l G aXm aTx aRd aPr aSg aAh aIm0 aIm1 aYt aYr Xm trw1 Pr Yt u1 H.size r3 trw4 f5) gX7_markOfBrick_X7_markOfWall rfl rfl rfl zd_X7_markOfWall ⟨Nat.le_of_ble_eq_true rfl, Nat.le_of_ble_eq_true rfl⟩ rfl rfl rfl rfl rfl hl rfl (Nat.le_of_ble_eq_true rfl) dX7_markOfBrick_14 ⟨Nat.le_of_ble_eq_true rfl, Nat.le_of_ble_eq_true rfl⟩) rfl rfl rfl (by decide) rfl rfl (fun H locs S => ?_)
  refine lv_aload_n hx hb dX7_markOfBrick_17 rfl (lv_at hl 0 rfl) ?_
  refine zs_get C hK S 0 6 (Cn := RX7) (T := TX7) (N := 10) (ci := 7) rfl rfl (by decide) zn_X7_markOfBrick_X7 (List.mem_of_getElem? (i := 3) rfl) rfl dX7_markOfBrick_18 ?_
  refine lv_iload_n hx hb dX7_markOfBrick_21 rfl (lv_at hl 1 rfl) ?_
  obtain ⟨r6, f7, hF⟩ := zs_bdS hF
  refine zs_calli (wr := wX7 G aXm aTx aRd aPr aSg aAh aIm0 aIm1 aYt aYr Xm trw4 ++ wX1 G aPr Pr) (ws' := wX7 G aXm aTx aRd aPr aSg aAh aIm0 aIm1 aYt aYr Xm trw4 ++ wX1 G aPr Pr ++ wX6 G aYt Yt) S hA [6, 7, 8, 9, 10, 11, 12, 13] [0, 1, 2, 3, 4, 5] [0, 1, 2, 3, 4, 5, 6, 7, 8, 9, 10, 11, 12, 13] (zs_runV C hK hA S [.int u1] [.int r3] [6, 7, 8, 9, 10, 11, 12, 13] 6 1 (c_X6_dark l G aYt Yt u1 H.size r6 f7) gX7_markOfBrick_X6_dark rfl rfl rfl zd_X6_dark ⟨Nat.le_of_ble_eq_true rfl, Nat.le_of_ble_eq_true rfl⟩ rfl rfl rfl rfl rfl hl rfl (Nat.le_of_ble_eq_true rfl) dX7_markOfBrick_22 ⟨Nat.le_of_ble_eq_true rfl, Nat.le_of_ble_eq_true rfl⟩) rfl rfl rfl (by decide) rfl rfl (fun H locs S => ?_)
  refine lv_isub hx hb dX7_markOfBrick_25 ?_
  obtain ⟨e8, e9⟩ := zs_s2 hF
  exact zs_iretE C S e8 (by rw [e9]) dX7_markOfBrick_26

theorem zd_X7_markOfFin : yX7_markOfFin.cls = RX7 ∧ yX7_markOfFin.cls ≠ "java/lang/invoke/MethodHandle" ∧ yX7_markOfFin.cls ≠ "java/lang/invoke/VarHandle" ∧ (parseMethodDescriptor yX7_markOfFin.desc).map (fun d => d.parameters.length) = some 1 := by decide +kernel
abbrev RMX7_markOfFurnace : Room := { frames := 2, cells := 0, slots := 0, locals := 42 }
theorem zn_X7_markOfFurnace_X7 : ∀ w ∈ wsX70, w ∈ wsX7_markOfFurnace := zs_inl wsX70 [17, 18, 19, 20, 21, 22, 23, 24, 25, 26] (by decide +kernel)
set_option maxRecDepth 100000 in
set_option maxHeartbeats 4000000 in
theorem c_X7_markOfFurnace (l : Launch) (G : GG) (aXm aTx aRd aPr aSg aAh aIm0 aIm1 aYt aYr : Ad) (Xm : Ob) (tr : Int64) (Pr : Ob) (Yt : Ob) (u1 : Int32) (sz : Nat) (rr : Int32) (tr_ : Int64) (hF : F_X7_markOfFurnace tr Pr Yt u1 = some (rr, tr_)) : Met l yX7_markOfFurnace wsX7_markOfFurnace RMX7_markOfFurnace (va_Pc [.ref (aXm 0), .int u1] (zs_pre G (wX7 G aXm aTx aRd aPr aSg aAh aIm0 aIm1 aYt aYr Xm tr ++ wX1 G aPr Pr ++ wX6 G aYt Yt) sz)) (zs_Qi G (wX7 G aXm aTx aRd aPr aSg aAh aIm0 aIm1 aYt aYr Xm tr_ ++ wX1 G aPr Pr ++ wX6 G aYt Yt) rr (va_A (wX7 G aXm aTx aRd aPr aSg aAh aIm0 aIm1 aYt aYr Xm tr ++ wX1 G aPr Pr ++ wX6 G aYt Yt) sz)) 0 0 (va_A (wX7 G aXm aTx aRd aPr aSg aAh aIm0 aIm1 aYt aYr Xm tr ++ wX1 G aPr Pr ++ wX6 G aYt Yt) sz) := by
  refine zs_met (cc := cX7_markOfFurnace) (maxL := 2) (ret := (some .int)) (own := RX7) (Qc := zs_Qi G (wX7 G aXm aTx aRd aPr aSg aAh aIm0 aIm1 aYt aYr Xm tr_ ++ wX1 G aPr Pr ++ wX6 G aYt Yt) rr) (by decide) rfl rfl (Nat.le_of_ble_eq_true rfl) ?_
  intro p e s m args below meth c C A hK hA S _ _ ls hl
  have hl : lv_has ls 2 [(0, .ref (aXm 0)), (1, .int u1)] := hl
  have hx := C.1.1
  have hb := C.1.2.1
  unfold F_X7_markOfFurnace at hF
  refine lv_aload_n hx hb dX7_markOfFurnace_0 rfl (lv_at hl 0 rfl) ?_
  refine lv_dup hx hb dX7_markOfFurnace_1 rfl ?_
  refine zs_get C hK S 0 9 (Cn := RX7) (T := TX7) (N := 10) (ci := 7) rfl rfl (by decide) zn_X7_markOfFurnace_X7 (List.mem_of_getElem? (i := 1) rfl) rfl dX7_markOfFurnace_2 ?_
  refine lv_ldc2 (v := (1000 : Int64)) hx hb C.1.2.2.2.1 (C.1.2.2.2.2 (.constantLong RX7 260 (1000 : Int64)) (List.mem_of_getElem? (i := 2) rfl)) dX7_markOfFurnace_5 ?_
  refine lv_ladd hx hb dX7_markOfFurnace_8 ?_
  obtain ⟨trw1, e2⟩ : ∃ q : Int64, q = (tr + (1000 : Int64)) := ⟨_, rfl⟩
  have hF := zs_letS hF e2
  refine zs_put C hK S 0 9 (ws' := wX7 G aXm aTx aRd aPr aSg aAh aIm0 aIm1 aYt aYr Xm trw1 ++ wX1 G aPr Pr ++ wX6 G aYt Yt) (Cn := RX7) (T := TX7) (N := 10) (ci := 7) rfl rfl (by decide) zn_X7_markOfFurnace_X7 tyX7_ok nmX7 (List.mem_of_getElem? (i := 1) rfl) rfl rfl rfl (Nat.le_of_ble_eq_true rfl) (by rw [e2]; rfl) dX7_markOfFurnace_9 (fun H locs S => ?_)
  refine lv_aload_n hx hb dX7_markOfFurnace_12 rfl (lv_at hl 0 rfl) ?_
  refine lv_iload_n hx hb dX7_markOfFurnace_13 rfl (lv_at hl 1 rfl) ?_
  obtain ⟨r3, trw4, f5, hF⟩ := zs_b2S hF
  refine zs_calli (wr := ([] : va_W)) (ws' := wX7 G aXm aTx aRd aPr aSg aAh aIm0 aIm1 aYt aYr Xm trw4 ++ wX1 G aPr Pr ++ wX6 G aYt Yt) S hA [0, 1, 2, 3, 4, 5, 6, 7, 8, 9, 10, 11, 12, 13] [] [0, 1, 2, 3, 4, 5, 6, 7, 8, 9, 10, 11, 12, 13] (zs_runV C hK hA S [.int u1] [] [0, 1, 2, 3, 4, 5, 6, 7, 8, 9, 10, 11, 12, 13] 0 1 (c_X7_markOfFin l G aXm aTx aRd aPr aSg aAh aIm0 aIm1 aYt aYr Xm trw1 Pr Yt u1 H.size r3 trw4 f5) gX7_markOfFurnace_X7_markOfFin rfl rfl rfl zd_X7_markOfFin ⟨Nat.le_of_ble_eq_true rfl, Nat.le_of_ble_eq_true rfl⟩ rfl rfl rfl rfl rfl hl rfl (Nat.le_of_ble_eq_true rfl) dX7_markOfFurnace_14 ⟨Nat.le_of_ble_eq_true rfl, Nat.le_of_ble_eq_true rfl⟩) rfl rfl rfl (by decide) rfl rfl (fun H locs S => ?_)
  refine lv_iconst (v := (2 : Int32)) hx hb dX7_markOfFurnace_17 (by decide) ?_
  refine lv_imul hx hb dX7_markOfFurnace_18 ?_
  obtain ⟨e6, e7⟩ := zs_s2 hF
  exact zs_iretE C S e6 (by rw [e7]) dX7_markOfFurnace_19

theorem zd_X7_markOfBrick : yX7_markOfBrick.cls = RX7 ∧ yX7_markOfBrick.cls ≠ "java/lang/invoke/MethodHandle" ∧ yX7_markOfBrick.cls ≠ "java/lang/invoke/VarHandle" ∧ (parseMethodDescriptor yX7_markOfBrick.desc).map (fun d => d.parameters.length) = some 1 := by decide +kernel
abbrev RMX7_markOfWindow : Room := { frames := 2, cells := 0, slots := 0, locals := 42 }
theorem zn_X7_markOfWindow_X7 : ∀ w ∈ wsX70, w ∈ wsX7_markOfWindow := zs_inl wsX70 [22, 23, 24, 25, 26, 27, 28, 29, 30, 31] (by decide +kernel)
set_option maxRecDepth 100000 in
set_option maxHeartbeats 4000000 in
theorem c_X7_markOfWindow (l : Launch) (G : GG) (aXm aTx aRd aPr aSg aAh aIm0 aIm1 aYt aYr : Ad) (Xm : Ob) (tr : Int64) (Pr : Ob) (Yt : Ob) (u1 : Int32) (sz : Nat) (rr : Int32) (tr_ : Int64) (hF : F_X7_markOfWindow tr Pr Yt u1 = some (rr, tr_)) : Met l yX7_markOfWindow wsX7_markOfWindow RMX7_markOfWindow (va_Pc [.ref (aXm 0), .int u1] (zs_pre G (wX7 G aXm aTx aRd aPr aSg aAh aIm0 aIm1 aYt aYr Xm tr ++ wX1 G aPr Pr ++ wX6 G aYt Yt) sz)) (zs_Qi G (wX7 G aXm aTx aRd aPr aSg aAh aIm0 aIm1 aYt aYr Xm tr_ ++ wX1 G aPr Pr ++ wX6 G aYt Yt) rr (va_A (wX7 G aXm aTx aRd aPr aSg aAh aIm0 aIm1 aYt aYr Xm tr ++ wX1 G aPr Pr ++ wX6 G aYt Yt) sz)) 0 0 (va_A (wX7 G aXm aTx aRd aPr aSg aAh aIm0 aIm1 aYt aYr Xm tr ++ wX1 G aPr Pr ++ wX6 G aYt Yt) sz) := by
  refine zs_met (cc := cX7_markOfWindow) (maxL := 2) (ret := (some .int)) (own := RX7) (Qc := zs_Qi G (wX7 G aXm aTx aRd aPr aSg aAh aIm0 aIm1 aYt aYr Xm tr_ ++ wX1 G aPr Pr ++ wX6 G aYt Yt) rr) (by decide) rfl rfl (Nat.le_of_ble_eq_true rfl) ?_
  intro p e s m args below meth c C A hK hA S _ _ ls hl
  have hl : lv_has ls 2 [(0, .ref (aXm 0)), (1, .int u1)] := hl
  have hx := C.1.1
  have hb := C.1.2.1
  unfold F_X7_markOfWindow at hF
  refine lv_aload_n hx hb dX7_markOfWindow_0 rfl (lv_at hl 0 rfl) ?_
  refine lv_dup hx hb dX7_markOfWindow_1 rfl ?_
  refine zs_get C hK S 0 9 (Cn := RX7) (T := TX7) (N := 10) (ci := 7) rfl rfl (by decide) zn_X7_markOfWindow_X7 (List.mem_of_getElem? (i := 1) rfl) rfl dX7_markOfWindow_2 ?_
  refine lv_ldc2 (v := (10000 : Int64)) hx hb C.1.2.2.2.1 (C.1.2.2.2.2 (.constantLong RX7 262 (10000 : Int64)) (List.mem_of_getElem? (i := 2) rfl)) dX7_markOfWindow_5 ?_
  refine lv_ladd hx hb dX7_markOfWindow_8 ?_
  obtain ⟨trw1, e2⟩ : ∃ q : Int64, q = (tr + (10000 : Int64)) := ⟨_, rfl⟩
  have hF := zs_letS hF e2
  refine zs_put C hK S 0 9 (ws' := wX7 G aXm aTx aRd aPr aSg aAh aIm0 aIm1 aYt aYr Xm trw1 ++ wX1 G aPr Pr ++ wX6 G aYt Yt) (Cn := RX7) (T := TX7) (N := 10) (ci := 7) rfl rfl (by decide) zn_X7_markOfWindow_X7 tyX7_ok nmX7 (List.mem_of_getElem? (i := 1) rfl) rfl rfl rfl (Nat.le_of_ble_eq_true rfl) (by rw [e2]; rfl) dX7_markOfWindow_9 (fun H locs S => ?_)
  refine lv_aload_n hx hb dX7_markOfWindow_12 rfl (lv_at hl 0 rfl) ?_
  refine lv_iload_n hx hb dX7_markOfWindow_13 rfl (lv_at hl 1 rfl) ?_
  obtain ⟨r3, trw4, f5, hF⟩ := zs_b2S hF
  refine zs_calli (wr := ([] : va_W)) (ws' := wX7 G aXm aTx aRd aPr aSg aAh aIm0 aIm1 aYt aYr Xm trw4 ++ wX1 G aPr Pr ++ wX6 G aYt Yt) S hA [0, 1, 2, 3, 4, 5, 6, 7, 8, 9, 10, 11, 12, 13] [] [0, 1, 2, 3, 4, 5, 6, 7, 8, 9, 10, 11, 12, 13] (zs_runV C hK hA S [.int u1] [] [0, 1, 2, 3, 4, 5, 6, 7, 8, 9, 10, 11, 12, 13] 0 1 (c_X7_markOfBrick l G aXm aTx aRd aPr aSg aAh aIm0 aIm1 aYt aYr Xm trw1 Pr Yt u1 H.size r3 trw4 f5) gX7_markOfWindow_X7_markOfBrick rfl rfl rfl zd_X7_markOfBrick ⟨Nat.le_of_ble_eq_true rfl, Nat.le_of_ble_eq_true rfl⟩ rfl rfl rfl rfl rfl hl rfl (Nat.le_of_ble_eq_true rfl) dX7_markOfWindow_14 ⟨Nat.le_of_ble_eq_true rfl, Nat.le_of_ble_eq_true rfl⟩) rfl rfl rfl (by decide) rfl rfl (fun H locs S => ?_)
  refine lv_iload_n hx hb dX7_markOfWindow_17 rfl (lv_at hl 1 rfl) ?_
  refine lv_iadd hx hb dX7_markOfWindow_18 ?_
  obtain ⟨e6, e7⟩ := zs_s2 hF
  exact zs_iretE C S e6 (by rw [e7]) dX7_markOfWindow_19

abbrev RMX7_markOfHull : Room := { frames := 1, cells := 0, slots := 0, locals := 21 }
theorem zn_X7_markOfHull_X1 : ∀ w ∈ wsX10, w ∈ wsX7_markOfHull := zs_inl wsX10 [21, 22, 23, 24, 25, 26, 27, 28] (by decide +kernel)
theorem zn_X7_markOfHull_X7 : ∀ w ∈ wsX70, w ∈ wsX7_markOfHull := zs_inl wsX70 [11, 12, 13, 14, 15, 16, 17, 18, 19, 20] (by decide +kernel)
set_option maxRecDepth 100000 in
set_option maxHeartbeats 4000000 in
theorem c_X7_markOfHull (l : Launch) (G : GG) (aXm aTx aRd aPr aSg aAh aIm0 aIm1 aYt aYr : Ad) (Xm : Ob) (tr : Int64) (Pr : Ob) (Yt : Ob) (u1 : Int32) (sz : Nat) (rr : Int32) (tr_ : Int64) (hF : F_X7_markOfHull tr Pr Yt u1 = some (rr, tr_)) : Met l yX7_markOfHull wsX7_markOfHull RMX7_markOfHull (va_Pc [.ref (aXm 0), .int u1] (zs_pre G (wX7 G aXm aTx aRd aPr aSg aAh aIm0 aIm1 aYt aYr Xm tr ++ wX1 G aPr Pr ++ wX6 G aYt Yt) sz)) (zs_Qi G (wX7 G aXm aTx aRd aPr aSg aAh aIm0 aIm1 aYt aYr Xm tr_ ++ wX1 G aPr Pr ++ wX6 G aYt Yt) rr (va_A (wX7 G aXm aTx aRd aPr aSg aAh aIm0 aIm1 aYt aYr Xm tr ++ wX1 G aPr Pr ++ wX6 G aYt Yt) sz)) 0 0 (va_A (wX7 G aXm aTx aRd aPr aSg aAh aIm0 aIm1 aYt aYr Xm tr ++ wX1 G aPr Pr ++ wX6 G aYt Yt) sz) := by
  refine zs_met (cc := cX7_markOfHull) (maxL := 2) (ret := (some .int)) (own := RX7) (Qc := zs_Qi G (wX7 G aXm aTx aRd aPr aSg aAh aIm0 aIm1 aYt aYr Xm tr_ ++ wX1 G aPr Pr ++ wX6 G aYt Yt) rr) (by decide) rfl rfl (Nat.le_of_ble_eq_true rfl) ?_
  intro p e s m args below meth c C A hK hA S _ _ ls hl
  have hl : lv_has ls 2 [(0, .ref (aXm 0)), (1, .int u1)] := hl
  have hx := C.1.1
  have hb := C.1.2.1
  unfold F_X7_markOfHull at hF
  refine lv_aload_n hx hb dX7_markOfHull_0 rfl (lv_at hl 0 rfl) ?_
  refine lv_dup hx hb dX7_markOfHull_1 rfl ?_
  refine zs_get C hK S 0 9 (Cn := RX7) (T := TX7) (N := 10) (ci := 7) rfl rfl (by decide) zn_X7_markOfHull_X7 (List.mem_of_getElem? (i := 1) rfl) rfl dX7_markOfHull_2 ?_
  refine lv_ldc2 (v := (100000 : Int64)) hx hb C.1.2.2.2.1 (C.1.2.2.2.2 (.constantLong RX7 264 (100000 : Int64)) (List.mem_of_getElem? (i := 2) rfl)) dX7_markOfHull_5 ?_
  refine lv_ladd hx hb dX7_markOfHull_8 ?_
  obtain ⟨trw1, e2⟩ : ∃ q : Int64, q = (tr + (100000 : Int64)) := ⟨_, rfl⟩
  have hF := zs_letS hF e2
  refine zs_put C hK S 0 9 (ws' := wX7 G aXm aTx aRd aPr aSg aAh aIm0 aIm1 aYt aYr Xm trw1 ++ wX1 G aPr Pr ++ wX6 G aYt Yt) (Cn := RX7) (T := TX7) (N := 10) (ci := 7) rfl rfl (by decide) zn_X7_markOfHull_X7 tyX7_ok nmX7 (List.mem_of_getElem? (i := 1) rfl) rfl rfl rfl (Nat.le_of_ble_eq_true rfl) (by rw [e2]; rfl) dX7_markOfHull_9 (fun H locs S => ?_)
  refine lv_aload_n hx hb dX7_markOfHull_12 rfl (lv_at hl 0 rfl) ?_
  refine lv_iload_n hx hb dX7_markOfHull_13 rfl (lv_at hl 1 rfl) ?_
  obtain ⟨r3, trw4, f5, hF⟩ := zs_b2S hF
  refine zs_calli (wr := ([] : va_W)) (ws' := wX7 G aXm aTx aRd aPr aSg aAh aIm0 aIm1 aYt aYr Xm trw4 ++ wX1 G aPr Pr ++ wX6 G aYt Yt) S hA [0, 1, 2, 3, 4, 5, 6, 7, 8, 9, 10, 11, 12, 13] [] [0, 1, 2, 3, 4, 5, 6, 7, 8, 9, 10, 11, 12, 13] (zs_runV C hK hA S [.int u1] [] [0, 1, 2, 3, 4, 5, 6, 7, 8, 9, 10, 11, 12, 13] 0 1 (c_X7_markOfWall l G aXm aTx aRd aPr aSg aAh aIm0 aIm1 aYt aYr Xm trw1 Pr Yt u1 H.size r3 trw4 f5) gX7_markOfHull_X7_markOfWall rfl rfl rfl zd_X7_markOfWall ⟨Nat.le_of_ble_eq_true rfl, Nat.le_of_ble_eq_true rfl⟩ rfl rfl rfl rfl rfl hl rfl (Nat.le_of_ble_eq_true rfl) dX7_markOfHull_14 ⟨Nat.le_of_ble_eq_true rfl, Nat.le_of_ble_eq_true rfl⟩) rfl rfl rfl (by decide) rfl rfl (fun H locs S => ?_)
  refine lv_aload_n hx hb dX7_markOfHull_17 rfl (lv_at hl 0 rfl) ?_
  refine zs_get C hK S 0 2 (Cn := RX7) (T := TX7) (N := 10) (ci := 7) rfl rfl (by decide) zn_X7_markOfHull_X7 (List.mem_of_getElem? (i := 3) rfl) rfl dX7_markOfHull_18 ?_
  refine zs_get C hK S 2 0 (Cn := RX1) (T := TX1) (N := 8) (ci := 1) rfl rfl (by decide) zn_X7_markOfHull_X1 (List.mem_of_getElem? (i := 4) rfl) rfl dX7_markOfHull_21 ?_
  refine lv_iadd hx hb dX7_markOfHull_24 ?_
  obtain ⟨e6, e7⟩ := zs_s2 hF
  exact zs_iretE C S e6 (by rw [e7]) dX7_markOfHull_25

theorem zd_X7_markOfFurnace : yX7_markOfFurnace.cls = RX7 ∧ yX7_markOfFurnace.cls ≠ "java/lang/invoke/MethodHandle" ∧ yX7_markOfFurnace.cls ≠ "java/lang/invoke/VarHandle" ∧ (parseMethodDescriptor yX7_markOfFurnace.desc).map (fun d => d.parameters.length) = some 1 := by decide +kernel
theorem zd_X7_markOfHull : yX7_markOfHull.cls = RX7 ∧ yX7_markOfHull.cls ≠ "java/lang/invoke/MethodHandle" ∧ yX7_markOfHull.cls ≠ "java/lang/invoke/VarHandle" ∧ (parseMethodDescriptor yX7_markOfHull.desc).map (fun d => d.parameters.length) = some 1 := by decide +kernel
theorem zd_X7_markOfWindow : yX7_markOfWindow.cls = RX7 ∧ yX7_markOfWindow.cls ≠ "java/lang/invoke/MethodHandle" ∧ yX7_markOfWindow.cls ≠ "java/lang/invoke/VarHandle" ∧ (parseMethodDescriptor yX7_markOfWindow.desc).map (fun d => d.parameters.length) = some 1 := by decide +kernel
abbrev RMX7_mark : Room := { frames := 3, cells := 0, slots := 0, locals := 63 }
set_option maxRecDepth 100000 in
set_option maxHeartbeats 4000000 in
theorem c_X7_mark (l : Launch) (G : GG) (aXm aTx aRd aPr aSg aAh aIm0 aIm1 aYt aYr : Ad) (Xm : Ob) (tr : Int64) (Pr : Ob) (Yt : Ob) (u1 : Int32) (u2 : Int32) (sz : Nat) (rr : Int32) (tr_ : Int64) (hF : F_X7_mark tr Pr Yt u1 u2 = some (rr, tr_)) : Met l yX7_mark wsX7_mark RMX7_mark (va_Pc [.ref (aXm 0), .int u1, .int u2] (zs_pre G (wX7 G aXm aTx aRd aPr aSg aAh aIm0 aIm1 aYt aYr Xm tr ++ wX1 G aPr Pr ++ wX6 G aYt Yt) sz)) (zs_Qi G (wX7 G aXm aTx aRd aPr aSg aAh aIm0 aIm1 aYt aYr Xm tr_ ++ wX1 G aPr Pr ++ wX6 G aYt Yt) rr (va_A (wX7 G aXm aTx aRd aPr aSg aAh aIm0 aIm1 aYt aYr Xm tr ++ wX1 G aPr Pr ++ wX6 G aYt Yt) sz)) 0 0 (va_A (wX7 G aXm aTx aRd aPr aSg aAh aIm0 aIm1 aYt aYr Xm tr ++ wX1 G aPr Pr ++ wX6 G aYt Yt) sz) := by
  refine zs_met (cc := cX7_mark) (maxL := 3) (ret := (some .int)) (own := RX7) (Qc := zs_Qi G (wX7 G aXm aTx aRd aPr aSg aAh aIm0 aIm1 aYt aYr Xm tr_ ++ wX1 G aPr Pr ++ wX6 G aYt Yt) rr) (by decide) rfl rfl (Nat.le_of_ble_eq_true rfl) ?_
  intro p e s m args below meth c C A hK hA S _ _ ls hl
  have hl : lv_has ls 3 [(0, .ref (aXm 0)), (1, .int u1), (2, .int u2)] := hl
  have hx := C.1.1
  have hb := C.1.2.1
  unfold F_X7_mark at hF
  refine lv_aload_n hx hb dX7_mark_0 rfl (lv_at hl 0 rfl) ?_
  refine lv_iload_n hx hb dX7_mark_1 rfl (lv_at hl 2 rfl) ?_
  obtain ⟨r1, f2, hF⟩ := zs_bdS hF
  refine zs_calli (wr := wX1 G aPr Pr) (ws' := wX7 G aXm aTx aRd aPr aSg aAh aIm0 aIm1 aYt aYr Xm tr ++ wX1 G aPr Pr ++ wX6 G aYt Yt) S hA [0, 1, 6, 7, 8, 9, 10, 11, 12, 13] [2, 3, 4, 5] [4, 5, 0, 1, 2, 3, 6, 7, 8, 9, 10, 11, 12, 13] (zs_runV C hK hA S [.int u2] [] [0, 1, 6, 7, 8, 9, 10, 11, 12, 13] 0 1 (c_X7_isWall l G aXm aTx aRd aPr aSg aAh aIm0 aIm1 aYt aYr Xm tr Yt u2 s.heap.size r1 f2) gX7_mark_X7_isWall rfl rfl rfl zd_X7_isWall ⟨Nat.le_of_ble_eq_true rfl, Nat.le_of_ble_eq_true rfl⟩ rfl rfl rfl rfl rfl hl rfl (Nat.le_of_ble_eq_true rfl) dX7_mark_2 ⟨Nat.le_of_ble_eq_true rfl, Nat.le_of_ble_eq_true rfl⟩) rfl rfl rfl (by decide) rfl rfl (fun H locs S => ?_)
  refine lv_if_ne (tgt := 11) hx hb dX7_mark_5 (by decide) (fun c3 => ?_) (fun c3 => ?_)
  · have hF := zs_f hF c3
    refine lv_iload_n hx hb dX7_mark_11 rfl (lv_at hl 1 rfl) ?_
    by_cases c4 : u1 = (0 : Int32)
    · have hF := zs_t hF c4
      refine lv_tableIn (off := 40) (tgt := 52) hx hb dX7_mark_12 (by rw [c4]; decide) (by rw [c4]; decide) (by rw [c4]; rfl) (by decide) ?_
      refine lv_aload_n hx hb dX7_mark_52 rfl (lv_at hl 0 rfl) ?_
      refine lv_iload_n hx hb dX7_mark_53 rfl (lv_at hl 2 rfl) ?_
      obtain ⟨r5, trw6, f7, hF⟩ := zs_b2S hF
      refine zs_calli (wr := ([] : va_W)) (ws' := wX7 G aXm aTx aRd aPr aSg aAh aIm0 aIm1 aYt aYr Xm trw6 ++ wX1 G aPr Pr ++ wX6 G aYt Yt) S hA [0, 1, 2, 3, 4, 5, 6, 7, 8, 9, 10, 11, 12, 13] [] [0, 1, 2, 3, 4, 5, 6, 7, 8, 9, 10, 11, 12, 13] (zs_runV C hK hA S [.int u2] [] [0, 1, 2, 3, 4, 5, 6, 7, 8, 9, 10, 11, 12, 13] 0 1 (c_X7_markOfWall l G aXm aTx aRd aPr aSg aAh aIm0 aIm1 aYt aYr Xm tr Pr Yt u2 H.size r5 trw6 f7) gX7_mark_X7_markOfWall rfl rfl rfl zd_X7_markOfWall ⟨Nat.le_of_ble_eq_true rfl, Nat.le_of_ble_eq_true rfl⟩ rfl rfl rfl rfl rfl hl rfl (Nat.le_of_ble_eq_true rfl) dX7_mark_54 ⟨Nat.le_of_ble_eq_true rfl, Nat.le_of_ble_eq_true rfl⟩) rfl rfl rfl (by decide) rfl rfl (fun H locs S => ?_)
      obtain ⟨e8, e9⟩ := zs_s2 hF
      exact zs_iretE C S e8 (by rw [e9]) dX7_mark_57
    · have hF := zs_f hF c4
      by_cases c10 : u1 = (1 : Int32)
      · have hF := zs_t hF c10
        refine lv_tableIn (off := 46) (tgt := 58) hx hb dX7_mark_12 (by rw [c10]; decide) (by rw [c10]; decide) (by rw [c10]; rfl) (by decide) ?_
        refine lv_aload_n hx hb dX7_mark_58 rfl (lv_at hl 0 rfl) ?_
        refine lv_iload_n hx hb dX7_mark_59 rfl (lv_at hl 2 rfl) ?_
        obtain ⟨r11, trw12, f13, hF⟩ := zs_b2S hF
        refine zs_calli (wr := ([] : va_W)) (ws' := wX7 G aXm aTx aRd aPr aSg aAh aIm0 aIm1 aYt aYr Xm trw12 ++ wX1 G aPr Pr ++ wX6 G aYt Yt) S hA [0, 1, 2, 3, 4, 5, 6, 7, 8, 9, 10, 11, 12, 13] [] [0, 1, 2, 3, 4, 5, 6, 7, 8, 9, 10, 11, 12, 13] (zs_runV C hK hA S [.int u2] [] [0, 1, 2, 3, 4, 5, 6, 7, 8, 9, 10, 11, 12, 13] 0 1 (c_X7_markOfFin l G aXm aTx aRd aPr aSg aAh aIm0 aIm1 aYt aYr Xm tr Pr Yt u2 H.size r11 trw12 f13) gX7_mark_X7_markOfFin rfl rfl rfl zd_X7_markOfFin ⟨Nat.le_of_ble_eq_true rfl, Nat.le_of_ble_eq_true rfl⟩ rfl rfl rfl rfl rfl hl rfl (Nat.le_of_ble_eq_true rfl) dX7_mark_60 ⟨Nat.le_of_ble_eq_true rfl, Nat.le_of_ble_eq_true rfl⟩) rfl rfl rfl (by decide) rfl rfl (fun H locs S => ?_)
        obtain ⟨e14, e15⟩ := zs_s2 hF
        exact zs_iretE C S e14 (by rw [e15]) dX7_mark_63
      · have hF := zs_f hF c10
        by_cases c16 : u1 = (2 : Int32)
        · have hF := zs_t hF c16
          refine lv_tableIn (off := 52) (tgt := 64) hx hb dX7_mark_12 (by rw [c16]; decide) (by rw [c16]; decide) (by rw [c16]; rfl) (by decide) ?_
          refine lv_aload_n hx hb dX7_mark_64 rfl (lv_at hl 0 rfl) ?_
          refine lv_iload_n hx hb dX7_mark_65 rfl (lv_at hl 2 rfl) ?_
          obtain ⟨r17, trw18, f19, hF⟩ := zs_b2S hF
          refine zs_calli (wr := ([] : va_W)) (ws' := wX7 G aXm aTx aRd aPr aSg aAh aIm0 aIm1 aYt aYr Xm trw18 ++ wX1 G aPr Pr ++ wX6 G aYt Yt) S hA [0, 1, 2, 3, 4, 5, 6, 7, 8, 9, 10, 11, 12, 13] [] [0, 1, 2, 3, 4, 5, 6, 7, 8, 9, 10, 11, 12, 13] (zs_runV C hK hA S [.int u2] [] [0, 1, 2, 3, 4, 5, 6, 7, 8, 9, 10, 11, 12, 13] 0 1 (c_X7_markOfBrick l G aXm aTx aRd aPr aSg aAh aIm0 aIm1 aYt aYr Xm tr Pr Yt u2 H.size r17 trw18 f19) gX7_mark_X7_markOfBrick rfl rfl rfl zd_X7_markOfBrick ⟨Nat.le_of_ble_eq_true rfl, Nat.le_of_ble_eq_true rfl⟩ rfl rfl rfl rfl rfl hl rfl (Nat.le_of_ble_eq_true rfl) dX7_mark_66 ⟨Nat.le_of_ble_eq_true rfl, Nat.le_of_ble_eq_true rfl⟩) rfl rfl rfl (by decide) rfl rfl (fun H locs S => ?_)
          obtain ⟨e20, e21⟩ := zs_s2 hF
          exact zs_iretE C S e20 (by rw [e21]) dX7_mark_69
        · have hF := zs_f hF c16
          by_cases c22 : u1 = (3 : Int32)
          · have hF := zs_t hF c22
            refine lv_tableIn (off := 58) (tgt := 70) hx hb dX7_mark_12 (by rw [c22]; decide) (by rw [c22]; decide) (by rw [c22]; rfl) (by decide) ?_
            refine lv_aload_n hx hb dX7_mark_70 rfl (lv_at hl 0 rfl) ?_
            refine lv_iload_n hx hb dX7_mark_71 rfl (lv_at hl 2 rfl) ?_
            obtain ⟨r23, trw24, f25, hF⟩ := zs_b2S hF
            refine zs_calli (wr := ([] : va_W)) (ws' := wX7 G aXm aTx aRd aPr aSg aAh aIm0 aIm1 aYt aYr Xm trw24 ++ wX1 G aPr Pr ++ wX6 G aYt Yt) S hA [0, 1, 2, 3, 4, 5, 6, 7, 8, 9, 10, 11, 12, 13] [] [0, 1, 2, 3, 4, 5, 6, 7, 8, 9, 10, 11, 12, 13] (zs_runV C hK hA S [.int u2] [] [0, 1, 2, 3, 4, 5, 6, 7, 8, 9, 10, 11, 12, 13] 0 1 (c_X7_markOfFurnace l G aXm aTx aRd aPr aSg aAh aIm0 aIm1 aYt aYr Xm tr Pr Yt u2 H.size r23 trw24 f25) gX7_mark_X7_markOfFurnace rfl rfl rfl zd_X7_markOfFurnace ⟨Nat.le_of_ble_eq_true rfl, Nat.le_of_ble_eq_true rfl⟩ rfl rfl rfl rfl rfl hl rfl (Nat.le_of_ble_eq_true rfl) dX7_mark_72 ⟨Nat.le_of_ble_eq_true rfl, Nat.le_of_ble_eq_true rfl⟩) rfl rfl rfl (by decide) rfl rfl (fun H locs S => ?_)
            obtain ⟨e26, e27⟩ := zs_s2 hF
            exact zs_iretE C S e26 (by rw [e27]) dX7_mark_75
          · have hF := zs_f hF c22
            by_cases c28 : u1 = (4 : Int32)
            · have hF := zs_t hF c28
              refine lv_tableIn (off := 64) (tgt := 76) hx hb dX7_mark_12 (by rw [c28]; decide) (by rw [c28]; decide) (by rw [c28]; rfl) (by decide) ?_
              refine lv_aload_n hx hb dX7_mark_76 rfl (lv_at hl 0 rfl) ?_
              refine lv_iload_n hx hb dX7_mark_77 rfl (lv_at hl 2 rfl) ?_
              obtain ⟨r29, trw30, f31, hF⟩ := zs_b2S hF
              refine zs_calli (wr := ([] : va_W)) (ws' := wX7 G aXm aTx aRd aPr aSg aAh aIm0 aIm1 aYt aYr Xm trw30 ++ wX1 G aPr Pr ++ wX6 G aYt Yt) S hA [0, 1, 2, 3, 4, 5, 6, 7, 8, 9, 10, 11, 12, 13] [] [0, 1, 2, 3, 4, 5, 6, 7, 8, 9, 10, 11, 12, 13] (zs_runV C hK hA S [.int u2] [] [0, 1, 2, 3, 4, 5, 6, 7, 8, 9, 10, 11, 12, 13] 0 1 (c_X7_markOfWindow l G aXm aTx aRd aPr aSg aAh aIm0 aIm1 aYt aYr Xm tr Pr Yt u2 H.size r29 trw30 f31) gX7_mark_X7_markOfWindow rfl rfl rfl zd_X7_markOfWindow ⟨Nat.le_of_ble_eq_true rfl, Nat.le_of_ble_eq_true rfl⟩ rfl rfl rfl rfl rfl hl rfl (Nat.le_of_ble_eq_true rfl) dX7_mark_78 ⟨Nat.le_of_ble_eq_true rfl, Nat.le_of_ble_eq_true rfl⟩) rfl rfl rfl (by decide) rfl rfl (fun H locs S => ?_)
              obtain ⟨e32, e33⟩ := zs_s2 hF
              exact zs_iretE C S e32 (by rw [e33]) dX7_mark_81
            · have hF := zs_f hF c28
              by_cases c34 : u1 = (5 : Int32)
              · have hF := zs_t hF c34
                refine lv_tableIn (off := 70) (tgt := 82) hx hb dX7_mark_12 (by rw [c34]; decide) (by rw [c34]; decide) (by rw [c34]; rfl) (by decide) ?_
                refine lv_aload_n hx hb dX7_mark_82 rfl (lv_at hl 0 rfl) ?_
                refine lv_iload_n hx hb dX7_mark_83 rfl (lv_at hl 2 rfl) ?_
                obtain ⟨r35, trw36, f37, hF⟩ := zs_b2S hF
                refine zs_calli (wr := ([] : va_W)) (ws' := wX7 G aXm aTx aRd aPr aSg aAh aIm0 aIm1 aYt aYr Xm trw36 ++ wX1 G aPr Pr ++ wX6 G aYt Yt) S hA [0, 1, 2, 3, 4, 5, 6, 7, 8, 9, 10, 11, 12, 13] [] [0, 1, 2, 3, 4, 5, 6, 7, 8, 9, 10, 11, 12, 13] (zs_runV C hK hA S [.int u2] [] [0, 1, 2, 3, 4, 5, 6, 7, 8, 9, 10, 11, 12, 13] 0 1 (c_X7_markOfHull l G aXm aTx aRd aPr aSg aAh aIm0 aIm1 aYt aYr Xm tr Pr Yt u2 H.size r35 trw36 f37) gX7_mark_X7_markOfHull rfl rfl rfl zd_X7_markOfHull ⟨Nat.le_of_ble_eq_true rfl, Nat.le_of_ble_eq_true rfl⟩ rfl rfl rfl rfl rfl hl rfl (Nat.le_of_ble_eq_true rfl) dX7_mark_84 ⟨Nat.le_of_ble_eq_true rfl, Nat.le_of_ble_eq_true rfl⟩) rfl rfl rfl (by decide) rfl rfl (fun H locs S => ?_)
                obtain ⟨e38, e39⟩ := zs_s2 hF
                exact zs_iretE C S e38 (by rw [e39]) dX7_mark_87
              · have hF := zs_f hF c34
                refine lv_tableOut (tgt := 88) hx hb dX7_mark_12 (zs_sw6 c4 c10 c16 c22 c28 c34) (by decide) ?_
                refine lv_ldc (v := (-1000000 : Int32)) hx hb C.1.2.2.2.1 (C.1.2.2.2.2 (.constant RX7 192 (-1000000 : Int32)) (List.mem_of_getElem? (i := 1) rfl)) dX7_mark_88 ?_
                obtain ⟨e40, e41⟩ := zs_s2 hF
                exact zs_iretE C S e40 (by rw [e41]) dX7_mark_90
  · have hF := zs_t hF c3
    refine lv_ldc (v := (-1000000 : Int32)) hx hb C.1.2.2.2.1 (C.1.2.2.2.2 (.constant RX7 192 (-1000000 : Int32)) (List.mem_of_getElem? (i := 1) rfl)) dX7_mark_8 ?_
    obtain ⟨e42, e43⟩ := zs_s2 hF
    exact zs_iretE C S e42 (by rw [e43]) dX7_mark_10

theorem zd_X1_copyWithChanges : yX1_copyWithChanges.cls = RX1 ∧ yX1_copyWithChanges.cls ≠ "java/lang/invoke/MethodHandle" ∧ yX1_copyWithChanges.cls ≠ "java/lang/invoke/VarHandle" ∧ (parseMethodDescriptor yX1_copyWithChanges.desc).map (fun d => d.parameters.length) = some 1 := by decide +kernel
theorem zd_X7_isImage : yX7_isImage.cls ≠ "java/lang/invoke/MethodHandle" ∧ yX7_isImage.cls ≠ "java/lang/invoke/VarHandle" ∧ (parseMethodDescriptor yX7_isImage.desc).map (fun d => d.parameters.length) = some 1 := by decide +kernel
abbrev RMX7_keep : Room := { frames := 2, cells := 0, slots := 0, locals := 44 }
theorem zn_X7_keep_X1 : ∀ w ∈ wsX10, w ∈ wsX7_keep := zs_inl wsX10 [35, 36, 37, 38, 39, 40, 41, 42] (by decide +kernel)
theorem zn_X7_keep_X7 : ∀ w ∈ wsX70, w ∈ wsX7_keep := zs_inl wsX70 [25, 26, 27, 28, 29, 30, 31, 32, 33, 34] (by decide +kernel)
set_option maxRecDepth 100000 in
set_option maxHeartbeats 4000000 in
theorem c_X7_keep (l : Launch) (G : GG) (aXm aTx aRd aPr aSg aAh aIm0 aIm1 aYt aYr : Ad) (Xm : Ob) (tr : Int64) (Pr : Ob) (Im0 : Ob) (Im1 : Ob) (u1 : Int32) (sz : Nat) (rr : Int32) (Xm_ : Ob) (Im0_ : Ob) (Im1_ : Ob) (hF : F_X7_keep Xm Pr Im0 Im1 u1 = some (rr, (Xm_, (Im0_, Im1_)))) : Met l yX7_keep wsX7_keep RMX7_keep (va_Pc [.ref (aXm 0), .int u1] (zs_pre G (wX7 G aXm aTx aRd aPr aSg aAh aIm0 aIm1 aYt aYr Xm tr ++ wX1 G aPr Pr ++ wX1 G aIm0 Im0 ++ wX1 G aIm1 Im1) sz)) (zs_Qi G (wX7 G aXm aTx aRd aPr aSg aAh aIm0 aIm1 aYt aYr Xm_ tr ++ wX1 G aPr Pr ++ wX1 G aIm0 Im0_ ++ wX1 G aIm1 Im1_) rr (va_A (wX7 G aXm aTx aRd aPr aSg aAh aIm0 aIm1 aYt aYr Xm tr ++ wX1 G aPr Pr ++ wX1 G aIm0 Im0 ++ wX1 G aIm1 Im1) sz)) 0 0 (va_A (wX7 G aXm aTx aRd aPr aSg aAh aIm0 aIm1 aYt aYr Xm tr ++ wX1 G aPr Pr ++ wX1 G aIm0 Im0 ++ wX1 G aIm1 Im1) sz) := by
  refine zs_met (cc := cX7_keep) (maxL := 2) (ret := (some .int)) (own := RX7) (Qc := zs_Qi G (wX7 G aXm aTx aRd aPr aSg aAh aIm0 aIm1 aYt aYr Xm_ tr ++ wX1 G aPr Pr ++ wX1 G aIm0 Im0_ ++ wX1 G aIm1 Im1_) rr) (by decide) rfl rfl (Nat.le_of_ble_eq_true rfl) ?_
  intro p e s m args below meth c C A hK hA S _ _ ls hl
  have hl : lv_has ls 2 [(0, .ref (aXm 0)), (1, .int u1)] := hl
  have hx := C.1.1
  have hb := C.1.2.1
  unfold F_X7_keep at hF
  refine lv_iload_n hx hb dX7_keep_0 rfl (lv_at hl 1 rfl) ?_
  obtain ⟨r1, f2, hF⟩ := zs_bdS hF
  refine zs_calliP S hA (zs_runS C hK hA S [.int u1] [] [] 1 (c_X7_isImage l G u1 s.heap.size r1 f2) gX7_keep_X7_isImage rfl rfl rfl zd_X7_isImage ⟨Nat.le_of_ble_eq_true rfl, Nat.le_of_ble_eq_true rfl⟩ rfl rfl rfl hl rfl (Nat.le_of_ble_eq_true rfl) dX7_keep_1 ⟨Nat.le_of_ble_eq_true rfl, Nat.le_of_ble_eq_true rfl⟩) (fun H locs S => ?_)
  refine lv_if_ne (tgt := 9) hx hb dX7_keep_4 (by decide) (fun c3 => ?_) (fun c3 => ?_)
  · have hF := zs_f hF c3
    refine lv_aload_n hx hb dX7_keep_9 rfl (lv_at hl 0 rfl) ?_
    refine zs_get C hK S 0 5 (Cn := RX7) (T := TX7) (N := 10) (ci := 7) rfl rfl (by decide) zn_X7_keep_X7 (List.mem_of_getElem? (i := 1) rfl) rfl dX7_keep_10 ?_
    refine lv_iload_n hx hb dX7_keep_13 rfl (lv_at hl 1 rfl) ?_
    obtain ⟨h4, hF⟩ := zs_ckS hF
    by_cases c5 : u1 = (0 : Int32)
    · have hF := zs_t hF c5
      refine zs_aald0 C hK S 1 rfl c5 h4 dX7_keep_14 ?_
      refine lv_aload_n hx hb dX7_keep_15 rfl (lv_at hl 0 rfl) ?_
      refine zs_get C hK S 0 2 (Cn := RX7) (T := TX7) (N := 10) (ci := 7) rfl rfl (by decide) zn_X7_keep_X7 (List.mem_of_getElem? (i := 2) rfl) rfl dX7_keep_16 ?_
      obtain ⟨Im0w6, f7, hF⟩ := zs_bdS hF
      refine zs_callv (wr := wX7 G aXm aTx aRd aPr aSg aAh aIm0 aIm1 aYt aYr Xm tr ++ wX1 G aIm1 Im1) (ws' := wX7 G aXm aTx aRd aPr aSg aAh aIm0 aIm1 aYt aYr Xm tr ++ wX1 G aPr Pr ++ wX1 G aIm0 Im0w6 ++ wX1 G aIm1 Im1) S hA [6, 7, 8, 9, 2, 3, 4, 5] [0, 1, 10, 11, 12, 13] [0, 1, 10, 11, 12, 13, 6, 7, 8, 9, 2, 3, 4, 5] (zs_runV C hK hA S [.ref (aPr 0)] [] [6, 7, 8, 9, 2, 3, 4, 5] 6 1 (c_X1_copyWithChanges l G aIm0 aPr Im0 Pr H.size Im0w6 f7) gX7_keep_X1_copyWithChanges rfl rfl rfl zd_X1_copyWithChanges ⟨Nat.le_of_ble_eq_true rfl, Nat.le_of_ble_eq_true rfl⟩ rfl rfl rfl rfl rfl hl rfl (Nat.le_of_ble_eq_true rfl) dX7_keep_19 ⟨Nat.le_of_ble_eq_true rfl, Nat.le_of_ble_eq_true rfl⟩) rfl rfl rfl (by decide) rfl rfl (fun H locs S => ?_)
      refine lv_aload_n hx hb dX7_keep_22 rfl (lv_at hl 0 rfl) ?_
      refine lv_dup hx hb dX7_keep_23 rfl ?_
      refine zs_get C hK S 0 8 (Cn := RX7) (T := TX7) (N := 10) (ci := 7) rfl rfl (by decide) zn_X7_keep_X7 (List.mem_of_getElem? (i := 3) rfl) rfl dX7_keep_24 ?_
      refine lv_iconst (v := (1 : Int32)) hx hb dX7_keep_27 (by decide) ?_
      refine lv_iload_n hx hb dX7_keep_28 rfl (lv_at hl 1 rfl) ?_
      refine lv_ishl hx hb dX7_keep_29 ?_
      refine lv_ior hx hb dX7_keep_30 ?_
      obtain ⟨Xmw8, e9⟩ : ∃ q : Ob, q = zs_up Xm 0 8 ((Xm 0 8) ||| ((1 : Int32) <<< (u1 &&& 31))) := ⟨_, rfl⟩
      have hF := zs_letS hF e9
      refine zs_put C hK S 0 8 (ws' := wX7 G aXm aTx aRd aPr aSg aAh aIm0 aIm1 aYt aYr Xmw8 tr ++ wX1 G aPr Pr ++ wX1 G aIm0 Im0w6 ++ wX1 G aIm1 Im1) (Cn := RX7) (T := TX7) (N := 10) (ci := 7) rfl rfl (by decide) zn_X7_keep_X7 tyX7_ok nmX7 (List.mem_of_getElem? (i := 3) rfl) rfl rfl rfl (Nat.le_of_ble_eq_true rfl) (by rw [e9]; rfl) dX7_keep_31 (fun H locs S => ?_)
      refine lv_aload_n hx hb dX7_keep_34 rfl (lv_at hl 0 rfl) ?_
      refine zs_get C hK S 0 2 (Cn := RX7) (T := TX7) (N := 10) (ci := 7) rfl rfl (by decide) zn_X7_keep_X7 (List.mem_of_getElem? (i := 2) rfl) rfl dX7_keep_35 ?_
      refine zs_get C hK S 2 0 (Cn := RX1) (T := TX1) (N := 8) (ci := 1) rfl rfl (by decide) zn_X7_keep_X1 (List.mem_of_getElem? (i := 4) rfl) rfl dX7_keep_38 ?_
      obtain ⟨e10, e11, e12, e13⟩ := zs_s4 hF
      exact zs_iretE C S e10 (by rw [e11, e12, e13]) dX7_keep_41
    · have hF := zs_f hF c5
      refine zs_aald1 C hK S 1 rfl c5 h4 dX7_keep_14 ?_
      refine lv_aload_n hx hb dX7_keep_15 rfl (lv_at hl 0 rfl) ?_
      refine zs_get C hK S 0 2 (Cn := RX7) (T := TX7) (N := 10) (ci := 7) rfl rfl (by decide) zn_X7_keep_X7 (List.mem_of_getElem? (i := 2) rfl) rfl dX7_keep_16 ?_
      obtain ⟨Im1w14, f15, hF⟩ := zs_bdS hF
      refine zs_callv (wr := wX7 G aXm aTx aRd aPr aSg aAh aIm0 aIm1 aYt aYr Xm tr ++ wX1 G aIm0 Im0) (ws' := wX7 G aXm aTx aRd aPr aSg aAh aIm0 aIm1 aYt aYr Xm tr ++ wX1 G aPr Pr ++ wX1 G aIm0 Im0 ++ wX1 G aIm1 Im1w14) S hA [10, 11, 12, 13, 2, 3, 4, 5] [0, 1, 6, 7, 8, 9] [0, 1, 10, 11, 12, 13, 2, 3, 4, 5, 6, 7, 8, 9] (zs_runV C hK hA S [.ref (aPr 0)] [] [10, 11, 12, 13, 2, 3, 4, 5] 10 1 (c_X1_copyWithChanges l G aIm1 aPr Im1 Pr H.size Im1w14 f15) gX7_keep_X1_copyWithChanges rfl rfl rfl zd_X1_copyWithChanges ⟨Nat.le_of_ble_eq_true rfl, Nat.le_of_ble_eq_true rfl⟩ rfl rfl rfl rfl rfl hl rfl (Nat.le_of_ble_eq_true rfl) dX7_keep_19 ⟨Nat.le_of_ble_eq_true rfl, Nat.le_of_ble_eq_true rfl⟩) rfl rfl rfl (by decide) rfl rfl (fun H locs S => ?_)
      refine lv_aload_n hx hb dX7_keep_22 rfl (lv_at hl 0 rfl) ?_
      refine lv_dup hx hb dX7_keep_23 rfl ?_
      refine zs_get C hK S 0 8 (Cn := RX7) (T := TX7) (N := 10) (ci := 7) rfl rfl (by decide) zn_X7_keep_X7 (List.mem_of_getElem? (i := 3) rfl) rfl dX7_keep_24 ?_
      refine lv_iconst (v := (1 : Int32)) hx hb dX7_keep_27 (by decide) ?_
      refine lv_iload_n hx hb dX7_keep_28 rfl (lv_at hl 1 rfl) ?_
      refine lv_ishl hx hb dX7_keep_29 ?_
      refine lv_ior hx hb dX7_keep_30 ?_
      obtain ⟨Xmw16, e17⟩ : ∃ q : Ob, q = zs_up Xm 0 8 ((Xm 0 8) ||| ((1 : Int32) <<< (u1 &&& 31))) := ⟨_, rfl⟩
      have hF := zs_letS hF e17
      refine zs_put C hK S 0 8 (ws' := wX7 G aXm aTx aRd aPr aSg aAh aIm0 aIm1 aYt aYr Xmw16 tr ++ wX1 G aPr Pr ++ wX1 G aIm0 Im0 ++ wX1 G aIm1 Im1w14) (Cn := RX7) (T := TX7) (N := 10) (ci := 7) rfl rfl (by decide) zn_X7_keep_X7 tyX7_ok nmX7 (List.mem_of_getElem? (i := 3) rfl) rfl rfl rfl (Nat.le_of_ble_eq_true rfl) (by rw [e17]; rfl) dX7_keep_31 (fun H locs S => ?_)
      refine lv_aload_n hx hb dX7_keep_34 rfl (lv_at hl 0 rfl) ?_
      refine zs_get C hK S 0 2 (Cn := RX7) (T := TX7) (N := 10) (ci := 7) rfl rfl (by decide) zn_X7_keep_X7 (List.mem_of_getElem? (i := 2) rfl) rfl dX7_keep_35 ?_
      refine zs_get C hK S 2 0 (Cn := RX1) (T := TX1) (N := 8) (ci := 1) rfl rfl (by decide) zn_X7_keep_X1 (List.mem_of_getElem? (i := 4) rfl) rfl dX7_keep_38 ?_
      obtain ⟨e18, e19, e20, e21⟩ := zs_s4 hF
      exact zs_iretE C S e18 (by rw [e19, e20, e21]) dX7_keep_41
  · have hF := zs_t hF c3
    refine lv_iconst (v := (-1 : Int32)) hx hb dX7_keep_7 (by decide) ?_
    obtain ⟨e22, e23, e24, e25⟩ := zs_s4 hF
    exact zs_iretE C S e22 (by rw [e23, e24, e25]) dX7_keep_8

abbrev RMX7_back : Room := { frames := 2, cells := 0, slots := 0, locals := 44 }
theorem zn_X7_back_X1 : ∀ w ∈ wsX10, w ∈ wsX7_back := zs_inl wsX10 [38, 39, 40, 41, 42, 43, 44, 45] (by decide +kernel)
theorem zn_X7_back_X7 : ∀ w ∈ wsX70, w ∈ wsX7_back := zs_inl wsX70 [28, 29, 30, 31, 32, 33, 34, 35, 36, 37] (by decide +kernel)
set_option maxRecDepth 100000 in
set_option maxHeartbeats 4000000 in
theorem c_X7_back (l : Launch) (G : GG) (aXm aTx aRd aPr aSg aAh aIm0 aIm1 aYt aYr : Ad) (Xm : Ob) (tr : Int64) (Pr : Ob) (Im0 : Ob) (Im1 : Ob) (u1 : Int32) (sz : Nat) (rr : Int32) (Pr_ : Ob) (hF : F_X7_back Xm Pr Im0 Im1 u1 = some (rr, Pr_)) : Met l yX7_back wsX7_back RMX7_back (va_Pc [.ref (aXm 0), .int u1] (zs_pre G (wX7 G aXm aTx aRd aPr aSg aAh aIm0 aIm1 aYt aYr Xm tr ++ wX1 G aPr Pr ++ wX1 G aIm0 Im0 ++ wX1 G aIm1 Im1) sz)) (zs_Qi G (wX7 G aXm aTx aRd aPr aSg aAh aIm0 aIm1 aYt aYr Xm tr ++ wX1 G aPr Pr_ ++ wX1 G aIm0 Im0 ++ wX1 G aIm1 Im1) rr (va_A (wX7 G aXm aTx aRd aPr aSg aAh aIm0 aIm1 aYt aYr Xm tr ++ wX1 G aPr Pr ++ wX1 G aIm0 Im0 ++ wX1 G aIm1 Im1) sz)) 0 0 (va_A (wX7 G aXm aTx aRd aPr aSg aAh aIm0 aIm1 aYt aYr Xm tr ++ wX1 G aPr Pr ++ wX1 G aIm0 Im0 ++ wX1 G aIm1 Im1) sz) := by
  refine zs_met (cc := cX7_back) (maxL := 2) (ret := (some .int)) (own := RX7) (Qc := zs_Qi G (wX7 G aXm aTx aRd aPr aSg aAh aIm0 aIm1 aYt aYr Xm tr ++ wX1 G aPr Pr_ ++ wX1 G aIm0 Im0 ++ wX1 G aIm1 Im1) rr) (by decide) rfl rfl (Nat.le_of_ble_eq_true rfl) ?_
  intro p e s m args below meth c C A hK hA S _ _ ls hl
  have hl : lv_has ls 2 [(0, .ref (aXm 0)), (1, .int u1)] := hl
  have hx := C.1.1
  have hb := C.1.2.1
  unfold F_X7_back at hF
  refine lv_iload_n hx hb dX7_back_0 rfl (lv_at hl 1 rfl) ?_
  obtain ⟨r1, f2, hF⟩ := zs_bdS hF
  refine zs_calliP S hA (zs_runS C hK hA S [.int u1] [] [] 1 (c_X7_isImage l G u1 s.heap.size r1 f2) gX7_back_X7_isImage rfl rfl rfl zd_X7_isImage ⟨Nat.le_of_ble_eq_true rfl, Nat.le_of_ble_eq_true rfl⟩ rfl rfl rfl hl rfl (Nat.le_of_ble_eq_true rfl) dX7_back_1 ⟨Nat.le_of_ble_eq_true rfl, Nat.le_of_ble_eq_true rfl⟩) (fun H locs S => ?_)
  refine lv_if_ne (tgt := 9) hx hb dX7_back_4 (by decide) (fun c3 => ?_) (fun c3 => ?_)
  · have hF := zs_f hF c3
    refine lv_aload_n hx hb dX7_back_9 rfl (lv_at hl 0 rfl) ?_
    refine zs_get C hK S 0 8 (Cn := RX7) (T := TX7) (N := 10) (ci := 7) rfl rfl (by decide) zn_X7_back_X7 (List.mem_of_getElem? (i := 1) rfl) rfl dX7_back_10 ?_
    refine lv_iload_n hx hb dX7_back_13 rfl (lv_at hl 1 rfl) ?_
    obtain ⟨r4, f5, hF⟩ := zs_bdS hF
    refine zs_calliP S hA (zs_runS C hK hA S [.int (Xm 0 8), .int u1] [] [] 2 (c_X7_bit l G ((Xm 0 8)) u1 H.size r4 f5) gX7_back_X7_bit rfl rfl rfl zd_X7_bit ⟨Nat.le_of_ble_eq_true rfl, Nat.le_of_ble_eq_true rfl⟩ rfl rfl rfl hl rfl (Nat.le_of_ble_eq_true rfl) dX7_back_14 ⟨Nat.le_of_ble_eq_true rfl, Nat.le_of_ble_eq_true rfl⟩) (fun H locs S => ?_)
    refine lv_if_ne (tgt := 23) hx hb dX7_back_17 (by decide) (fun c6 => ?_) (fun c6 => ?_)
    · have hF := zs_f hF c6
      refine lv_aload_n hx hb dX7_back_23 rfl (lv_at hl 0 rfl) ?_
      refine zs_get C hK S 0 2 (Cn := RX7) (T := TX7) (N := 10) (ci := 7) rfl rfl (by decide) zn_X7_back_X7 (List.mem_of_getElem? (i := 2) rfl) rfl dX7_back_24 ?_
      refine lv_aload_n hx hb dX7_back_27 rfl (lv_at hl 0 rfl) ?_
      refine zs_get C hK S 0 5 (Cn := RX7) (T := TX7) (N := 10) (ci := 7) rfl rfl (by decide) zn_X7_back_X7 (List.mem_of_getElem? (i := 3) rfl) rfl dX7_back_28 ?_
      refine lv_iload_n hx hb dX7_back_31 rfl (lv_at hl 1 rfl) ?_
      obtain ⟨h7, hF⟩ := zs_ckS hF
      by_cases c8 : u1 = (0 : Int32)
      · have hF := zs_t hF c8
        refine zs_aald0 C hK S 1 rfl c8 h7 dX7_back_32 ?_
        obtain ⟨Prw9, f10, hF⟩ := zs_bdS hF
        refine zs_callv (wr := wX7 G aXm aTx aRd aPr aSg aAh aIm0 aIm1 aYt aYr Xm tr ++ wX1 G aIm1 Im1) (ws' := wX7 G aXm aTx aRd aPr aSg aAh aIm0 aIm1 aYt aYr Xm tr ++ wX1 G aPr Prw9 ++ wX1 G aIm0 Im0 ++ wX1 G aIm1 Im1) S hA [2, 3, 4, 5, 6, 7, 8, 9] [0, 1, 10, 11, 12, 13] [0, 1, 6, 7, 8, 9, 10, 11, 12, 13, 2, 3, 4, 5] (zs_runV C hK hA S [.ref (aIm0 0)] [] [2, 3, 4, 5, 6, 7, 8, 9] 2 1 (c_X1_copyWithChanges l G aPr aIm0 Pr Im0 H.size Prw9 f10) gX7_back_X1_copyWithChanges rfl rfl rfl zd_X1_copyWithChanges ⟨Nat.le_of_ble_eq_true rfl, Nat.le_of_ble_eq_true rfl⟩ rfl rfl rfl rfl rfl hl rfl (Nat.le_of_ble_eq_true rfl) dX7_back_33 ⟨Nat.le_of_ble_eq_true rfl, Nat.le_of_ble_eq_true rfl⟩) rfl rfl rfl (by decide) rfl rfl (fun H locs S => ?_)
        refine lv_aload_n hx hb dX7_back_36 rfl (lv_at hl 0 rfl) ?_
        refine zs_get C hK S 0 2 (Cn := RX7) (T := TX7) (N := 10) (ci := 7) rfl rfl (by decide) zn_X7_back_X7 (List.mem_of_getElem? (i := 2) rfl) rfl dX7_back_37 ?_
        refine zs_get C hK S 2 0 (Cn := RX1) (T := TX1) (N := 8) (ci := 1) rfl rfl (by decide) zn_X7_back_X1 (List.mem_of_getElem? (i := 4) rfl) rfl dX7_back_40 ?_
        obtain ⟨e11, e12⟩ := zs_s2 hF
        exact zs_iretE C S e11 (by rw [e12]) dX7_back_43
      · have hF := zs_f hF c8
        refine zs_aald1 C hK S 1 rfl c8 h7 dX7_back_32 ?_
        obtain ⟨Prw13, f14, hF⟩ := zs_bdS hF
        refine zs_callv (wr := wX7 G aXm aTx aRd aPr aSg aAh aIm0 aIm1 aYt aYr Xm tr ++ wX1 G aIm0 Im0) (ws' := wX7 G aXm aTx aRd aPr aSg aAh aIm0 aIm1 aYt aYr Xm tr ++ wX1 G aPr Prw13 ++ wX1 G aIm0 Im0 ++ wX1 G aIm1 Im1) S hA [2, 3, 4, 5, 10, 11, 12, 13] [0, 1, 6, 7, 8, 9] [0, 1, 6, 7, 8, 9, 2, 3, 4, 5, 10, 11, 12, 13] (zs_runV C hK hA S [.ref (aIm1 0)] [] [2, 3, 4, 5, 10, 11, 12, 13] 2 1 (c_X1_copyWithChanges l G aPr aIm1 Pr Im1 H.size Prw13 f14) gX7_back_X1_copyWithChanges rfl rfl rfl zd_X1_copyWithChanges ⟨Nat.le_of_ble_eq_true rfl, Nat.le_of_ble_eq_true rfl⟩ rfl rfl rfl rfl rfl hl rfl (Nat.le_of_ble_eq_true rfl) dX7_back_33 ⟨Nat.le_of_ble_eq_true rfl, Nat.le_of_ble_eq_true rfl⟩) rfl rfl rfl (by decide) rfl rfl (fun H locs S => ?_)
        refine lv_aload_n hx hb dX7_back_36 rfl (lv_at hl 0 rfl) ?_
        refine zs_get C hK S 0 2 (Cn := RX7) (T := TX7) (N := 10) (ci := 7) rfl rfl (by decide) zn_X7_back_X7 (List.mem_of_getElem? (i := 2) rfl) rfl dX7_back_37 ?_
        refine zs_get C hK S 2 0 (Cn := RX1) (T := TX1) (N := 8) (ci := 1) rfl rfl (by decide) zn_X7_back_X1 (List.mem_of_getElem? (i := 4) rfl) rfl dX7_back_40 ?_
        obtain ⟨e15, e16⟩ := zs_s2 hF
        exact zs_iretE C S e15 (by rw [e16]) dX7_back_43
    · have hF := zs_t hF c6
      refine lv_bipush (v := (-2 : Int32)) hx hb dX7_back_20 (by decide) ?_
      obtain ⟨e17, e18⟩ := zs_s2 hF
      exact zs_iretE C S e17 (by rw [e18]) dX7_back_22
  · have hF := zs_t hF c3
    refine lv_iconst (v := (-1 : Int32)) hx hb dX7_back_7 (by decide) ?_
    obtain ⟨e19, e20⟩ := zs_s2 hF
    exact zs_iretE C S e19 (by rw [e20]) dX7_back_8

theorem zd_X2_readInto : yX2_readInto.cls = RX2 ∧ yX2_readInto.cls ≠ "java/lang/invoke/MethodHandle" ∧ yX2_readInto.cls ≠ "java/lang/invoke/VarHandle" ∧ (parseMethodDescriptor yX2_readInto.desc).map (fun d => d.parameters.length) = some 2 := by decide +kernel
abbrev RMX7_walls : Room := { frames := 10, cells := 0, slots := 0, locals := 224 }
theorem zn_X7_walls_X3 : ∀ w ∈ wsX30, w ∈ wsX7_walls := zs_inl wsX30 [223, 224, 225, 226] (by decide +kernel)
theorem zn_X7_walls_X4 : ∀ w ∈ wsX40, w ∈ wsX7_walls := zs_inl wsX40 [221, 222] (by decide +kernel)
theorem zn_X7_walls_X7 : ∀ w ∈ wsX70, w ∈ wsX7_walls := zs_inl wsX70 [211, 212, 213, 214, 215, 216, 217, 218, 219, 220] (by decide +kernel)
set_option maxRecDepth 100000 in
set_option maxHeartbeats 4000000 in
theorem c_X7_walls (l : Launch) (G : GG) (aXm aTx aRd aPr aSg aAh aIm0 aIm1 aYt aYr aTk : Ad) (Xm : Ob) (tr : Int64) (Tx : Ob) (Rd : Ob) (Tk : Ob) (Pr : Ob) (Sg : Ob) (Yt : Ob) (Yr : Ob) (sz : Nat) (rr : Int32) (Xm_ : Ob) (Tx_ : Ob) (Rd_ : Ob) (Tk_ : Ob) (Pr_ : Ob) (Sg_ : Ob) (Yt_ : Ob) (Yr_ : Ob) (aYt_ : Ad) (aYr_ : Ad) (hF : F_X7_walls Xm Tx Rd Tk Pr Sg Yt Yr aYt aYr = some (rr, (Xm_, (Tx_, (Rd_, (Tk_, (Pr_, (Sg_, (Yt_, (Yr_, (aYt_, aYr_))))))))))) : Met l yX7_walls wsX7_walls RMX7_walls (va_Pc [.ref (aXm 0)] (zs_pre G (wX7 G aXm aTx aRd aPr aSg aAh aIm0 aIm1 aYt aYr Xm tr ++ wX4 G aTx Tx ++ wX2 G aRd aTk Rd ++ wX5 G aTk Tk ++ wX1 G aPr Pr ++ wX3 G aSg Sg ++ wX6 G aYt Yt ++ wX6 G aYr Yr) sz)) (zs_Qi G (wX7 G aXm aTx aRd aPr aSg aAh aIm0 aIm1 aYt_ aYr_ Xm_ tr ++ wX4 G aTx Tx_ ++ wX2 G aRd aTk Rd_ ++ wX5 G aTk Tk_ ++ wX1 G aPr Pr_ ++ wX3 G aSg Sg_ ++ wX6 G aYt_ Yt_ ++ wX6 G aYr_ Yr_) rr (va_A (wX7 G aXm aTx aRd aPr aSg aAh aIm0 aIm1 aYt aYr Xm tr ++ wX4 G aTx Tx ++ wX2 G aRd aTk Rd ++ wX5 G aTk Tk ++ wX1 G aPr Pr ++ wX3 G aSg Sg ++ wX6 G aYt Yt ++ wX6 G aYr Yr) sz)) 0 0 (va_A (wX7 G aXm aTx aRd aPr aSg aAh aIm0 aIm1 aYt aYr Xm tr ++ wX4 G aTx Tx ++ wX2 G aRd aTk Rd ++ wX5 G aTk Tk ++ wX1 G aPr Pr ++ wX3 G aSg Sg ++ wX6 G aYt Yt ++ wX6 G aYr Yr) sz) := by
  refine zs_met (cc := cX7_walls) (maxL := 3) (ret := (some .int)) (own := RX7) (Qc := zs_Qi G (wX7 G aXm aTx aRd aPr aSg aAh aIm0 aIm1 aYt_ aYr_ Xm_ tr ++ wX4 G aTx Tx_ ++ wX2 G aRd aTk Rd_ ++ wX5 G aTk Tk_ ++ wX1 G aPr Pr_ ++ wX3 G aSg Sg_ ++ wX6 G aYt_ Yt_ ++ wX6 G aYr_ Yr_) rr) (by decide) rfl rfl (Nat.le_of_ble_eq_true rfl) ?_
  intro p e s m args below meth c C A hK hA S _ _ ls hl
  have hl : lv_has ls 3 [(0, .ref (aXm 0))] := hl
  have hx := C.1.1
  have hb := C.1.2.1
  unfold F_X7_walls at hF
  refine lv_aload_n hx hb dX7_walls_0 rfl (lv_at hl 0 rfl) ?_
  refine zs_get C hK S 0 1 (Cn := RX7) (T := TX7) (N := 10) (ci := 7) rfl rfl (by decide) zn_X7_walls_X7 (List.mem_of_getElem? (i := 1) rfl) rfl dX7_walls_1 ?_
  refine lv_aload_n hx hb dX7_walls_4 rfl (lv_at hl 0 rfl) ?_
  refine zs_get C hK S 0 7 (Cn := RX7) (T := TX7) (N := 10) (ci := 7) rfl rfl (by decide) zn_X7_walls_X7 (List.mem_of_getElem? (i := 2) rfl) rfl dX7_walls_5 ?_
  refine lv_aload_n hx hb dX7_walls_8 rfl (lv_at hl 0 rfl) ?_
  refine zs_get C hK S 0 0 (Cn := RX7) (T := TX7) (N := 10) (ci := 7) rfl rfl (by decide) zn_X7_walls_X7 (List.mem_of_getElem? (i := 3) rfl) rfl dX7_walls_9 ?_
  obtain ⟨r1, Rdw2, Tkw3, Yrw4, f5, hF⟩ := zs_b4S hF
  refine zs_calli (wr := wX7 G aXm aTx aRd aPr aSg aAh aIm0 aIm1 aYt aYr Xm tr ++ wX1 G aPr Pr ++ wX3 G aSg Sg ++ wX6 G aYt Yt) (ws' := wX7 G aXm aTx aRd aPr aSg aAh aIm0 aIm1 aYt aYr Xm tr ++ wX4 G aTx Tx ++ wX2 G aRd aTk Rdw2 ++ wX5 G aTk Tkw3 ++ wX1 G aPr Pr ++ wX3 G aSg Sg ++ wX6 G aYt Yt ++ wX6 G aYr Yrw4) S hA [4, 5, 6, 7, 8, 25, 26, 27, 28, 29, 30, 31, 32, 2, 3] [0, 1, 9, 10, 11, 12, 13, 14, 15, 16, 17, 18, 19, 20, 21, 22, 23, 24] [0, 1, 31, 32, 18, 19, 20, 21, 22, 2, 3, 4, 5, 6, 7, 8, 9, 10, 11, 12, 13, 14, 15, 16, 17, 23, 24, 25, 26, 27, 28, 29, 30] (zs_runV C hK hA S [.ref (aYr 0), .ref (aTx 0)] [] [4, 5, 6, 7, 8, 25, 26, 27, 28, 29, 30, 31, 32, 2, 3] 4 2 (c_X2_readInto l G aRd aTk aYr aTx Rd Tk Yr Tx s.heap.size r1 Rdw2 Tkw3 Yrw4 f5) gX7_walls_X2_readInto rfl rfl rfl zd_X2_readInto ⟨Nat.le_of_ble_eq_true rfl, Nat.le_of_ble_eq_true rfl⟩ rfl rfl rfl rfl rfl hl rfl (Nat.le_of_ble_eq_true rfl) dX7_walls_12 ⟨Nat.le_of_ble_eq_true rfl, Nat.le_of_ble_eq_true rfl⟩) rfl rfl rfl (by decide) rfl rfl (fun H locs S => ?_)
  refine lv_istore_n (lv' := [(1, .int r1), (0, .ref (aXm 0))]) hx hb dX7_walls_15 rfl hl (by decide) rfl (fun ls hl => ?_)
  refine lv_iload_n hx hb dX7_walls_16 rfl (lv_at hl 0 rfl) ?_
  refine lv_if_ge (tgt := 22) hx hb dX7_walls_17 (by decide) (fun c6 => ?_) (fun c6 => ?_)
  · have hF := zs_t hF c6
    refine lv_aload_n hx hb dX7_walls_22 rfl (lv_at hl 1 rfl) ?_
    refine zs_get C hK S 0 6 (Cn := RX7) (T := TX7) (N := 10) (ci := 7) rfl rfl (by decide) zn_X7_walls_X7 (List.mem_of_getElem? (i := 4) rfl) rfl dX7_walls_23 ?_
    refine lv_astore_n (lv' := [(2, .ref (aYt 0)), (1, .int r1), (0, .ref (aXm 0))]) hx hb dX7_walls_26 rfl hl (by decide) rfl (fun ls hl => ?_)
    refine lv_aload_n hx hb dX7_walls_27 rfl (lv_at hl 2 rfl) ?_
    refine lv_aload_n hx hb dX7_walls_28 rfl (lv_at hl 2 rfl) ?_
    refine zs_get C hK S 0 7 (Cn := RX7) (T := TX7) (N := 10) (ci := 7) rfl rfl (by decide) zn_X7_walls_X7 (List.mem_of_getElem? (i := 2) rfl) rfl dX7_walls_29 ?_
    refine zs_put C hK S 0 6 (ws' := wX7 G aXm aTx aRd aPr aSg aAh aIm0 aIm1 aYr aYr Xm tr ++ wX4 G aTx Tx ++ wX2 G aRd aTk Rdw2 ++ wX5 G aTk Tkw3 ++ wX1 G aPr Pr ++ wX3 G aSg Sg ++ wX6 G aYt Yt ++ wX6 G aYr Yrw4) (Cn := RX7) (T := TX7) (N := 10) (ci := 7) rfl rfl (by decide) zn_X7_walls_X7 tyX7_ok nmX7 (List.mem_of_getElem? (i := 4) rfl) rfl rfl rfl (Nat.le_of_ble_eq_true rfl) rfl dX7_walls_32 (fun H locs S => ?_)
    refine lv_aload_n hx hb dX7_walls_35 rfl (lv_at hl 2 rfl) ?_
    refine lv_aload_n hx hb dX7_walls_36 rfl (lv_at hl 0 rfl) ?_
    refine zs_put C hK S 0 7 (ws' := wX7 G aXm aTx aRd aPr aSg aAh aIm0 aIm1 aYr aYt Xm tr ++ wX4 G aTx Tx ++ wX2 G aRd aTk Rdw2 ++ wX5 G aTk Tkw3 ++ wX1 G aPr Pr ++ wX3 G aSg Sg ++ wX6 G aYt Yt ++ wX6 G aYr Yrw4) (Cn := RX7) (T := TX7) (N := 10) (ci := 7) rfl rfl (by decide) zn_X7_walls_X7 tyX7_ok nmX7 (List.mem_of_getElem? (i := 2) rfl) rfl rfl rfl (Nat.le_of_ble_eq_true rfl) rfl dX7_walls_37 (fun H locs S => ?_)
    refine lv_aload_n hx hb dX7_walls_40 rfl (lv_at hl 2 rfl) ?_
    refine zs_get C hK S 0 0 (Cn := RX7) (T := TX7) (N := 10) (ci := 7) rfl rfl (by decide) zn_X7_walls_X7 (List.mem_of_getElem? (i := 3) rfl) rfl dX7_walls_41 ?_
    refine lv_iconst (v := (0 : Int32)) hx hb dX7_walls_44 (by decide) ?_
    obtain ⟨Txw7, e8⟩ : ∃ q : Ob, q = zs_up Tx 0 1 (0 : Int32) := ⟨_, rfl⟩
    have hF := zs_letS hF e8
    refine zs_put C hK S 2 1 (ws' := wX7 G aXm aTx aRd aPr aSg aAh aIm0 aIm1 aYr aYt Xm tr ++ wX4 G aTx Txw7 ++ wX2 G aRd aTk Rdw2 ++ wX5 G aTk Tkw3 ++ wX1 G aPr Pr ++ wX3 G aSg Sg ++ wX6 G aYt Yt ++ wX6 G aYr Yrw4) (Cn := RX4) (T := TX4) (N := 2) (ci := 4) rfl rfl (by decide) zn_X7_walls_X4 tyX4_ok nmX4 (List.mem_of_getElem? (i := 5) rfl) rfl rfl rfl (Nat.le_of_ble_eq_true rfl) (by rw [e8]; rfl) dX7_walls_45 (fun H locs S => ?_)
    refine lv_aload_n hx hb dX7_walls_48 rfl (lv_at hl 2 rfl) ?_
    refine zs_get C hK S 0 2 (Cn := RX7) (T := TX7) (N := 10) (ci := 7) rfl rfl (by decide) zn_X7_walls_X7 (List.mem_of_getElem? (i := 6) rfl) rfl dX7_walls_49 ?_
    refine lv_aload_n hx hb dX7_walls_52 rfl (lv_at hl 2 rfl) ?_
    refine zs_get C hK S 0 6 (Cn := RX7) (T := TX7) (N := 10) (ci := 7) rfl rfl (by decide) zn_X7_walls_X7 (List.mem_of_getElem? (i := 4) rfl) rfl dX7_walls_53 ?_
    obtain ⟨Prw9, f10, hF⟩ := zs_bdS hF
    refine zs_callv (wr := wX7 G aXm aTx aRd aPr aSg aAh aIm0 aIm1 aYr aYt Xm tr ++ wX4 G aTx Txw7 ++ wX2 G aRd aTk Rdw2 ++ wX5 G aTk Tkw3 ++ wX3 G aSg Sg ++ wX6 G aYt Yt) (ws' := wX7 G aXm aTx aRd aPr aSg aAh aIm0 aIm1 aYr aYt Xm tr ++ wX4 G aTx Txw7 ++ wX2 G aRd aTk Rdw2 ++ wX5 G aTk Tkw3 ++ wX1 G aPr Prw9 ++ wX3 G aSg Sg ++ wX6 G aYt Yt ++ wX6 G aYr Yrw4) S hA [9, 10, 11, 12, 25, 26, 27, 28, 29, 30, 31, 32] [0, 1, 2, 3, 4, 5, 6, 7, 8, 13, 14, 15, 16, 17, 18, 19, 20, 21, 22, 23, 24] [0, 1, 2, 3, 4, 5, 6, 7, 8, 21, 22, 23, 24, 9, 10, 11, 12, 13, 14, 15, 16, 17, 18, 19, 20, 25, 26, 27, 28, 29, 30, 31, 32] (zs_runV C hK hA S [.ref (aYr 0)] [] [9, 10, 11, 12, 25, 26, 27, 28, 29, 30, 31, 32] 9 1 (c_X1_begin l G aPr aYr Pr Yrw4 H.size Prw9 f10) gX7_walls_X1_begin rfl rfl rfl zd_X1_begin ⟨Nat.le_of_ble_eq_true rfl, Nat.le_of_ble_eq_true rfl⟩ rfl rfl rfl rfl rfl hl rfl (Nat.le_of_ble_eq_true rfl) dX7_walls_56 ⟨Nat.le_of_ble_eq_true rfl, Nat.le_of_ble_eq_true rfl⟩) rfl rfl rfl (by decide) rfl rfl (fun H locs S => ?_)
    refine lv_aload_n hx hb dX7_walls_59 rfl (lv_at hl 2 rfl) ?_
    refine zs_get C hK S 0 3 (Cn := RX7) (T := TX7) (N := 10) (ci := 7) rfl rfl (by decide) zn_X7_walls_X7 (List.mem_of_getElem? (i := 7) rfl) rfl dX7_walls_60 ?_
    refine lv_iconst (v := (0 : Int32)) hx hb dX7_walls_63 (by decide) ?_
    obtain ⟨Sgw11, e12⟩ : ∃ q : Ob, q = zs_up Sg 0 0 (0 : Int32) := ⟨_, rfl⟩
    have hF := zs_letS hF e12
    refine zs_put C hK S 13 0 (ws' := wX7 G aXm aTx aRd aPr aSg aAh aIm0 aIm1 aYr aYt Xm tr ++ wX4 G aTx Txw7 ++ wX2 G aRd aTk Rdw2 ++ wX5 G aTk Tkw3 ++ wX1 G aPr Prw9 ++ wX3 G aSg Sgw11 ++ wX6 G aYt Yt ++ wX6 G aYr Yrw4) (Cn := RX3) (T := TX3) (N := 4) (ci := 3) rfl rfl (by decide) zn_X7_walls_X3 tyX3_ok nmX3 (List.mem_of_getElem? (i := 8) rfl) rfl rfl rfl (Nat.le_of_ble_eq_true rfl) (by rw [e12]; rfl) dX7_walls_64 (fun H locs S => ?_)
    refine lv_aload_n hx hb dX7_walls_67 rfl (lv_at hl 2 rfl) ?_
    refine lv_iconst (v := (0 : Int32)) hx hb dX7_walls_68 (by decide) ?_
    obtain ⟨Xmw13, e14⟩ : ∃ q : Ob, q = zs_up Xm 0 8 (0 : Int32) := ⟨_, rfl⟩
    have hF := zs_letS hF e14
    refine zs_put C hK S 0 8 (ws' := wX7 G aXm aTx aRd aPr aSg aAh aIm0 aIm1 aYr aYt Xmw13 tr ++ wX4 G aTx Txw7 ++ wX2 G aRd aTk Rdw2 ++ wX5 G aTk Tkw3 ++ wX1 G aPr Prw9 ++ wX3 G aSg Sgw11 ++ wX6 G aYt Yt ++ wX6 G aYr Yrw4) (Cn := RX7) (T := TX7) (N := 10) (ci := 7) rfl rfl (by decide) zn_X7_walls_X7 tyX7_ok nmX7 (List.mem_of_getElem? (i := 9) rfl) rfl rfl rfl (Nat.le_of_ble_eq_true rfl) (by rw [e14]; rfl) dX7_walls_69 (fun H locs S => ?_)
    refine lv_iload_n hx hb dX7_walls_72 rfl (lv_at hl 1 rfl) ?_
    have S := zs_perm (ws' := wX7 G aXm aTx aRd aPr aSg aAh aIm0 aIm1 aYr aYt Xmw13 tr ++ wX4 G aTx Txw7 ++ wX2 G aRd aTk Rdw2 ++ wX5 G aTk Tkw3 ++ wX1 G aPr Prw9 ++ wX3 G aSg Sgw11 ++ wX6 G aYr Yrw4 ++ wX6 G aYt Yt) S [0, 1, 2, 3, 4, 5, 6, 7, 8, 9, 10, 11, 12, 13, 14, 15, 16, 25, 26, 27, 28, 29, 30, 31, 32, 17, 18, 19, 20, 21, 22, 23, 24] rfl rfl
    obtain ⟨e15, e16, e17, e18, e19, e20, e21, e22, e23, e24, e25⟩ := zs_s11 hF
    exact zs_iretE C S e15 (by rw [e16, e17, e18, e19, e20, e21, e22, e23, e24, e25]) dX7_walls_73
  · have hF := zs_f hF c6
    refine lv_iload_n hx hb dX7_walls_20 rfl (lv_at hl 0 rfl) ?_
    obtain ⟨e26, e27, e28, e29, e30, e31, e32, e33, e34, e35, e36⟩ := zs_s11 hF
    exact zs_iretE C S e26 (by rw [e27, e28, e29, e30, e31, e32, e33, e34, e35, e36]) dX7_walls_21

