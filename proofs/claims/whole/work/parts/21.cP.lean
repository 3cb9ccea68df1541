abbrev RMX1_begin : Room := { frames := 0, cells := 0, slots := 0, locals := 0 }
theorem zn_X1_begin_X1 : ∀ w ∈ wsX10, w ∈ wsX1_begin := zs_inl wsX10 [8, 9, 10, 11, 12, 13, 14, 15] (by decide +kernel)
theorem zn_X1_begin_X6 : ∀ w ∈ wsX60, w ∈ wsX1_begin := zs_inl wsX60 [16, 17, 18, 19, 20, 21, 22, 23, 24] (by decide +kernel)
set_option maxRecDepth 100000 in
set_option maxHeartbeats 4000000 in
theorem c_X1_begin (l : Launch) (G : GG) (aPr aYd : Ad) (Pr : Ob) (Yd : Ob) (sz : Nat) (Pr_ : Ob) (hF : F_X1_begin Pr Yd = some Pr_) : Met l yX1_begin wsX1_begin RMX1_begin (va_Pc [.ref (aPr 0), .ref (aYd 0)] (zs_pre G (wX1 G aPr Pr ++ wX6 G aYd Yd) sz)) (zs_Qv G (wX1 G aPr Pr_ ++ wX6 G aYd Yd) (va_A (wX1 G aPr Pr ++ wX6 G aYd Yd) sz)) 0 0 (va_A (wX1 G aPr Pr ++ wX6 G aYd Yd) sz) := by
  refine zs_met (cc := cX1_begin) (maxL := 3) (ret := none) (own := RX1) (Qc := zs_Qv G (wX1 G aPr Pr_ ++ wX6 G aYd Yd)) (by decide) rfl rfl (Nat.le_of_ble_eq_true rfl) ?_
  intro p e s m args below meth c C A hK hA S _ _ ls hl
  have hl : lv_has ls 3 [(0, .ref (aPr 0)), (1, .ref (aYd 0))] := hl
  have hx := C.1.1
  have hb := C.1.2.1
  unfold F_X1_begin at hF
  have j27 : ∀ (n27 : Nat) (Pr : Ob) (x2 : Int32) (H : Heap) (locs : List Loc) (ls : Array Slot), zs_S G A s.heap H locs (wX1 G aPr Pr ++ wX6 G aYd Yd) → lv_has ls 3 [(0, .ref (aPr 0)), (1, .ref (aYd 0)), (2, .int x2)] → F_X1_begin_27 Yd n27 Pr x2 = some Pr_ → W p l e RMX1_begin s m args below meth c H locs 0 0 (MQ below (zs_Qv G (wX1 G aPr Pr_ ++ wX6 G aYd Yd) A) args s 0 0 A) (F0 m 27 ls []) := by
    intro n27
    induction n27 with
    | zero => intro Pr x2 H locs ls _ _ hF; rw [F_X1_begin_27_z] at hF; cases hF
    | succ n27 ih27 =>
      intro Pr x2 H locs ls S hl hF
      rw [F_X1_begin_27_n] at hF
      unfold F_X1_begin_27_s at hF
      refine lv_iload_n hx hb dX1_begin_27 rfl (lv_at hl 2 rfl) ?_
      refine lv_bipush (v := (6 : Int32)) hx hb dX1_begin_28 (by decide) ?_
      refine lv_icmp_ge (tgt := 51) hx hb dX1_begin_30 (by decide) (fun c1 => ?_) (fun c1 => ?_)
      · have hF := zs_t hF c1
        have e2 := zs_s1 hF
        exact zs_vretE C S (by rw [e2]) dX1_begin_51
      · have hF := zs_f hF c1
        refine lv_aload_n hx hb dX1_begin_33 rfl (lv_at hl 0 rfl) ?_
        refine zs_get C hK S 0 5 (Cn := RX1) (T := TX1) (N := 8) (ci := 1) rfl rfl (by decide) zn_X1_begin_X1 (List.mem_of_getElem? (i := 6) rfl) rfl dX1_begin_34 ?_
        refine lv_iload_n hx hb dX1_begin_37 rfl (lv_at hl 2 rfl) ?_
        refine lv_aload_n hx hb dX1_begin_38 rfl (lv_at hl 1 rfl) ?_
        refine zs_get C hK S 4 2 (Cn := RX6) (T := TX6) (N := 9) (ci := 6) rfl rfl (by decide) zn_X1_begin_X6 (List.mem_of_getElem? (i := 7) rfl) rfl dX1_begin_39 ?_
        refine lv_iload_n hx hb dX1_begin_42 rfl (lv_at hl 2 rfl) ?_
        obtain ⟨h3, hF⟩ := zs_ckS hF
        refine zs_iald C hK S 5 rfl h3 dX1_begin_43 ?_
        obtain ⟨h4, hF⟩ := zs_ckS hF
        obtain ⟨Prw5, e6⟩ : ∃ q : Ob, q = zs_up Pr 1 (x2).toNatClampNeg (Yd 1 (x2).toNatClampNeg) := ⟨_, rfl⟩
        have hF := zs_letS hF e6
        refine zs_iast C hK S 1 (ws' := wX1 G aPr Prw5 ++ wX6 G aYd Yd) rfl h4 (by rw [e6]; rfl) dX1_begin_44 (fun H locs S => ?_)
        obtain ⟨z7, e8⟩ : ∃ q : Int32, q = x2 + (1 : Int32) := ⟨_, rfl⟩
        have hF := zs_letS hF e8
        refine lv_iinc (v := z7) (lv' := [(2, .int z7), (0, .ref (aPr 0)), (1, .ref (aYd 0))]) hx hb dX1_begin_45 hl (k := 2) rfl (by rw [e8]; rfl) (by decide) rfl (fun ls hl => ?_)
        refine lv_goto (tgt := 27) hx hb dX1_begin_48 (by decide) ?_
        exact ih27 Prw5 z7 _ _ _ S (lv_sub hl [1, 2, 0] rfl) hF
  refine lv_aload_n hx hb dX1_begin_0 rfl (lv_at hl 0 rfl) ?_
  refine lv_iconst (v := (0 : Int32)) hx hb dX1_begin_1 (by decide) ?_
  obtain ⟨Prw9, e10⟩ : ∃ q : Ob, q = zs_up Pr 0 0 (0 : Int32) := ⟨_, rfl⟩
  have hF := zs_letS hF e10
  refine zs_put C hK S 0 0 (ws' := wX1 G aPr Prw9 ++ wX6 G aYd Yd) (Cn := RX1) (T := TX1) (N := 8) (ci := 1) rfl rfl (by decide) zn_X1_begin_X1 tyX1_ok nmX1 (List.mem_of_getElem? (i := 1) rfl) rfl rfl rfl (Nat.le_of_ble_eq_true rfl) (by rw [e10]; rfl) dX1_begin_2 (fun H locs S => ?_)
  refine lv_aload_n hx hb dX1_begin_5 rfl (lv_at hl 0 rfl) ?_
  refine lv_iconst (v := (0 : Int32)) hx hb dX1_begin_6 (by decide) ?_
  obtain ⟨Prw11, e12⟩ : ∃ q : Ob, q = zs_up Prw9 0 1 (0 : Int32) := ⟨_, rfl⟩
  have hF := zs_letS hF e12
  refine zs_put C hK S 0 1 (ws' := wX1 G aPr Prw11 ++ wX6 G aYd Yd) (Cn := RX1) (T := TX1) (N := 8) (ci := 1) rfl rfl (by decide) zn_X1_begin_X1 tyX1_ok nmX1 (List.mem_of_getElem? (i := 2) rfl) rfl rfl rfl (Nat.le_of_ble_eq_true rfl) (by rw [e12]; rfl) dX1_begin_7 (fun H locs S => ?_)
  refine lv_aload_n hx hb dX1_begin_10 rfl (lv_at hl 0 rfl) ?_
  refine lv_iconst (v := (0 : Int32)) hx hb dX1_begin_11 (by decide) ?_
  obtain ⟨Prw13, e14⟩ : ∃ q : Ob, q = zs_up Prw11 0 2 (0 : Int32) := ⟨_, rfl⟩
  have hF := zs_letS hF e14
  refine zs_put C hK S 0 2 (ws' := wX1 G aPr Prw13 ++ wX6 G aYd Yd) (Cn := RX1) (T := TX1) (N := 8) (ci := 1) rfl rfl (by decide) zn_X1_begin_X1 tyX1_ok nmX1 (List.mem_of_getElem? (i := 3) rfl) rfl rfl rfl (Nat.le_of_ble_eq_true rfl) (by rw [e14]; rfl) dX1_begin_12 (fun H locs S => ?_)
  refine lv_aload_n hx hb dX1_begin_15 rfl (lv_at hl 0 rfl) ?_
  refine lv_iconst (v := (0 : Int32)) hx hb dX1_begin_16 (by decide) ?_
  obtain ⟨Prw15, e16⟩ : ∃ q : Ob, q = zs_up Prw13 0 3 (0 : Int32) := ⟨_, rfl⟩
  have hF := zs_letS hF e16
  refine zs_put C hK S 0 3 (ws' := wX1 G aPr Prw15 ++ wX6 G aYd Yd) (Cn := RX1) (T := TX1) (N := 8) (ci := 1) rfl rfl (by decide) zn_X1_begin_X1 tyX1_ok nmX1 (List.mem_of_getElem? (i := 4) rfl) rfl rfl rfl (Nat.le_of_ble_eq_true rfl) (by rw [e16]; rfl) dX1_begin_17 (fun H locs S => ?_)
  refine lv_aload_n hx hb dX1_begin_20 rfl (lv_at hl 0 rfl) ?_
  refine lv_iconst (v := (0 : Int32)) hx hb dX1_begin_21 (by decide) ?_
  obtain ⟨Prw17, e18⟩ : ∃ q : Ob, q = zs_up Prw15 0 4 (0 : Int32) := ⟨_, rfl⟩
  have hF := zs_letS hF e18
  refine zs_put C hK S 0 4 (ws' := wX1 G aPr Prw17 ++ wX6 G aYd Yd) (Cn := RX1) (T := TX1) (N := 8) (ci := 1) rfl rfl (by decide) zn_X1_begin_X1 tyX1_ok nmX1 (List.mem_of_getElem? (i := 5) rfl) rfl rfl rfl (Nat.le_of_ble_eq_true rfl) (by rw [e18]; rfl) dX1_begin_22 (fun H locs S => ?_)
  refine lv_iconst (v := (0 : Int32)) hx hb dX1_begin_25 (by decide) ?_
  refine lv_istore_n (lv' := [(2, .int (0 : Int32)), (0, .ref (aPr 0)), (1, .ref (aYd 0))]) hx hb dX1_begin_26 rfl hl (by decide) rfl (fun ls hl => ?_)
  exact j27 1000 Prw17 (0 : Int32) _ _ _ S (lv_sub hl [1, 2, 0] rfl) hF

abbrev RMX1_copy : Room := { frames := 0, cells := 0, slots := 0, locals := 0 }
theorem zn_X1_copy_X1 : ∀ w ∈ wsX10, w ∈ wsX1_copy := zs_inl wsX10 [6, 7, 8, 9, 10, 11, 12, 13] (by decide +kernel)
set_option maxRecDepth 100000 in
set_option maxHeartbeats 4000000 in
theorem c_X1_copy (l : Launch) (G : GG) (aPr aPo : Ad) (Pr : Ob) (Po : Ob) (sz : Nat) (Pr_ : Ob) (hF : F_X1_copy Pr Po = some Pr_) : Met l yX1_copy wsX1_copy RMX1_copy (va_Pc [.ref (aPr 0), .ref (aPo 0)] (zs_pre G (wX1 G aPr Pr ++ wX1 G aPo Po) sz)) (zs_Qv G (wX1 G aPr Pr_ ++ wX1 G aPo Po) (va_A (wX1 G aPr Pr ++ wX1 G aPo Po) sz)) 0 0 (va_A (wX1 G aPr Pr ++ wX1 G aPo Po) sz) := by
  refine zs_met (cc := cX1_copy) (maxL := 3) (ret := none) (own := RX1) (Qc := zs_Qv G (wX1 G aPr Pr_ ++ wX1 G aPo Po)) (by decide) rfl rfl (Nat.le_of_ble_eq_true rfl) ?_
  intro p e s m args below meth c C A hK hA S _ _ ls hl
  have hl : lv_has ls 3 [(0, .ref (aPr 0)), (1, .ref (aPo 0))] := hl
  have hx := C.1.1
  have hb := C.1.2.1
  unfold F_X1_copy at hF
  have j34 : ∀ (n34 : Nat) (Pr : Ob) (x2 : Int32) (H : Heap) (locs : List Loc) (ls : Array Slot), zs_S G A s.heap H locs (wX1 G aPr Pr ++ wX1 G aPo Po) → lv_has ls 3 [(0, .ref (aPr 0)), (1, .ref (aPo 0)), (2, .int x2)] → F_X1_copy_34 Po n34 Pr x2 = some Pr_ → W p l e RMX1_copy s m args below meth c H locs 0 0 (MQ below (zs_Qv G (wX1 G aPr Pr_ ++ wX1 G aPo Po) A) args s 0 0 A) (F0 m 34 ls []) := by
    intro n34
    induction n34 with
    | zero => intro Pr x2 H locs ls _ _ hF; rw [F_X1_copy_34_z] at hF; cases hF
    | succ n34 ih34 =>
      intro Pr x2 H locs ls S hl hF
      rw [F_X1_copy_34_n] at hF
      unfold F_X1_copy_34_s at hF
      refine lv_iload_n hx hb dX1_copy_34 rfl (lv_at hl 2 rfl) ?_
      refine lv_bipush (v := (6 : Int32)) hx hb dX1_copy_35 (by decide) ?_
      refine lv_icmp_ge (tgt := 58) hx hb dX1_copy_37 (by decide) (fun c1 => ?_) (fun c1 => ?_)
      · have hF := zs_t hF c1
        have e2 := zs_s1 hF
        exact zs_vretE C S (by rw [e2]) dX1_copy_58
      · have hF := zs_f hF c1
        refine lv_aload_n hx hb dX1_copy_40 rfl (lv_at hl 0 rfl) ?_
        refine zs_get C hK S 0 5 (Cn := RX1) (T := TX1) (N := 8) (ci := 1) rfl rfl (by decide) zn_X1_copy_X1 (List.mem_of_getElem? (i := 5) rfl) rfl dX1_copy_41 ?_
        refine lv_iload_n hx hb dX1_copy_44 rfl (lv_at hl 2 rfl) ?_
        refine lv_aload_n hx hb dX1_copy_45 rfl (lv_at hl 1 rfl) ?_
        refine zs_get C hK S 4 5 (Cn := RX1) (T := TX1) (N := 8) (ci := 1) rfl rfl (by decide) zn_X1_copy_X1 (List.mem_of_getElem? (i := 5) rfl) rfl dX1_copy_46 ?_
        refine lv_iload_n hx hb dX1_copy_49 rfl (lv_at hl 2 rfl) ?_
        obtain ⟨h3, hF⟩ := zs_ckS hF
        refine zs_iald C hK S 5 rfl h3 dX1_copy_50 ?_
        obtain ⟨h4, hF⟩ := zs_ckS hF
        obtain ⟨Prw5, e6⟩ : ∃ q : Ob, q = zs_up Pr 1 (x2).toNatClampNeg (Po 1 (x2).toNatClampNeg) := ⟨_, rfl⟩
        have hF := zs_letS hF e6
        refine zs_iast C hK S 1 (ws' := wX1 G aPr Prw5 ++ wX1 G aPo Po) rfl h4 (by rw [e6]; rfl) dX1_copy_51 (fun H locs S => ?_)
        obtain ⟨z7, e8⟩ : ∃ q : Int32, q = x2 + (1 : Int32) := ⟨_, rfl⟩
        have hF := zs_letS hF e8
        refine lv_iinc (v := z7) (lv' := [(2, .int z7), (0, .ref (aPr 0)), (1, .ref (aPo 0))]) hx hb dX1_copy_52 hl (k := 2) rfl (by rw [e8]; rfl) (by decide) rfl (fun ls hl => ?_)
        refine lv_goto (tgt := 34) hx hb dX1_copy_55 (by decide) ?_
        exact ih34 Prw5 z7 _ _ _ S (lv_sub hl [1, 2, 0] rfl) hF
  refine lv_aload_n hx hb dX1_copy_0 rfl (lv_at hl 0 rfl) ?_
  refine lv_aload_n hx hb dX1_copy_1 rfl (lv_at hl 1 rfl) ?_
  refine zs_get C hK S 4 0 (Cn := RX1) (T := TX1) (N := 8) (ci := 1) rfl rfl (by decide) zn_X1_copy_X1 (List.mem_of_getElem? (i := 1) rfl) rfl dX1_copy_2 ?_
  obtain ⟨Prw9, e10⟩ : ∃ q : Ob, q = zs_up Pr 0 0 (Po 0 0) := ⟨_, rfl⟩
  have hF := zs_letS hF e10
  refine zs_put C hK S 0 0 (ws' := wX1 G aPr Prw9 ++ wX1 G aPo Po) (Cn := RX1) (T := TX1) (N := 8) (ci := 1) rfl rfl (by decide) zn_X1_copy_X1 tyX1_ok nmX1 (List.mem_of_getElem? (i := 1) rfl) rfl rfl rfl (Nat.le_of_ble_eq_true rfl) (by rw [e10]; rfl) dX1_copy_5 (fun H locs S => ?_)
  refine lv_aload_n hx hb dX1_copy_8 rfl (lv_at hl 0 rfl) ?_
  refine lv_aload_n hx hb dX1_copy_9 rfl (lv_at hl 1 rfl) ?_
  refine zs_get C hK S 4 1 (Cn := RX1) (T := TX1) (N := 8) (ci := 1) rfl rfl (by decide) zn_X1_copy_X1 (List.mem_of_getElem? (i := 2) rfl) rfl dX1_copy_10 ?_
  obtain ⟨Prw11, e12⟩ : ∃ q : Ob, q = zs_up Prw9 0 1 (Po 0 1) := ⟨_, rfl⟩
  have hF := zs_letS hF e12
  refine zs_put C hK S 0 1 (ws' := wX1 G aPr Prw11 ++ wX1 G aPo Po) (Cn := RX1) (T := TX1) (N := 8) (ci := 1) rfl rfl (by decide) zn_X1_copy_X1 tyX1_ok nmX1 (List.mem_of_getElem? (i := 2) rfl) rfl rfl rfl (Nat.le_of_ble_eq_true rfl) (by rw [e12]; rfl) dX1_copy_13 (fun H locs S => ?_)
  refine lv_aload_n hx hb dX1_copy_16 rfl (lv_at hl 0 rfl) ?_
  refine lv_aload_n hx hb dX1_copy_17 rfl (lv_at hl 1 rfl) ?_
  refine zs_get C hK S 4 2 (Cn := RX1) (T := TX1) (N := 8) (ci := 1) rfl rfl (by decide) zn_X1_copy_X1 (List.mem_of_getElem? (i := 3) rfl) rfl dX1_copy_18 ?_
  obtain ⟨Prw13, e14⟩ : ∃ q : Ob, q = zs_up Prw11 0 2 (Po 0 2) := ⟨_, rfl⟩
  have hF := zs_letS hF e14
  refine zs_put C hK S 0 2 (ws' := wX1 G aPr Prw13 ++ wX1 G aPo Po) (Cn := RX1) (T := TX1) (N := 8) (ci := 1) rfl rfl (by decide) zn_X1_copy_X1 tyX1_ok nmX1 (List.mem_of_getElem? (i := 3) rfl) rfl rfl rfl (Nat.le_of_ble_eq_true rfl) (by rw [e14]; rfl) dX1_copy_21 (fun H locs S => ?_)
  refine lv_aload_n hx hb dX1_copy_24 rfl (lv_at hl 0 rfl) ?_
  refine lv_aload_n hx hb dX1_copy_25 rfl (lv_at hl 1 rfl) ?_
  refine zs_get C hK S 4 3 (Cn := RX1) (T := TX1) (N := 8) (ci := 1) rfl rfl (by decide) zn_X1_copy_X1 (List.mem_of_getElem? (i := 4) rfl) rfl dX1_copy_26 ?_
  obtain ⟨Prw15, e16⟩ : ∃ q : Ob, q = zs_up Prw13 0 3 (Po 0 3) := ⟨_, rfl⟩
  have hF := zs_letS hF e16
  refine zs_put C hK S 0 3 (ws' := wX1 G aPr Prw15 ++ wX1 G aPo Po) (Cn := RX1) (T := TX1) (N := 8) (ci := 1) rfl rfl (by decide) zn_X1_copy_X1 tyX1_ok nmX1 (List.mem_of_getElem? (i := 4) rfl) rfl rfl rfl (Nat.le_of_ble_eq_true rfl) (by rw [e16]; rfl) dX1_copy_29 (fun H locs S => ?_)
  refine lv_iconst (v := (0 : Int32)) hx hb dX1_copy_32 (by decide) ?_
  refine lv_istore_n (lv' := [(2, .int (0 : Int32)), (0, .ref (aPr 0)), (1, .ref (aPo 0))]) hx hb dX1_copy_33 rfl hl (by decide) rfl (fun ls hl => ?_)
  exact j34 1000 Prw15 (0 : Int32) _ _ _ S (lv_sub hl [1, 2, 0] rfl) hF

theorem zd_X1_copy : yX1_copy.cls = RX1 ∧ yX1_copy.cls ≠ "java/lang/invoke/MethodHandle" ∧ yX1_copy.cls ≠ "java/lang/invoke/VarHandle" ∧ (parseMethodDescriptor yX1_copy.desc).map (fun d => d.parameters.length) = some 1 := by decide +kernel
abbrev RMX1_copyWithChanges : Room := { frames := 1, cells := 0, slots := 0, locals := 22 }
theorem zn_X1_copyWithChanges_X1 : ∀ w ∈ wsX10, w ∈ wsX1_copyWithChanges := zs_inl wsX10 [13, 14, 15, 16, 17, 18, 19, 20] (by decide +kernel)
set_option maxRecDepth 100000 in
set_option maxHeartbeats 4000000 in
theorem c_X1_copyWithChanges (l : Launch) (G : GG) (aPr aPo : Ad) (Pr : Ob) (Po : Ob) (sz : Nat) (Pr_ : Ob) (hF : F_X1_copyWithChanges Pr Po = some Pr_) : Met l yX1_copyWithChanges wsX1_copyWithChanges RMX1_copyWithChanges (va_Pc [.ref (aPr 0), .ref (aPo 0)] (zs_pre G (wX1 G aPr Pr ++ wX1 G aPo Po) sz)) (zs_Qv G (wX1 G aPr Pr_ ++ wX1 G aPo Po) (va_A (wX1 G aPr Pr ++ wX1 G aPo Po) sz)) 0 0 (va_A (wX1 G aPr Pr ++ wX1 G aPo Po) sz) := by
  refine zs_met (cc := cX1_copyWithChanges) (maxL := 3) (ret := none) (own := RX1) (Qc := zs_Qv G (wX1 G aPr Pr_ ++ wX1 G aPo Po)) (by decide) rfl rfl (Nat.le_of_ble_eq_true rfl) ?_
  intro p e s m args below meth c C A hK hA S _ _ ls hl
  have hl : lv_has ls 3 [(0, .ref (aPr 0)), (1, .ref (aPo 0))] := hl
  have hx := C.1.1
  have hb := C.1.2.1
  unfold F_X1_copyWithChanges at hF
  have j15 : ∀ (n15 : Nat) (Pr : Ob) (x2 : Int32) (H : Heap) (locs : List Loc) (ls : Array Slot), zs_S G A s.heap H locs (wX1 G aPr Pr ++ wX1 G aPo Po) → lv_has ls 3 [(0, .ref (aPr 0)), (1, .ref (aPo 0)), (2, .int x2)] → F_X1_copyWithChanges_15 Po n15 Pr x2 = some Pr_ → W p l e RMX1_copyWithChanges s m args below meth c H locs 0 0 (MQ below (zs_Qv G (wX1 G aPr Pr_ ++ wX1 G aPo Po) A) args s 0 0 A) (F0 m 15 ls []) := by
    intro n15
    induction n15 with
    | zero => intro Pr x2 H locs ls _ _ hF; rw [F_X1_copyWithChanges_15_z] at hF; cases hF
    | succ n15 ih15 =>
      intro Pr x2 H locs ls S hl hF
      rw [F_X1_copyWithChanges_15_n] at hF
      unfold F_X1_copyWithChanges_15_s at hF
      refine lv_iload_n hx hb dX1_copyWithChanges_15 rfl (lv_at hl 2 rfl) ?_
      refine lv_bipush (v := (10 : Int32)) hx hb dX1_copyWithChanges_16 (by decide) ?_
      refine lv_icmp_ge (tgt := 39) hx hb dX1_copyWithChanges_18 (by decide) (fun c1 => ?_) (fun c1 => ?_)
      · have hF := zs_t hF c1
        have e2 := zs_s1 hF
        exact zs_vretE C S (by rw [e2]) dX1_copyWithChanges_39
      · have hF := zs_f hF c1
        refine lv_aload_n hx hb dX1_copyWithChanges_21 rfl (lv_at hl 0 rfl) ?_
        refine zs_get C hK S 0 7 (Cn := RX1) (T := TX1) (N := 8) (ci := 1) rfl rfl (by decide) zn_X1_copyWithChanges_X1 (List.mem_of_getElem? (i := 2) rfl) rfl dX1_copyWithChanges_22 ?_
        refine lv_iload_n hx hb dX1_copyWithChanges_25 rfl (lv_at hl 2 rfl) ?_
        refine lv_aload_n hx hb dX1_copyWithChanges_26 rfl (lv_at hl 1 rfl) ?_
        refine zs_get C hK S 4 7 (Cn := RX1) (T := TX1) (N := 8) (ci := 1) rfl rfl (by decide) zn_X1_copyWithChanges_X1 (List.mem_of_getElem? (i := 2) rfl) rfl dX1_copyWithChanges_27 ?_
        refine lv_iload_n hx hb dX1_copyWithChanges_30 rfl (lv_at hl 2 rfl) ?_
        obtain ⟨h3, hF⟩ := zs_ckS hF
        refine zs_iald C hK S 7 rfl h3 dX1_copyWithChanges_31 ?_
        obtain ⟨h4, hF⟩ := zs_ckS hF
        obtain ⟨Prw5, e6⟩ : ∃ q : Ob, q = zs_up Pr 3 (x2).toNatClampNeg (Po 3 (x2).toNatClampNeg) := ⟨_, rfl⟩
        have hF := zs_letS hF e6
        refine zs_iast C hK S 3 (ws' := wX1 G aPr Prw5 ++ wX1 G aPo Po) rfl h4 (by rw [e6]; rfl) dX1_copyWithChanges_32 (fun H locs S => ?_)
        obtain ⟨z7, e8⟩ : ∃ q : Int32, q = x2 + (1 : Int32) := ⟨_, rfl⟩
        have hF := zs_letS hF e8
        refine lv_iinc (v := z7) (lv' := [(2, .int z7), (0, .ref (aPr 0)), (1, .ref (aPo 0))]) hx hb dX1_copyWithChanges_33 hl (k := 2) rfl (by rw [e8]; rfl) (by decide) rfl (fun ls hl => ?_)
        refine lv_goto (tgt := 15) hx hb dX1_copyWithChanges_36 (by decide) ?_
        exact ih15 Prw5 z7 _ _ _ S (lv_sub hl [1, 2, 0] rfl) hF
  refine lv_aload_n hx hb dX1_copyWithChanges_0 rfl (lv_at hl 0 rfl) ?_
  refine lv_aload_n hx hb dX1_copyWithChanges_1 rfl (lv_at hl 1 rfl) ?_
  obtain ⟨Prw9, f10, hF⟩ := zs_bdS hF
  refine zs_callv (wr := ([] : va_W)) (ws' := wX1 G aPr Prw9 ++ wX1 G aPo Po) S hA [0, 1, 2, 3, 4, 5, 6, 7] [] [0, 1, 2, 3, 4, 5, 6, 7] (zs_runV C hK hA S [.ref (aPo 0)] [] [0, 1, 2, 3, 4, 5, 6, 7] 0 1 (c_X1_copy l G aPr aPo Pr Po s.heap.size Prw9 f10) gX1_copyWithChanges_X1_copy rfl rfl rfl zd_X1_copy ⟨Nat.le_of_ble_eq_true rfl, Nat.le_of_ble_eq_true rfl⟩ rfl rfl rfl rfl rfl hl rfl (Nat.le_of_ble_eq_true rfl) dX1_copyWithChanges_2 ⟨Nat.le_of_ble_eq_true rfl, Nat.le_of_ble_eq_true rfl⟩) rfl rfl rfl (by decide) rfl rfl (fun H locs S => ?_)
  refine lv_aload_n hx hb dX1_copyWithChanges_5 rfl (lv_at hl 0 rfl) ?_
  refine lv_aload_n hx hb dX1_copyWithChanges_6 rfl (lv_at hl 1 rfl) ?_
  refine zs_get C hK S 4 4 (Cn := RX1) (T := TX1) (N := 8) (ci := 1) rfl rfl (by decide) zn_X1_copyWithChanges_X1 (List.mem_of_getElem? (i := 1) rfl) rfl dX1_copyWithChanges_7 ?_
  obtain ⟨Prw11, e12⟩ : ∃ q : Ob, q = zs_up Prw9 0 4 (Po 0 4) := ⟨_, rfl⟩
  have hF := zs_letS hF e12
  refine zs_put C hK S 0 4 (ws' := wX1 G aPr Prw11 ++ wX1 G aPo Po) (Cn := RX1) (T := TX1) (N := 8) (ci := 1) rfl rfl (by decide) zn_X1_copyWithChanges_X1 tyX1_ok nmX1 (List.mem_of_getElem? (i := 1) rfl) rfl rfl rfl (Nat.le_of_ble_eq_true rfl) (by rw [e12]; rfl) dX1_copyWithChanges_10 (fun H locs S => ?_)
  refine lv_iconst (v := (0 : Int32)) hx hb dX1_copyWithChanges_13 (by decide) ?_
  refine lv_istore_n (lv' := [(2, .int (0 : Int32)), (0, .ref (aPr 0)), (1, .ref (aPo 0))]) hx hb dX1_copyWithChanges_14 rfl hl (by decide) rfl (fun ls hl => ?_)
  exact j15 1000 Prw11 (0 : Int32) _ _ _ S (lv_sub hl [1, 2, 0] rfl) hF

abbrev RMX1_turn : Room := { frames := 0, cells := 0, slots := 0, locals := 0 }
theorem zn_X1_turn_X1 : ∀ w ∈ wsX10, w ∈ wsX1_turn := zs_inl wsX10 [3, 4, 5, 6, 7, 8, 9, 10] (by decide +kernel)
set_option maxRecDepth 100000 in
set_option maxHeartbeats 4000000 in
theorem c_X1_turn (l : Launch) (G : GG) (aPr : Ad) (Pr : Ob) (u1 : Int32) (sz : Nat) (Pr_ : Ob) (hF : F_X1_turn Pr u1 = some Pr_) : Met l yX1_turn wsX1_turn RMX1_turn (va_Pc [.ref (aPr 0), .int u1] (zs_pre G (wX1 G aPr Pr) sz)) (zs_Qv G (wX1 G aPr Pr_) (va_A (wX1 G aPr Pr) sz)) 0 0 (va_A (wX1 G aPr Pr) sz) := by
  refine zs_met (cc := cX1_turn) (maxL := 2) (ret := none) (own := RX1) (Qc := zs_Qv G (wX1 G aPr Pr_)) (by decide) rfl rfl (Nat.le_of_ble_eq_true rfl) ?_
  intro p e s m args below meth c C A hK hA S _ _ ls hl
  have hl : lv_has ls 2 [(0, .ref (aPr 0)), (1, .int u1)] := hl
  have hx := C.1.1
  have hb := C.1.2.1
  unfold F_X1_turn at hF
  refine lv_iload_n hx hb dX1_turn_0 rfl (lv_at hl 1 rfl) ?_
  refine lv_bipush (v := (6 : Int32)) hx hb dX1_turn_1 (by decide) ?_
  refine lv_icmp_ge (tgt := 21) hx hb dX1_turn_3 (by decide) (fun c1 => ?_) (fun c1 => ?_)
  · have hF := zs_t hF c1
    refine lv_aload_n hx hb dX1_turn_21 rfl (lv_at hl 0 rfl) ?_
    refine lv_dup hx hb dX1_turn_22 rfl ?_
    refine zs_get C hK S 0 2 (Cn := RX1) (T := TX1) (N := 8) (ci := 1) rfl rfl (by decide) zn_X1_turn_X1 (List.mem_of_getElem? (i := 2) rfl) rfl dX1_turn_23 ?_
    refine lv_iconst (v := (1 : Int32)) hx hb dX1_turn_26 (by decide) ?_
    refine lv_iload_n hx hb dX1_turn_27 rfl (lv_at hl 1 rfl) ?_
    refine lv_bipush (v := (6 : Int32)) hx hb dX1_turn_28 (by decide) ?_
    refine lv_isub hx hb dX1_turn_30 ?_
    refine lv_ishl hx hb dX1_turn_31 ?_
    refine lv_ixor hx hb dX1_turn_32 ?_
    obtain ⟨Prw2, e3⟩ : ∃ q : Ob, q = zs_up Pr 0 2 ((Pr 0 2) ^^^ ((1 : Int32) <<< ((u1 - (6 : Int32)) &&& 31))) := ⟨_, rfl⟩
    have hF := zs_letS hF e3
    refine zs_put C hK S 0 2 (ws' := wX1 G aPr Prw2) (Cn := RX1) (T := TX1) (N := 8) (ci := 1) rfl rfl (by decide) zn_X1_turn_X1 tyX1_ok nmX1 (List.mem_of_getElem? (i := 2) rfl) rfl rfl rfl (Nat.le_of_ble_eq_true rfl) (by rw [e3]; rfl) dX1_turn_33 (fun H locs S => ?_)
    have e4 := zs_s1 hF
    exact zs_vretE C S (by rw [e4]) dX1_turn_36
  · have hF := zs_f hF c1
    refine lv_aload_n hx hb dX1_turn_6 rfl (lv_at hl 0 rfl) ?_
    refine lv_dup hx hb dX1_turn_7 rfl ?_
    refine zs_get C hK S 0 1 (Cn := RX1) (T := TX1) (N := 8) (ci := 1) rfl rfl (by decide) zn_X1_turn_X1 (List.mem_of_getElem? (i := 1) rfl) rfl dX1_turn_8 ?_
    refine lv_iconst (v := (1 : Int32)) hx hb dX1_turn_11 (by decide) ?_
    refine lv_iload_n hx hb dX1_turn_12 rfl (lv_at hl 1 rfl) ?_
    refine lv_ishl hx hb dX1_turn_13 ?_
    refine lv_ixor hx hb dX1_turn_14 ?_
    obtain ⟨Prw5, e6⟩ : ∃ q : Ob, q = zs_up Pr 0 1 ((Pr 0 1) ^^^ ((1 : Int32) <<< (u1 &&& 31))) := ⟨_, rfl⟩
    have hF := zs_letS hF e6
    refine zs_put C hK S 0 1 (ws' := wX1 G aPr Prw5) (Cn := RX1) (T := TX1) (N := 8) (ci := 1) rfl rfl (by decide) zn_X1_turn_X1 tyX1_ok nmX1 (List.mem_of_getElem? (i := 1) rfl) rfl rfl rfl (Nat.le_of_ble_eq_true rfl) (by rw [e6]; rfl) dX1_turn_15 (fun H locs S => ?_)
    refine lv_goto (tgt := 36) hx hb dX1_turn_18 (by decide) ?_
    have e7 := zs_s1 hF
    exact zs_vretE C S (by rw [e7]) dX1_turn_36

theorem zd_X1_turn : yX1_turn.cls = RX1 ∧ yX1_turn.cls ≠ "java/lang/invoke/MethodHandle" ∧ yX1_turn.cls ≠ "java/lang/invoke/VarHandle" ∧ (parseMethodDescriptor yX1_turn.desc).map (fun d => d.parameters.length) = some 1 := by decide +kernel
abbrev RMX1_change : Room := { frames := 1, cells := 0, slots := 0, locals := 21 }
theorem zn_X1_change_X1 : ∀ w ∈ wsX10, w ∈ wsX1_change := zs_inl wsX10 [10, 11, 12, 13, 14, 15, 16, 17] (by decide +kernel)
set_option maxRecDepth 100000 in
set_option maxHeartbeats 4000000 in
theorem c_X1_change (l : Launch) (G : GG) (aPr : Ad) (Pr : Ob) (u1 : Int32) (sz : Nat) (Pr_ : Ob) (hF : F_X1_change Pr u1 = some Pr_) : Met l yX1_change wsX1_change RMX1_change (va_Pc [.ref (aPr 0), .int u1] (zs_pre G (wX1 G aPr Pr) sz)) (zs_Qv G (wX1 G aPr Pr_) (va_A (wX1 G aPr Pr) sz)) 0 0 (va_A (wX1 G aPr Pr) sz) := by
  refine zs_met (cc := cX1_change) (maxL := 3) (ret := none) (own := RX1) (Qc := zs_Qv G (wX1 G aPr Pr_)) (by decide) rfl rfl (Nat.le_of_ble_eq_true rfl) ?_
  intro p e s m args below meth c C A hK hA S _ _ ls hl
  have hl : lv_has ls 3 [(0, .ref (aPr 0)), (1, .int u1)] := hl
  have hx := C.1.1
  have hb := C.1.2.1
  unfold F_X1_change at hF
  have j43 : ∀ (Pr : Ob) (x1 : Int32) (H : Heap) (locs : List Loc) (ls : Array Slot), zs_S G A s.heap H locs (wX1 G aPr Pr) → lv_has ls 3 [(0, .ref (aPr 0)), (1, .int x1)] → F_X1_change_43 Pr x1 = some Pr_ → W p l e RMX1_change s m args below meth c H locs 0 0 (MQ below (zs_Qv G (wX1 G aPr Pr_) A) args s 0 0 A) (F0 m 43 ls []) := by
    intro Pr x1 H locs ls S hl hF
    unfold F_X1_change_43 at hF
    refine lv_aload_n hx hb dX1_change_43 rfl (lv_at hl 0 rfl) ?_
    refine zs_get C hK S 0 7 (Cn := RX1) (T := TX1) (N := 8) (ci := 1) rfl rfl (by decide) zn_X1_change_X1 (List.mem_of_getElem? (i := 2) rfl) rfl dX1_change_44 ?_
    refine lv_aload_n hx hb dX1_change_47 rfl (lv_at hl 0 rfl) ?_
    refine zs_get C hK S 0 4 (Cn := RX1) (T := TX1) (N := 8) (ci := 1) rfl rfl (by decide) zn_X1_change_X1 (List.mem_of_getElem? (i := 1) rfl) rfl dX1_change_48 ?_
    refine lv_iload_n hx hb dX1_change_51 rfl (lv_at hl 1 rfl) ?_
    obtain ⟨h1, hF⟩ := zs_ckS hF
    obtain ⟨Prw2, e3⟩ : ∃ q : Ob, q = zs_up Pr 3 ((Pr 0 4)).toNatClampNeg x1 := ⟨_, rfl⟩
    have hF := zs_letS hF e3
    refine zs_iast C hK S 3 (ws' := wX1 G aPr Prw2) rfl h1 (by rw [e3]; rfl) dX1_change_52 (fun H locs S => ?_)
    refine lv_aload_n hx hb dX1_change_53 rfl (lv_at hl 0 rfl) ?_
    refine lv_dup hx hb dX1_change_54 rfl ?_
    refine zs_get C hK S 0 4 (Cn := RX1) (T := TX1) (N := 8) (ci := 1) rfl rfl (by decide) zn_X1_change_X1 (List.mem_of_getElem? (i := 1) rfl) rfl dX1_change_55 ?_
    refine lv_iconst (v := (1 : Int32)) hx hb dX1_change_58 (by decide) ?_
    refine lv_iadd hx hb dX1_change_59 ?_
    obtain ⟨Prw4, e5⟩ : ∃ q : Ob, q = zs_up Prw2 0 4 ((Prw2 0 4) + (1 : Int32)) := ⟨_, rfl⟩
    have hF := zs_letS hF e5
    refine zs_put C hK S 0 4 (ws' := wX1 G aPr Prw4) (Cn := RX1) (T := TX1) (N := 8) (ci := 1) rfl rfl (by decide) zn_X1_change_X1 tyX1_ok nmX1 (List.mem_of_getElem? (i := 1) rfl) rfl rfl rfl (Nat.le_of_ble_eq_true rfl) (by rw [e5]; rfl) dX1_change_60 (fun H locs S => ?_)
    refine lv_aload_n hx hb dX1_change_63 rfl (lv_at hl 0 rfl) ?_
    refine lv_iload_n hx hb dX1_change_64 rfl (lv_at hl 1 rfl) ?_
    obtain ⟨Prw6, f7, hF⟩ := zs_bdS hF
    refine zs_callv (wr := ([] : va_W)) (ws' := wX1 G aPr Prw6) S hA [0, 1, 2, 3] [] [0, 1, 2, 3] (zs_runV C hK hA S [.int x1] [] [0, 1, 2, 3] 0 1 (c_X1_turn l G aPr Prw4 x1 H.size Prw6 f7) gX1_change_X1_turn rfl rfl rfl zd_X1_turn ⟨Nat.le_of_ble_eq_true rfl, Nat.le_of_ble_eq_true rfl⟩ rfl rfl rfl rfl rfl hl rfl (Nat.le_of_ble_eq_true rfl) dX1_change_65 ⟨Nat.le_of_ble_eq_true rfl, Nat.le_of_ble_eq_true rfl⟩) rfl rfl rfl (by decide) rfl rfl (fun H locs S => ?_)
    have e8 := zs_s1 hF
    exact zs_vretE C S (by rw [e8]) dX1_change_68
  have j37 : ∀ (Pr : Ob) (x1 : Int32) (H : Heap) (locs : List Loc) (ls : Array Slot), zs_S G A s.heap H locs (wX1 G aPr Pr) → lv_has ls 3 [(0, .ref (aPr 0)), (1, .int x1)] → F_X1_change_37 Pr x1 = some Pr_ → W p l e RMX1_change s m args below meth c H locs 0 0 (MQ below (zs_Qv G (wX1 G aPr Pr_) A) args s 0 0 A) (F0 m 37 ls []) := by
    intro Pr x1 H locs ls S hl hF
    unfold F_X1_change_37 at hF
    refine lv_aload_n hx hb dX1_change_37 rfl (lv_at hl 0 rfl) ?_
    refine lv_bipush (v := (9 : Int32)) hx hb dX1_change_38 (by decide) ?_
    obtain ⟨Prw9, e10⟩ : ∃ q : Ob, q = zs_up Pr 0 4 (9 : Int32) := ⟨_, rfl⟩
    have hF := zs_letS hF e10
    refine zs_put C hK S 0 4 (ws' := wX1 G aPr Prw9) (Cn := RX1) (T := TX1) (N := 8) (ci := 1) rfl rfl (by decide) zn_X1_change_X1 tyX1_ok nmX1 (List.mem_of_getElem? (i := 1) rfl) rfl rfl rfl (Nat.le_of_ble_eq_true rfl) (by rw [e10]; rfl) dX1_change_40 (fun H locs S => ?_)
    exact j43 Prw9 x1 _ _ _ S (lv_sub hl [0, 1] rfl) hF
  have j11 : ∀ (n11 : Nat) (Pr : Ob) (x1 : Int32) (x2 : Int32) (H : Heap) (locs : List Loc) (ls : Array Slot), zs_S G A s.heap H locs (wX1 G aPr Pr) → lv_has ls 3 [(0, .ref (aPr 0)), (1, .int x1), (2, .int x2)] → F_X1_change_11 n11 Pr x1 x2 = some Pr_ → W p l e RMX1_change s m args below meth c H locs 0 0 (MQ below (zs_Qv G (wX1 G aPr Pr_) A) args s 0 0 A) (F0 m 11 ls []) := by
    intro n11
    induction n11 with
    | zero => intro Pr x1 x2 H locs ls _ _ hF; rw [F_X1_change_11_z] at hF; cases hF
    | succ n11 ih11 =>
      intro Pr x1 x2 H locs ls S hl hF
      rw [F_X1_change_11_n] at hF
      unfold F_X1_change_11_s at hF
      refine lv_iload_n hx hb dX1_change_11 rfl (lv_at hl 2 rfl) ?_
      refine lv_bipush (v := (10 : Int32)) hx hb dX1_change_12 (by decide) ?_
      refine lv_icmp_ge (tgt := 37) hx hb dX1_change_14 (by decide) (fun c11 => ?_) (fun c11 => ?_)
      · have hF := zs_t hF c11
        exact j37 Pr x1 _ _ _ S (lv_sub hl [0, 1] rfl) hF
      · have hF := zs_f hF c11
        refine lv_aload_n hx hb dX1_change_17 rfl (lv_at hl 0 rfl) ?_
        refine zs_get C hK S 0 7 (Cn := RX1) (T := TX1) (N := 8) (ci := 1) rfl rfl (by decide) zn_X1_change_X1 (List.mem_of_getElem? (i := 2) rfl) rfl dX1_change_18 ?_
        refine lv_iload_n hx hb dX1_change_21 rfl (lv_at hl 2 rfl) ?_
        refine lv_iconst (v := (1 : Int32)) hx hb dX1_change_22 (by decide) ?_
        refine lv_isub hx hb dX1_change_23 ?_
        refine lv_aload_n hx hb dX1_change_24 rfl (lv_at hl 0 rfl) ?_
        refine zs_get C hK S 0 7 (Cn := RX1) (T := TX1) (N := 8) (ci := 1) rfl rfl (by decide) zn_X1_change_X1 (List.mem_of_getElem? (i := 2) rfl) rfl dX1_change_25 ?_
        refine lv_iload_n hx hb dX1_change_28 rfl (lv_at hl 2 rfl) ?_
        obtain ⟨h12, hF⟩ := zs_ckS hF
        refine zs_iald C hK S 3 rfl h12 dX1_change_29 ?_
        obtain ⟨h13, hF⟩ := zs_ckS hF
        obtain ⟨Prw14, e15⟩ : ∃ q : Ob, q = zs_up Pr 3 ((x2 - (1 : Int32))).toNatClampNeg (Pr 3 (x2).toNatClampNeg) := ⟨_, rfl⟩
        have hF := zs_letS hF e15
        refine zs_iast C hK S 3 (ws' := wX1 G aPr Prw14) rfl h13 (by rw [e15]; rfl) dX1_change_30 (fun H locs S => ?_)
        obtain ⟨z16, e17⟩ : ∃ q : Int32, q = x2 + (1 : Int32) := ⟨_, rfl⟩
        have hF := zs_letS hF e17
        refine lv_iinc (v := z16) (lv' := [(2, .int z16), (0, .ref (aPr 0)), (1, .int x1)]) hx hb dX1_change_31 hl (k := 2) rfl (by rw [e17]; rfl) (by decide) rfl (fun ls hl => ?_)
        refine lv_goto (tgt := 11) hx hb dX1_change_34 (by decide) ?_
        exact ih11 Prw14 x1 z16 _ _ _ S (lv_sub hl [1, 2, 0] rfl) hF
  refine lv_aload_n hx hb dX1_change_0 rfl (lv_at hl 0 rfl) ?_
  refine zs_get C hK S 0 4 (Cn := RX1) (T := TX1) (N := 8) (ci := 1) rfl rfl (by decide) zn_X1_change_X1 (List.mem_of_getElem? (i := 1) rfl) rfl dX1_change_1 ?_
  refine lv_bipush (v := (10 : Int32)) hx hb dX1_change_4 (by decide) ?_
  refine lv_icmp_lt (tgt := 43) hx hb dX1_change_6 (by decide) (fun c18 => ?_) (fun c18 => ?_)
  · have hF := zs_t hF c18
    exact j43 Pr u1 _ _ _ S (lv_sub hl [0, 1] rfl) hF
  · have hF := zs_f hF c18
    refine lv_iconst (v := (1 : Int32)) hx hb dX1_change_9 (by decide) ?_
    refine lv_istore_n (lv' := [(2, .int (1 : Int32)), (0, .ref (aPr 0)), (1, .int u1)]) hx hb dX1_change_10 rfl hl (by decide) rfl (fun ls hl => ?_)
    exact j11 1000 Pr u1 (1 : Int32) _ _ _ S (lv_sub hl [1, 2, 0] rfl) hF

abbrev RMX1_changeBack : Room := { frames := 1, cells := 0, slots := 0, locals := 21 }
theorem zn_X1_changeBack_X1 : ∀ w ∈ wsX10, w ∈ wsX1_changeBack := zs_inl wsX10 [10, 11, 12, 13, 14, 15, 16, 17] (by decide +kernel)
set_option maxRecDepth 100000 in
set_option maxHeartbeats 4000000 in
theorem c_X1_changeBack (l : Launch) (G : GG) (aPr : Ad) (Pr : Ob) (sz : Nat) (Pr_ : Ob) (hF : F_X1_changeBack Pr = some Pr_) : Met l yX1_changeBack wsX1_changeBack RMX1_changeBack (va_Pc [.ref (aPr 0)] (zs_pre G (wX1 G aPr Pr) sz)) (zs_Qv G (wX1 G aPr Pr_) (va_A (wX1 G aPr Pr) sz)) 0 0 (va_A (wX1 G aPr Pr) sz) := by
  refine zs_met (cc := cX1_changeBack) (maxL := 1) (ret := none) (own := RX1) (Qc := zs_Qv G (wX1 G aPr Pr_)) (by decide) rfl rfl (Nat.le_of_ble_eq_true rfl) ?_
  intro p e s m args below meth c C A hK hA S _ _ ls hl
  have hl : lv_has ls 1 [(0, .ref (aPr 0))] := hl
  have hx := C.1.1
  have hb := C.1.2.1
  unfold F_X1_changeBack at hF
  refine lv_aload_n hx hb dX1_changeBack_0 rfl (lv_at hl 0 rfl) ?_
  refine zs_get C hK S 0 4 (Cn := RX1) (T := TX1) (N := 8) (ci := 1) rfl rfl (by decide) zn_X1_changeBack_X1 (List.mem_of_getElem? (i := 1) rfl) rfl dX1_changeBack_1 ?_
  refine lv_if_le (tgt := 30) hx hb dX1_changeBack_4 (by decide) (fun c1 => ?_) (fun c1 => ?_)
  · have hF := zs_t hF c1
    have e2 := zs_s1 hF
    exact zs_vretE C S (by rw [e2]) dX1_changeBack_30
  · have hF := zs_f hF c1
    refine lv_aload_n hx hb dX1_changeBack_7 rfl (lv_at hl 0 rfl) ?_
    refine lv_dup hx hb dX1_changeBack_8 rfl ?_
    refine zs_get C hK S 0 4 (Cn := RX1) (T := TX1) (N := 8) (ci := 1) rfl rfl (by decide) zn_X1_changeBack_X1 (List.mem_of_getElem? (i := 1) rfl) rfl dX1_changeBack_9 ?_
    refine lv_iconst (v := (1 : Int32)) hx hb dX1_changeBack_12 (by decide) ?_
    refine lv_isub hx hb dX1_changeBack_13 ?_
    obtain ⟨Prw3, e4⟩ : ∃ q : Ob, q = zs_up Pr 0 4 ((Pr 0 4) - (1 : Int32)) := ⟨_, rfl⟩
    have hF := zs_letS hF e4
    refine zs_put C hK S 0 4 (ws' := wX1 G aPr Prw3) (Cn := RX1) (T := TX1) (N := 8) (ci := 1) rfl rfl (by decide) zn_X1_changeBack_X1 tyX1_ok nmX1 (List.mem_of_getElem? (i := 1) rfl) rfl rfl rfl (Nat.le_of_ble_eq_true rfl) (by rw [e4]; rfl) dX1_changeBack_14 (fun H locs S => ?_)
    refine lv_aload_n hx hb dX1_changeBack_17 rfl (lv_at hl 0 rfl) ?_
    refine lv_aload_n hx hb dX1_changeBack_18 rfl (lv_at hl 0 rfl) ?_
    refine zs_get C hK S 0 7 (Cn := RX1) (T := TX1) (N := 8) (ci := 1) rfl rfl (by decide) zn_X1_changeBack_X1 (List.mem_of_getElem? (i := 2) rfl) rfl dX1_changeBack_19 ?_
    refine lv_aload_n hx hb dX1_changeBack_22 rfl (lv_at hl 0 rfl) ?_
    refine zs_get C hK S 0 4 (Cn := RX1) (T := TX1) (N := 8) (ci := 1) rfl rfl (by decide) zn_X1_changeBack_X1 (List.mem_of_getElem? (i := 1) rfl) rfl dX1_changeBack_23 ?_
    obtain ⟨h5, hF⟩ := zs_ckS hF
    refine zs_iald C hK S 3 rfl h5 dX1_changeBack_26 ?_
    obtain ⟨Prw6, f7, hF⟩ := zs_bdS hF
    refine zs_callv (wr := ([] : va_W)) (ws' := wX1 G aPr Prw6) S hA [0, 1, 2, 3] [] [0, 1, 2, 3] (zs_runV C hK hA S [.int (Prw3 3 ((Prw3 0 4)).toNatClampNeg)] [] [0, 1, 2, 3] 0 1 (c_X1_turn l G aPr Prw3 ((Prw3 3 ((Prw3 0 4)).toNatClampNeg)) H.size Prw6 f7) gX1_changeBack_X1_turn rfl rfl rfl zd_X1_turn ⟨Nat.le_of_ble_eq_true rfl, Nat.le_of_ble_eq_true rfl⟩ rfl rfl rfl rfl rfl hl rfl (Nat.le_of_ble_eq_true rfl) dX1_changeBack_27 ⟨Nat.le_of_ble_eq_true rfl, Nat.le_of_ble_eq_true rfl⟩) rfl rfl rfl (by decide) rfl rfl (fun H locs S => ?_)
    have e8 := zs_s1 hF
    exact zs_vretE C S (by rw [e8]) dX1_changeBack_30

abbrev RMX1_giveOff : Room := { frames := 1, cells := 0, slots := 0, locals := 21 }
theorem zn_X1_giveOff_X1 : ∀ w ∈ wsX10, w ∈ wsX1_giveOff := zs_inl wsX10 [11, 12, 13, 14, 15, 16, 17, 18] (by decide +kernel)
theorem zn_X1_giveOff_X6 : ∀ w ∈ wsX60, w ∈ wsX1_giveOff := zs_inl wsX60 [19, 20, 21, 22, 23, 24, 25, 26, 27] (by decide +kernel)
set_option maxRecDepth 100000 in
set_option maxHeartbeats 4000000 in
theorem c_X1_giveOff (l : Launch) (G : GG) (aPr aYd : Ad) (Pr : Ob) (Yd : Ob) (u2 : Int32) (sz : Nat) (rr : Int32) (Pr_ : Ob) (hF : F_X1_giveOff Pr Yd u2 = some (rr, Pr_)) : Met l yX1_giveOff wsX1_giveOff RMX1_giveOff (va_Pc [.ref (aPr 0), .ref (aYd 0), .int u2] (zs_pre G (wX1 G aPr Pr ++ wX6 G aYd Yd) sz)) (zs_Qi G (wX1 G aPr Pr_ ++ wX6 G aYd Yd) rr (va_A (wX1 G aPr Pr ++ wX6 G aYd Yd) sz)) 0 0 (va_A (wX1 G aPr Pr ++ wX6 G aYd Yd) sz) := by
  refine zs_met (cc := cX1_giveOff) (maxL := 7) (ret := (some .int)) (own := RX1) (Qc := zs_Qi G (wX1 G aPr Pr_ ++ wX6 G aYd Yd) rr) (by decide) rfl rfl (Nat.le_of_ble_eq_true rfl) ?_
  intro p e s m args below meth c C A hK hA S _ _ ls hl
  have hl : lv_has ls 7 [(0, .ref (aPr 0)), (1, .ref (aYd 0)), (2, .int u2)] := hl
  have hx := C.1.1
  have hb := C.1.2.1
  unfold F_X1_giveOff at hF
  have j55 : ∀ (n55 : Nat) (Pr : Ob) (x2 : Int32) (x3 : Int32) (x4 : Int32) (x5 : Int32) (H : Heap) (locs : List Loc) (ls : Array Slot), zs_S G A s.heap H locs (wX1 G aPr Pr ++ wX6 G aYd Yd) → lv_has ls 7 [(0, .ref (aPr 0)), (1, .ref (aYd 0)), (2, .int x2), (3, .int x3), (4, .int x4), (5, .int x5)] → F_X1_giveOff_55 Yd n55 Pr x2 x3 x4 x5 = some (rr, Pr_) → W p l e RMX1_giveOff s m args below meth c H locs 0 0 (MQ below (zs_Qi G (wX1 G aPr Pr_ ++ wX6 G aYd Yd) rr A) args s 0 0 A) (F0 m 55 ls []) := by
    intro n55
    induction n55 with
    | zero => intro Pr x2 x3 x4 x5 H locs ls _ _ hF; rw [F_X1_giveOff_55_z] at hF; cases hF
    | succ n55 ih55 =>
      have j156 : ∀ (Pr : Ob) (x2 : Int32) (x3 : Int32) (x4 : Int32) (x5 : Int32) (H : Heap) (locs : List Loc) (ls : Array Slot), zs_S G A s.heap H locs (wX1 G aPr Pr ++ wX6 G aYd Yd) → lv_has ls 7 [(0, .ref (aPr 0)), (1, .ref (aYd 0)), (2, .int x2), (3, .int x3), (4, .int x4), (5, .int x5)] → F_X1_giveOff_156 Yd (F_X1_giveOff_55 Yd n55) Pr x2 x3 x4 x5 = some (rr, Pr_) → W p l e RMX1_giveOff s m args below meth c H locs 0 0 (MQ below (zs_Qi G (wX1 G aPr Pr_ ++ wX6 G aYd Yd) rr A) args s 0 0 A) (F0 m 156 ls []) := by
        intro Pr x2 x3 x4 x5 H locs ls S hl hF
        unfold F_X1_giveOff_156 at hF
        obtain ⟨z1, e2⟩ : ∃ q : Int32, q = x5 + (1 : Int32) := ⟨_, rfl⟩
        have hF := zs_letS hF e2
        refine lv_iinc (v := z1) (lv' := [(5, .int z1), (0, .ref (aPr 0)), (1, .ref (aYd 0)), (2, .int x2), (3, .int x3), (4, .int x4)]) hx hb dX1_giveOff_156 hl (k := 5) rfl (by rw [e2]; rfl) (by decide) rfl (fun ls hl => ?_)
        refine lv_goto (tgt := 55) hx hb dX1_giveOff_159 (by decide) ?_
        exact ih55 Pr x2 x3 x4 z1 _ _ _ S (lv_sub hl [1, 2, 3, 4, 5, 0] rfl) hF
      intro Pr x2 x3 x4 x5 H locs ls S hl hF
      rw [F_X1_giveOff_55_n] at hF
      unfold F_X1_giveOff_55_s at hF
      refine lv_iload hx hb dX1_giveOff_55 (lv_at hl 5 rfl) ?_
      refine lv_aload_n hx hb dX1_giveOff_57 rfl (lv_at hl 1 rfl) ?_
      refine zs_get C hK S 4 0 (Cn := RX6) (T := TX6) (N := 9) (ci := 6) rfl rfl (by decide) zn_X1_giveOff_X6 (List.mem_of_getElem? (i := 5) rfl) rfl dX1_giveOff_58 ?_
      refine lv_icmp_ge (tgt := 162) hx hb dX1_giveOff_61 (by decide) (fun c3 => ?_) (fun c3 => ?_)
      · have hF := zs_t hF c3
        refine lv_iload hx hb dX1_giveOff_162 (lv_at hl 4 rfl) ?_
        obtain ⟨e4, e5⟩ := zs_s2 hF
        exact zs_iretE C S e4 (by rw [e5]) dX1_giveOff_164
      · have hF := zs_f hF c3
        refine lv_iload_n hx hb dX1_giveOff_64 rfl (lv_at hl 3 rfl) ?_
        refine lv_aload_n hx hb dX1_giveOff_65 rfl (lv_at hl 1 rfl) ?_
        refine zs_get C hK S 4 6 (Cn := RX6) (T := TX6) (N := 9) (ci := 6) rfl rfl (by decide) zn_X1_giveOff_X6 (List.mem_of_getElem? (i := 6) rfl) rfl dX1_giveOff_66 ?_
        refine lv_iload_n hx hb dX1_giveOff_69 rfl (lv_at hl 2 rfl) ?_
        refine lv_bipush (v := (6 : Int32)) hx hb dX1_giveOff_70 (by decide) ?_
        refine lv_imul hx hb dX1_giveOff_72 ?_
        refine lv_iload hx hb dX1_giveOff_73 (lv_at hl 5 rfl) ?_
        refine lv_iadd hx hb dX1_giveOff_75 ?_
        obtain ⟨h6, hF⟩ := zs_ckS hF
        refine zs_iald C hK S 9 rfl h6 dX1_giveOff_76 ?_
        refine lv_imul hx hb dX1_giveOff_77 ?_
        refine lv_bipush (v := (10 : Int32)) hx hb dX1_giveOff_78 (by decide) ?_
        refine lv_idiv hx hb dX1_giveOff_80 (by decide) ?_
        refine lv_topi (fun z7 e8 => ?_)
        have hF := zs_letS hF e8
        refine lv_istore (lv' := [(6, .int z7), (0, .ref (aPr 0)), (1, .ref (aYd 0)), (2, .int x2), (3, .int x3), (4, .int x4), (5, .int x5)]) hx hb dX1_giveOff_81 hl (by decide) rfl (fun ls hl => ?_)
        refine lv_iload hx hb dX1_giveOff_83 (lv_at hl 0 rfl) ?_
        refine lv_if_ne (tgt := 91) hx hb dX1_giveOff_85 (by decide) (fun c9 => ?_) (fun c9 => ?_)
        · have hF := zs_f hF c9
          refine lv_aload_n hx hb dX1_giveOff_91 rfl (lv_at hl 1 rfl) ?_
          refine zs_get C hK S 0 2 (Cn := RX1) (T := TX1) (N := 8) (ci := 1) rfl rfl (by decide) zn_X1_giveOff_X1 (List.mem_of_getElem? (i := 7) rfl) rfl dX1_giveOff_92 ?_
          refine lv_iload hx hb dX1_giveOff_95 (lv_at hl 6 rfl) ?_
          obtain ⟨r10, f11, hF⟩ := zs_bdS hF
          refine zs_calliP S hA (zs_runSN C hK hA S [.int (Pr 0 2), .int x5] [] [] 2 (c_X7_bit l G ((Pr 0 2)) x5 H.size r10 f11) gX1_giveOff_X7_bit_n53 rfl rfl rfl hK.1.2.1 (List.mem_of_getElem? (i := 9) rfl) (List.mem_of_getElem? (i := 8) rfl) zd_X7_bit ⟨Nat.le_of_ble_eq_true rfl, Nat.le_of_ble_eq_true rfl⟩ rfl rfl rfl hl rfl (Nat.le_of_ble_eq_true rfl) dX1_giveOff_97 ⟨Nat.le_of_ble_eq_true rfl, Nat.le_of_ble_eq_true rfl⟩) (fun H locs S => ?_)
          refine lv_iconst (v := (1 : Int32)) hx hb dX1_giveOff_100 (by decide) ?_
          refine lv_icmp_ne (tgt := 125) hx hb dX1_giveOff_101 (by decide) (fun c12 => ?_) (fun c12 => ?_)
          · have hF := zs_f hF c12
            refine lv_aload_n hx hb dX1_giveOff_125 rfl (lv_at hl 1 rfl) ?_
            refine zs_get C hK S 0 1 (Cn := RX1) (T := TX1) (N := 8) (ci := 1) rfl rfl (by decide) zn_X1_giveOff_X1 (List.mem_of_getElem? (i := 1) rfl) rfl dX1_giveOff_126 ?_
            refine lv_iload hx hb dX1_giveOff_129 (lv_at hl 6 rfl) ?_
            obtain ⟨r13, f14, hF⟩ := zs_bdS hF
            refine zs_calliP S hA (zs_runSN C hK hA S [.int (Pr 0 1), .int x5] [] [] 2 (c_X7_bit l G ((Pr 0 1)) x5 H.size r13 f14) gX1_giveOff_X7_bit_n53 rfl rfl rfl hK.1.2.1 (List.mem_of_getElem? (i := 9) rfl) (List.mem_of_getElem? (i := 8) rfl) zd_X7_bit ⟨Nat.le_of_ble_eq_true rfl, Nat.le_of_ble_eq_true rfl⟩ rfl rfl rfl hl rfl (Nat.le_of_ble_eq_true rfl) dX1_giveOff_131 ⟨Nat.le_of_ble_eq_true rfl, Nat.le_of_ble_eq_true rfl⟩) (fun H locs S => ?_)
            refine lv_if_ne (tgt := 156) hx hb dX1_giveOff_134 (by decide) (fun c15 => ?_) (fun c15 => ?_)
            · have hF := zs_f hF c15
              exact j156 Pr x2 x3 x4 x5 _ _ _ S (lv_sub hl [1, 2, 3, 4, 5, 6] rfl) hF
            · have hF := zs_t hF c15
              refine lv_aload_n hx hb dX1_giveOff_137 rfl (lv_at hl 1 rfl) ?_
              refine zs_get C hK S 0 6 (Cn := RX1) (T := TX1) (N := 8) (ci := 1) rfl rfl (by decide) zn_X1_giveOff_X1 (List.mem_of_getElem? (i := 4) rfl) rfl dX1_giveOff_138 ?_
              refine lv_iload hx hb dX1_giveOff_141 (lv_at hl 6 rfl) ?_
              refine lv_dup2_11 hx hb dX1_giveOff_143 rfl rfl ?_
              obtain ⟨h16, hF⟩ := zs_ckS hF
              refine zs_iald C hK S 2 rfl h16 dX1_giveOff_144 ?_
              refine lv_iload hx hb dX1_giveOff_145 (lv_at hl 0 rfl) ?_
              refine lv_iadd hx hb dX1_giveOff_147 ?_
              obtain ⟨h17, hF⟩ := zs_ckS hF
              obtain ⟨Prw18, e19⟩ : ∃ q : Ob, q = zs_up Pr 2 (x5).toNatClampNeg ((Pr 2 (x5).toNatClampNeg) + z7) := ⟨_, rfl⟩
              have hF := zs_letS hF e19
              refine zs_iast C hK S 2 (ws' := wX1 G aPr Prw18 ++ wX6 G aYd Yd) rfl h17 (by rw [e19]; rfl) dX1_giveOff_148 (fun H locs S => ?_)
              refine lv_iload hx hb dX1_giveOff_149 (lv_at hl 5 rfl) ?_
              refine lv_iload hx hb dX1_giveOff_151 (lv_at hl 0 rfl) ?_
              refine lv_isub hx hb dX1_giveOff_153 ?_
              refine lv_topi (fun z20 e21 => ?_)
              have hF := zs_letS hF e21
              refine lv_istore (lv' := [(4, .int z20), (6, .int z7), (0, .ref (aPr 0)), (1, .ref (aYd 0)), (2, .int x2), (3, .int x3), (5, .int x5)]) hx hb dX1_giveOff_154 hl (by decide) rfl (fun ls hl => ?_)
              exact j156 Prw18 x2 x3 z20 x5 _ _ _ S (lv_sub hl [2, 3, 4, 5, 0, 6] rfl) hF
          · have hF := zs_t hF c12
            refine lv_aload_n hx hb dX1_giveOff_104 rfl (lv_at hl 1 rfl) ?_
            refine zs_get C hK S 0 6 (Cn := RX1) (T := TX1) (N := 8) (ci := 1) rfl rfl (by decide) zn_X1_giveOff_X1 (List.mem_of_getElem? (i := 4) rfl) rfl dX1_giveOff_105 ?_
            refine lv_iload_n hx hb dX1_giveOff_108 rfl (lv_at hl 3 rfl) ?_
            refine lv_dup2_11 hx hb dX1_giveOff_109 rfl rfl ?_
            obtain ⟨h22, hF⟩ := zs_ckS hF
            refine zs_iald C hK S 2 rfl h22 dX1_giveOff_110 ?_
            refine lv_iload hx hb dX1_giveOff_111 (lv_at hl 0 rfl) ?_
            refine lv_iadd hx hb dX1_giveOff_113 ?_
            obtain ⟨h23, hF⟩ := zs_ckS hF
            obtain ⟨Prw24, e25⟩ : ∃ q : Ob, q = zs_up Pr 2 (x2).toNatClampNeg ((Pr 2 (x2).toNatClampNeg) + z7) := ⟨_, rfl⟩
            have hF := zs_letS hF e25
            refine zs_iast C hK S 2 (ws' := wX1 G aPr Prw24 ++ wX6 G aYd Yd) rfl h23 (by rw [e25]; rfl) dX1_giveOff_114 (fun H locs S => ?_)
            refine lv_iload hx hb dX1_giveOff_115 (lv_at hl 5 rfl) ?_
            refine lv_iload hx hb dX1_giveOff_117 (lv_at hl 0 rfl) ?_
            refine lv_isub hx hb dX1_giveOff_119 ?_
            refine lv_topi (fun z26 e27 => ?_)
            have hF := zs_letS hF e27
            refine lv_istore (lv' := [(4, .int z26), (6, .int z7), (0, .ref (aPr 0)), (1, .ref (aYd 0)), (2, .int x2), (3, .int x3), (5, .int x5)]) hx hb dX1_giveOff_120 hl (by decide) rfl (fun ls hl => ?_)
            refine lv_goto (tgt := 156) hx hb dX1_giveOff_122 (by decide) ?_
            exact j156 Prw24 x2 x3 z26 x5 _ _ _ S (lv_sub hl [2, 3, 4, 5, 0, 6] rfl) hF
        · have hF := zs_t hF c9
          refine lv_goto (tgt := 156) hx hb dX1_giveOff_88 (by decide) ?_
          exact j156 Pr x2 x3 x4 x5 _ _ _ S (lv_sub hl [1, 2, 3, 4, 5, 6] rfl) hF
  have j32 : ∀ (Pr : Ob) (x2 : Int32) (y0 : Int32) (H : Heap) (locs : List Loc) (ls : Array Slot), zs_S G A s.heap H locs (wX1 G aPr Pr ++ wX6 G aYd Yd) → lv_has ls 7 [(0, .ref (aPr 0)), (1, .ref (aYd 0)), (2, .int x2)] → F_X1_giveOff_32 Yd Pr x2 y0 = some (rr, Pr_) → W p l e RMX1_giveOff s m args below meth c H locs 0 0 (MQ below (zs_Qi G (wX1 G aPr Pr_ ++ wX6 G aYd Yd) rr A) args s 0 0 A) (F0 m 32 ls [.int y0]) := by
    intro Pr x2 y0 H locs ls S hl hF
    unfold F_X1_giveOff_32 at hF
    refine lv_istore_n (lv' := [(3, .int y0), (0, .ref (aPr 0)), (1, .ref (aYd 0)), (2, .int x2)]) hx hb dX1_giveOff_32 rfl hl (by decide) rfl (fun ls hl => ?_)
    refine lv_iload_n hx hb dX1_giveOff_33 rfl (lv_at hl 0 rfl) ?_
    refine lv_if_ne (tgt := 39) hx hb dX1_giveOff_34 (by decide) (fun c28 => ?_) (fun c28 => ?_)
    · have hF := zs_f hF c28
      refine lv_aload_n hx hb dX1_giveOff_39 rfl (lv_at hl 1 rfl) ?_
      refine zs_get C hK S 0 6 (Cn := RX1) (T := TX1) (N := 8) (ci := 1) rfl rfl (by decide) zn_X1_giveOff_X1 (List.mem_of_getElem? (i := 4) rfl) rfl dX1_giveOff_40 ?_
      refine lv_iload_n hx hb dX1_giveOff_43 rfl (lv_at hl 3 rfl) ?_
      refine lv_dup2_11 hx hb dX1_giveOff_44 rfl rfl ?_
      obtain ⟨h29, hF⟩ := zs_ckS hF
      refine zs_iald C hK S 2 rfl h29 dX1_giveOff_45 ?_
      refine lv_iload_n hx hb dX1_giveOff_46 rfl (lv_at hl 0 rfl) ?_
      refine lv_isub hx hb dX1_giveOff_47 ?_
      obtain ⟨h30, hF⟩ := zs_ckS hF
      obtain ⟨Prw31, e32⟩ : ∃ q : Ob, q = zs_up Pr 2 (x2).toNatClampNeg ((Pr 2 (x2).toNatClampNeg) - y0) := ⟨_, rfl⟩
      have hF := zs_letS hF e32
      refine zs_iast C hK S 2 (ws' := wX1 G aPr Prw31 ++ wX6 G aYd Yd) rfl h30 (by rw [e32]; rfl) dX1_giveOff_48 (fun H locs S => ?_)
      refine lv_iload_n hx hb dX1_giveOff_49 rfl (lv_at hl 0 rfl) ?_
      refine lv_istore (lv' := [(4, .int y0), (3, .int y0), (0, .ref (aPr 0)), (1, .ref (aYd 0)), (2, .int x2)]) hx hb dX1_giveOff_50 hl (by decide) rfl (fun ls hl => ?_)
      refine lv_iconst (v := (0 : Int32)) hx hb dX1_giveOff_52 (by decide) ?_
      refine lv_istore (lv' := [(5, .int (0 : Int32)), (4, .int y0), (3, .int y0), (0, .ref (aPr 0)), (1, .ref (aYd 0)), (2, .int x2)]) hx hb dX1_giveOff_53 hl (by decide) rfl (fun ls hl => ?_)
      exact j55 1000 Prw31 x2 y0 y0 (0 : Int32) _ _ _ S (lv_sub hl [3, 4, 5, 2, 1, 0] rfl) hF
    · have hF := zs_t hF c28
      refine lv_iconst (v := (0 : Int32)) hx hb dX1_giveOff_37 (by decide) ?_
      obtain ⟨e33, e34⟩ := zs_s2 hF
      exact zs_iretE C S e33 (by rw [e34]) dX1_giveOff_38
  refine lv_aload_n hx hb dX1_giveOff_0 rfl (lv_at hl 0 rfl) ?_
  refine zs_get C hK S 0 1 (Cn := RX1) (T := TX1) (N := 8) (ci := 1) rfl rfl (by decide) zn_X1_giveOff_X1 (List.mem_of_getElem? (i := 1) rfl) rfl dX1_giveOff_1 ?_
  refine lv_iload_n hx hb dX1_giveOff_4 rfl (lv_at hl 2 rfl) ?_
  obtain ⟨r35, f36, hF⟩ := zs_bdS hF
  refine zs_calliP S hA (zs_runSN C hK hA S [.int (Pr 0 1), .int u2] [] [] 2 (c_X7_bit l G ((Pr 0 1)) u2 s.heap.size r35 f36) gX1_giveOff_X7_bit_n53 rfl rfl rfl hK.1.2.1 (List.mem_of_getElem? (i := 9) rfl) (List.mem_of_getElem? (i := 8) rfl) zd_X7_bit ⟨Nat.le_of_ble_eq_true rfl, Nat.le_of_ble_eq_true rfl⟩ rfl rfl rfl hl rfl (Nat.le_of_ble_eq_true rfl) dX1_giveOff_5 ⟨Nat.le_of_ble_eq_true rfl, Nat.le_of_ble_eq_true rfl⟩) (fun H locs S => ?_)
  refine lv_iconst (v := (1 : Int32)) hx hb dX1_giveOff_8 (by decide) ?_
  refine lv_icmp_ne (tgt := 16) hx hb dX1_giveOff_9 (by decide) (fun c37 => ?_) (fun c37 => ?_)
  · have hF := zs_f hF c37
    refine lv_aload_n hx hb dX1_giveOff_16 rfl (lv_at hl 0 rfl) ?_
    refine zs_get C hK S 0 5 (Cn := RX1) (T := TX1) (N := 8) (ci := 1) rfl rfl (by decide) zn_X1_giveOff_X1 (List.mem_of_getElem? (i := 2) rfl) rfl dX1_giveOff_17 ?_
    refine lv_iload_n hx hb dX1_giveOff_20 rfl (lv_at hl 2 rfl) ?_
    obtain ⟨h38, hF⟩ := zs_ckS hF
    refine zs_iald C hK S 1 rfl h38 dX1_giveOff_21 ?_
    refine lv_aload_n hx hb dX1_giveOff_22 rfl (lv_at hl 1 rfl) ?_
    refine zs_get C hK S 4 3 (Cn := RX6) (T := TX6) (N := 9) (ci := 6) rfl rfl (by decide) zn_X1_giveOff_X6 (List.mem_of_getElem? (i := 3) rfl) rfl dX1_giveOff_23 ?_
    refine lv_iload_n hx hb dX1_giveOff_26 rfl (lv_at hl 2 rfl) ?_
    obtain ⟨h39, hF⟩ := zs_ckS hF
    refine zs_iald C hK S 6 rfl h39 dX1_giveOff_27 ?_
    refine lv_imul hx hb dX1_giveOff_28 ?_
    refine lv_bipush (v := (10 : Int32)) hx hb dX1_giveOff_29 (by decide) ?_
    refine lv_idiv hx hb dX1_giveOff_31 (by decide) ?_
    exact j32 Pr u2 (((Pr 1 (u2).toNatClampNeg) * (Yd 2 (u2).toNatClampNeg)) / (10 : Int32)) _ _ _ S (lv_sub hl [0, 1, 2] rfl) hF
  · have hF := zs_t hF c37
    refine lv_iconst (v := (0 : Int32)) hx hb dX1_giveOff_12 (by decide) ?_
    refine lv_goto (tgt := 32) hx hb dX1_giveOff_13 (by decide) ?_
    exact j32 Pr u2 (0 : Int32) _ _ _ S (lv_sub hl [0, 1, 2] rfl) hF

theorem zd_X1_giveOff : yX1_giveOff.cls = RX1 ∧ yX1_giveOff.cls ≠ "java/lang/invoke/MethodHandle" ∧ yX1_giveOff.cls ≠ "java/lang/invoke/VarHandle" ∧ (parseMethodDescriptor yX1_giveOff.desc).map (fun d => d.parameters.length) = some 2 := by decide +kernel
abbrev RMX1_goBy : Room := { frames := 2, cells := 0, slots := 0, locals := 47 }
theorem zn_X1_goBy_X1 : ∀ w ∈ wsX10, w ∈ wsX1_goBy := zs_inl wsX10 [21, 22, 23, 24, 25, 26, 27, 28] (by decide +kernel)
theorem zn_X1_goBy_X6 : ∀ w ∈ wsX60, w ∈ wsX1_goBy := zs_inl wsX60 [29, 30, 31, 32, 33, 34, 35, 36, 37] (by decide +kernel)
set_option maxRecDepth 100000 in
set_option maxHeartbeats 4000000 in
theorem c_X1_goBy (l : Launch) (G : GG) (aPr aYd : Ad) (Pr : Ob) (Yd : Ob) (sz : Nat) (rr : Int32) (Pr_ : Ob) (hF : F_X1_goBy Pr Yd = some (rr, Pr_)) : Met l yX1_goBy wsX1_goBy RMX1_goBy (va_Pc [.ref (aPr 0), .ref (aYd 0)] (zs_pre G (wX1 G aPr Pr ++ wX6 G aYd Yd) sz)) (zs_Qi G (wX1 G aPr Pr_ ++ wX6 G aYd Yd) rr (va_A (wX1 G aPr Pr ++ wX6 G aYd Yd) sz)) 0 0 (va_A (wX1 G aPr Pr ++ wX6 G aYd Yd) sz) := by
  refine zs_met (cc := cX1_goBy) (maxL := 5) (ret := (some .int)) (own := RX1) (Qc := zs_Qi G (wX1 G aPr Pr_ ++ wX6 G aYd Yd) rr) (by decide) rfl rfl (Nat.le_of_ble_eq_true rfl) ?_
  intro p e s m args below meth c C A hK hA S _ _ ls hl
  have hl : lv_has ls 5 [(0, .ref (aPr 0)), (1, .ref (aYd 0))] := hl
  have hx := C.1.1
  have hb := C.1.2.1
  unfold F_X1_goBy at hF
  have j123 : ∀ (Pr : Ob) (x3 : Int32) (H : Heap) (locs : List Loc) (ls : Array Slot), zs_S G A s.heap H locs (wX1 G aPr Pr ++ wX6 G aYd Yd) → lv_has ls 5 [(0, .ref (aPr 0)), (3, .int x3)] → F_X1_goBy_123 Yd Pr x3 = some (rr, Pr_) → W p l e RMX1_goBy s m args below meth c H locs 0 0 (MQ below (zs_Qi G (wX1 G aPr Pr_ ++ wX6 G aYd Yd) rr A) args s 0 0 A) (F0 m 123 ls []) := by
    intro Pr x3 H locs ls S hl hF
    unfold F_X1_goBy_123 at hF
    refine lv_aload_n hx hb dX1_goBy_123 rfl (lv_at hl 0 rfl) ?_
    refine lv_dup hx hb dX1_goBy_124 rfl ?_
    refine zs_get C hK S 0 0 (Cn := RX1) (T := TX1) (N := 8) (ci := 1) rfl rfl (by decide) zn_X1_goBy_X1 (List.mem_of_getElem? (i := 1) rfl) rfl dX1_goBy_125 ?_
    refine lv_iconst (v := (1 : Int32)) hx hb dX1_goBy_128 (by decide) ?_
    refine lv_iadd hx hb dX1_goBy_129 ?_
    obtain ⟨Prw1, e2⟩ : ∃ q : Ob, q = zs_up Pr 0 0 ((Pr 0 0) + (1 : Int32)) := ⟨_, rfl⟩
    have hF := zs_letS hF e2
    refine zs_put C hK S 0 0 (ws' := wX1 G aPr Prw1 ++ wX6 G aYd Yd) (Cn := RX1) (T := TX1) (N := 8) (ci := 1) rfl rfl (by decide) zn_X1_goBy_X1 tyX1_ok nmX1 (List.mem_of_getElem? (i := 1) rfl) rfl rfl rfl (Nat.le_of_ble_eq_true rfl) (by rw [e2]; rfl) dX1_goBy_130 (fun H locs S => ?_)
    refine lv_aload_n hx hb dX1_goBy_133 rfl (lv_at hl 0 rfl) ?_
    refine lv_dup hx hb dX1_goBy_134 rfl ?_
    refine zs_get C hK S 0 3 (Cn := RX1) (T := TX1) (N := 8) (ci := 1) rfl rfl (by decide) zn_X1_goBy_X1 (List.mem_of_getElem? (i := 8) rfl) rfl dX1_goBy_135 ?_
    refine lv_iload_n hx hb dX1_goBy_138 rfl (lv_at hl 1 rfl) ?_
    refine lv_iadd hx hb dX1_goBy_139 ?_
    obtain ⟨Prw3, e4⟩ : ∃ q : Ob, q = zs_up Prw1 0 3 ((Prw1 0 3) + x3) := ⟨_, rfl⟩
    have hF := zs_letS hF e4
    refine zs_put C hK S 0 3 (ws' := wX1 G aPr Prw3 ++ wX6 G aYd Yd) (Cn := RX1) (T := TX1) (N := 8) (ci := 1) rfl rfl (by decide) zn_X1_goBy_X1 tyX1_ok nmX1 (List.mem_of_getElem? (i := 8) rfl) rfl rfl rfl (Nat.le_of_ble_eq_true rfl) (by rw [e4]; rfl) dX1_goBy_140 (fun H locs S => ?_)
    refine lv_iload_n hx hb dX1_goBy_143 rfl (lv_at hl 1 rfl) ?_
    obtain ⟨e5, e6⟩ := zs_s2 hF
    exact zs_iretE C S e5 (by rw [e6]) dX1_goBy_144
  have j94 : ∀ (n94 : Nat) (Pr : Ob) (x3 : Int32) (x4 : Int32) (H : Heap) (locs : List Loc) (ls : Array Slot), zs_S G A s.heap H locs (wX1 G aPr Pr ++ wX6 G aYd Yd) → lv_has ls 5 [(0, .ref (aPr 0)), (1, .ref (aYd 0)), (3, .int x3), (4, .int x4)] → F_X1_goBy_94 Yd n94 Pr x3 x4 = some (rr, Pr_) → W p l e RMX1_goBy s m args below meth c H locs 0 0 (MQ below (zs_Qi G (wX1 G aPr Pr_ ++ wX6 G aYd Yd) rr A) args s 0 0 A) (F0 m 94 ls []) := by
    intro n94
    induction n94 with
    | zero => intro Pr x3 x4 H locs ls _ _ hF; rw [F_X1_goBy_94_z] at hF; cases hF
    | succ n94 ih94 =>
      intro Pr x3 x4 H locs ls S hl hF
      rw [F_X1_goBy_94_n] at hF
      unfold F_X1_goBy_94_s at hF
      refine lv_iload hx hb dX1_goBy_94 (lv_at hl 3 rfl) ?_
      refine lv_aload_n hx hb dX1_goBy_96 rfl (lv_at hl 1 rfl) ?_
      refine zs_get C hK S 4 0 (Cn := RX6) (T := TX6) (N := 9) (ci := 6) rfl rfl (by decide) zn_X1_goBy_X6 (List.mem_of_getElem? (i := 2) rfl) rfl dX1_goBy_97 ?_
      refine lv_icmp_ge (tgt := 123) hx hb dX1_goBy_100 (by decide) (fun c7 => ?_) (fun c7 => ?_)
      · have hF := zs_t hF c7
        exact j123 Pr x3 _ _ _ S (lv_sub hl [0, 2] rfl) hF
      · have hF := zs_f hF c7
        refine lv_aload_n hx hb dX1_goBy_103 rfl (lv_at hl 0 rfl) ?_
        refine zs_get C hK S 0 5 (Cn := RX1) (T := TX1) (N := 8) (ci := 1) rfl rfl (by decide) zn_X1_goBy_X1 (List.mem_of_getElem? (i := 4) rfl) rfl dX1_goBy_104 ?_
        refine lv_iload hx hb dX1_goBy_107 (lv_at hl 3 rfl) ?_
        refine lv_aload_n hx hb dX1_goBy_109 rfl (lv_at hl 0 rfl) ?_
        refine zs_get C hK S 0 6 (Cn := RX1) (T := TX1) (N := 8) (ci := 1) rfl rfl (by decide) zn_X1_goBy_X1 (List.mem_of_getElem? (i := 3) rfl) rfl dX1_goBy_110 ?_
        refine lv_iload hx hb dX1_goBy_113 (lv_at hl 3 rfl) ?_
        obtain ⟨h8, hF⟩ := zs_ckS hF
        refine zs_iald C hK S 2 rfl h8 dX1_goBy_115 ?_
        obtain ⟨h9, hF⟩ := zs_ckS hF
        obtain ⟨Prw10, e11⟩ : ∃ q : Ob, q = zs_up Pr 1 (x4).toNatClampNeg (Pr 2 (x4).toNatClampNeg) := ⟨_, rfl⟩
        have hF := zs_letS hF e11
        refine zs_iast C hK S 1 (ws' := wX1 G aPr Prw10 ++ wX6 G aYd Yd) rfl h9 (by rw [e11]; rfl) dX1_goBy_116 (fun H locs S => ?_)
        obtain ⟨z12, e13⟩ : ∃ q : Int32, q = x4 + (1 : Int32) := ⟨_, rfl⟩
        have hF := zs_letS hF e13
        refine lv_iinc (v := z12) (lv' := [(4, .int z12), (0, .ref (aPr 0)), (1, .ref (aYd 0)), (3, .int x3)]) hx hb dX1_goBy_117 hl (k := 3) rfl (by rw [e13]; rfl) (by decide) rfl (fun ls hl => ?_)
        refine lv_goto (tgt := 94) hx hb dX1_goBy_120 (by decide) ?_
        exact ih94 Prw10 x3 z12 _ _ _ S (lv_sub hl [1, 2, 3, 0] rfl) hF
  have j91 : ∀ (Pr : Ob) (x3 : Int32) (H : Heap) (locs : List Loc) (ls : Array Slot), zs_S G A s.heap H locs (wX1 G aPr Pr ++ wX6 G aYd Yd) → lv_has ls 5 [(0, .ref (aPr 0)), (1, .ref (aYd 0)), (3, .int x3)] → F_X1_goBy_91 Yd Pr x3 = some (rr, Pr_) → W p l e RMX1_goBy s m args below meth c H locs 0 0 (MQ below (zs_Qi G (wX1 G aPr Pr_ ++ wX6 G aYd Yd) rr A) args s 0 0 A) (F0 m 91 ls []) := by
    intro Pr x3 H locs ls S hl hF
    unfold F_X1_goBy_91 at hF
    refine lv_iconst (v := (0 : Int32)) hx hb dX1_goBy_91 (by decide) ?_
    refine lv_istore (lv' := [(4, .int (0 : Int32)), (0, .ref (aPr 0)), (1, .ref (aYd 0)), (3, .int x3)]) hx hb dX1_goBy_92 hl (by decide) rfl (fun ls hl => ?_)
    exact j94 1000 Pr x3 (0 : Int32) _ _ _ S (lv_sub hl [1, 2, 3, 0] rfl) hF
  have j66 : ∀ (n66 : Nat) (Pr : Ob) (x3 : Int32) (x4 : Int32) (H : Heap) (locs : List Loc) (ls : Array Slot), zs_S G A s.heap H locs (wX1 G aPr Pr ++ wX6 G aYd Yd) → lv_has ls 5 [(0, .ref (aPr 0)), (1, .ref (aYd 0)), (3, .int x3), (4, .int x4)] → F_X1_goBy_66 Yd n66 Pr x3 x4 = some (rr, Pr_) → W p l e RMX1_goBy s m args below meth c H locs 0 0 (MQ below (zs_Qi G (wX1 G aPr Pr_ ++ wX6 G aYd Yd) rr A) args s 0 0 A) (F0 m 66 ls []) := by
    intro n66
    induction n66 with
    | zero => intro Pr x3 x4 H locs ls _ _ hF; rw [F_X1_goBy_66_z] at hF; cases hF
    | succ n66 ih66 =>
      intro Pr x3 x4 H locs ls S hl hF
      rw [F_X1_goBy_66_n] at hF
      unfold F_X1_goBy_66_s at hF
      refine lv_iload hx hb dX1_goBy_66 (lv_at hl 3 rfl) ?_
      refine lv_aload_n hx hb dX1_goBy_68 rfl (lv_at hl 1 rfl) ?_
      refine zs_get C hK S 4 0 (Cn := RX6) (T := TX6) (N := 9) (ci := 6) rfl rfl (by decide) zn_X1_goBy_X6 (List.mem_of_getElem? (i := 2) rfl) rfl dX1_goBy_69 ?_
      refine lv_icmp_ge (tgt := 91) hx hb dX1_goBy_72 (by decide) (fun c14 => ?_) (fun c14 => ?_)
      · have hF := zs_t hF c14
        exact j91 Pr x3 _ _ _ S (lv_sub hl [0, 1, 2] rfl) hF
      · have hF := zs_f hF c14
        refine lv_iload_n hx hb dX1_goBy_75 rfl (lv_at hl 2 rfl) ?_
        refine lv_aload_n hx hb dX1_goBy_76 rfl (lv_at hl 0 rfl) ?_
        refine lv_aload_n hx hb dX1_goBy_77 rfl (lv_at hl 1 rfl) ?_
        refine lv_iload hx hb dX1_goBy_78 (lv_at hl 3 rfl) ?_
        obtain ⟨r15, Prw16, f17, hF⟩ := zs_b2S hF
        refine zs_calli (wr := ([] : va_W)) (ws' := wX1 G aPr Prw16 ++ wX6 G aYd Yd) S hA [0, 1, 2, 3, 4, 5, 6, 7, 8, 9, 10, 11] [] [0, 1, 2, 3, 4, 5, 6, 7, 8, 9, 10, 11] (zs_runV C hK hA S [.ref (aYd 0), .int x4] [.int x3] [0, 1, 2, 3, 4, 5, 6, 7, 8, 9, 10, 11] 0 2 (c_X1_giveOff l G aPr aYd Pr Yd x4 H.size r15 Prw16 f17) gX1_goBy_X1_giveOff rfl rfl rfl zd_X1_giveOff ⟨Nat.le_of_ble_eq_true rfl, Nat.le_of_ble_eq_true rfl⟩ rfl rfl rfl rfl rfl hl rfl (Nat.le_of_ble_eq_true rfl) dX1_goBy_80 ⟨Nat.le_of_ble_eq_true rfl, Nat.le_of_ble_eq_true rfl⟩) rfl rfl rfl (by decide) rfl rfl (fun H locs S => ?_)
        refine lv_iadd hx hb dX1_goBy_83 ?_
        refine lv_topi (fun z18 e19 => ?_)
        have hF := zs_letS hF e19
        refine lv_istore_n (lv' := [(3, .int z18), (0, .ref (aPr 0)), (1, .ref (aYd 0)), (4, .int x4)]) hx hb dX1_goBy_84 rfl hl (by decide) rfl (fun ls hl => ?_)
        obtain ⟨z20, e21⟩ : ∃ q : Int32, q = x4 + (1 : Int32) := ⟨_, rfl⟩
        have hF := zs_letS hF e21
        refine lv_iinc (v := z20) (lv' := [(4, .int z20), (3, .int z18), (0, .ref (aPr 0)), (1, .ref (aYd 0))]) hx hb dX1_goBy_85 hl (k := 3) rfl (by rw [e21]; rfl) (by decide) rfl (fun ls hl => ?_)
        refine lv_goto (tgt := 66) hx hb dX1_goBy_88 (by decide) ?_
        exact ih66 Prw16 z18 z20 _ _ _ S (lv_sub hl [2, 3, 1, 0] rfl) hF
  have j61 : ∀ (Pr : Ob) (H : Heap) (locs : List Loc) (ls : Array Slot), zs_S G A s.heap H locs (wX1 G aPr Pr ++ wX6 G aYd Yd) → lv_has ls 5 [(0, .ref (aPr 0)), (1, .ref (aYd 0))] → F_X1_goBy_61 Yd Pr = some (rr, Pr_) → W p l e RMX1_goBy s m args below meth c H locs 0 0 (MQ below (zs_Qi G (wX1 G aPr Pr_ ++ wX6 G aYd Yd) rr A) args s 0 0 A) (F0 m 61 ls []) := by
    intro Pr H locs ls S hl hF
    unfold F_X1_goBy_61 at hF
    refine lv_iconst (v := (0 : Int32)) hx hb dX1_goBy_61 (by decide) ?_
    refine lv_istore_n (lv' := [(3, .int (0 : Int32)), (0, .ref (aPr 0)), (1, .ref (aYd 0))]) hx hb dX1_goBy_62 rfl hl (by decide) rfl (fun ls hl => ?_)
    refine lv_iconst (v := (0 : Int32)) hx hb dX1_goBy_63 (by decide) ?_
    refine lv_istore (lv' := [(4, .int (0 : Int32)), (3, .int (0 : Int32)), (0, .ref (aPr 0)), (1, .ref (aYd 0))]) hx hb dX1_goBy_64 hl (by decide) rfl (fun ls hl => ?_)
    exact j66 1000 Pr (0 : Int32) (0 : Int32) _ _ _ S (lv_sub hl [2, 3, 1, 0] rfl) hF
  have j10 : ∀ (n10 : Nat) (Pr : Ob) (x2 : Int32) (x3 : Int32) (H : Heap) (locs : List Loc) (ls : Array Slot), zs_S G A s.heap H locs (wX1 G aPr Pr ++ wX6 G aYd Yd) → lv_has ls 5 [(0, .ref (aPr 0)), (1, .ref (aYd 0)), (2, .int x2), (3, .int x3)] → F_X1_goBy_10 Yd n10 Pr x2 x3 = some (rr, Pr_) → W p l e RMX1_goBy s m args below meth c H locs 0 0 (MQ below (zs_Qi G (wX1 G aPr Pr_ ++ wX6 G aYd Yd) rr A) args s 0 0 A) (F0 m 10 ls []) := by
    intro n10
    induction n10 with
    | zero => intro Pr x2 x3 H locs ls _ _ hF; rw [F_X1_goBy_10_z] at hF; cases hF
    | succ n10 ih10 =>
      intro Pr x2 x3 H locs ls S hl hF
      rw [F_X1_goBy_10_n] at hF
      unfold F_X1_goBy_10_s at hF
      refine lv_iload_n hx hb dX1_goBy_10 rfl (lv_at hl 3 rfl) ?_
      refine lv_aload_n hx hb dX1_goBy_11 rfl (lv_at hl 1 rfl) ?_
      refine zs_get C hK S 4 0 (Cn := RX6) (T := TX6) (N := 9) (ci := 6) rfl rfl (by decide) zn_X1_goBy_X6 (List.mem_of_getElem? (i := 2) rfl) rfl dX1_goBy_12 ?_
      refine lv_icmp_ge (tgt := 61) hx hb dX1_goBy_15 (by decide) (fun c22 => ?_) (fun c22 => ?_)
      · have hF := zs_t hF c22
        exact j61 Pr _ _ _ S (lv_sub hl [0, 1] rfl) hF
      · have hF := zs_f hF c22
        refine lv_aload_n hx hb dX1_goBy_18 rfl (lv_at hl 0 rfl) ?_
        refine zs_get C hK S 0 6 (Cn := RX1) (T := TX1) (N := 8) (ci := 1) rfl rfl (by decide) zn_X1_goBy_X1 (List.mem_of_getElem? (i := 3) rfl) rfl dX1_goBy_19 ?_
        refine lv_iload_n hx hb dX1_goBy_22 rfl (lv_at hl 3 rfl) ?_
        refine lv_aload_n hx hb dX1_goBy_23 rfl (lv_at hl 0 rfl) ?_
        refine zs_get C hK S 0 5 (Cn := RX1) (T := TX1) (N := 8) (ci := 1) rfl rfl (by decide) zn_X1_goBy_X1 (List.mem_of_getElem? (i := 4) rfl) rfl dX1_goBy_24 ?_
        refine lv_iload_n hx hb dX1_goBy_27 rfl (lv_at hl 3 rfl) ?_
        obtain ⟨h23, hF⟩ := zs_ckS hF
        refine zs_iald C hK S 1 rfl h23 dX1_goBy_28 ?_
        refine lv_aload_n hx hb dX1_goBy_29 rfl (lv_at hl 1 rfl) ?_
        refine zs_get C hK S 4 5 (Cn := RX6) (T := TX6) (N := 9) (ci := 6) rfl rfl (by decide) zn_X1_goBy_X6 (List.mem_of_getElem? (i := 5) rfl) rfl dX1_goBy_30 ?_
        refine lv_iload_n hx hb dX1_goBy_33 rfl (lv_at hl 3 rfl) ?_
        obtain ⟨h24, hF⟩ := zs_ckS hF
        refine zs_iald C hK S 8 rfl h24 dX1_goBy_34 ?_
        refine lv_iload_n hx hb dX1_goBy_35 rfl (lv_at hl 2 rfl) ?_
        obtain ⟨r25, f26, hF⟩ := zs_bdS hF
        refine zs_calliP S hA (zs_runSN C hK hA S [.int (Yd 4 (x3).toNatClampNeg), .int x2] [.int (Pr 1 (x3).toNatClampNeg), .int x3, .ref (aPr 2)] [] 2 (c_X7_bit l G ((Yd 4 (x3).toNatClampNeg)) x2 H.size r25 f26) gX1_goBy_X7_bit_n53 rfl rfl rfl hK.1.2.1 (List.mem_of_getElem? (i := 10) rfl) (List.mem_of_getElem? (i := 9) rfl) zd_X7_bit ⟨Nat.le_of_ble_eq_true rfl, Nat.le_of_ble_eq_true rfl⟩ rfl rfl rfl hl rfl (Nat.le_of_ble_eq_true rfl) dX1_goBy_36 ⟨Nat.le_of_ble_eq_true rfl, Nat.le_of_ble_eq_true rfl⟩) (fun H locs S => ?_)
        refine lv_aload_n hx hb dX1_goBy_39 rfl (lv_at hl 1 rfl) ?_
        refine zs_get C hK S 4 4 (Cn := RX6) (T := TX6) (N := 9) (ci := 6) rfl rfl (by decide) zn_X1_goBy_X6 (List.mem_of_getElem? (i := 6) rfl) rfl dX1_goBy_40 ?_
        refine lv_iload_n hx hb dX1_goBy_43 rfl (lv_at hl 3 rfl) ?_
        obtain ⟨h27, hF⟩ := zs_ckS hF
        refine zs_iald C hK S 7 rfl h27 dX1_goBy_44 ?_
        refine lv_imul hx hb dX1_goBy_45 ?_
        refine lv_iadd hx hb dX1_goBy_46 ?_
        refine lv_aload_n hx hb dX1_goBy_47 rfl (lv_at hl 1 rfl) ?_
        refine zs_get C hK S 4 8 (Cn := RX6) (T := TX6) (N := 9) (ci := 6) rfl rfl (by decide) zn_X1_goBy_X6 (List.mem_of_getElem? (i := 7) rfl) rfl dX1_goBy_48 ?_
        refine lv_iload_n hx hb dX1_goBy_51 rfl (lv_at hl 3 rfl) ?_
        obtain ⟨h28, hF⟩ := zs_ckS hF
        refine zs_iald C hK S 11 rfl h28 dX1_goBy_52 ?_
        refine lv_iadd hx hb dX1_goBy_53 ?_
        obtain ⟨h29, hF⟩ := zs_ckS hF
        obtain ⟨Prw30, e31⟩ : ∃ q : Ob, q = zs_up Pr 2 (x3).toNatClampNeg (((Pr 1 (x3).toNatClampNeg) + (r25 * (Yd 3 (x3).toNatClampNeg))) + (Yd 7 (x3).toNatClampNeg)) := ⟨_, rfl⟩
        have hF := zs_letS hF e31
        refine zs_iast C hK S 2 (ws' := wX1 G aPr Prw30 ++ wX6 G aYd Yd) rfl h29 (by rw [e31]; rfl) dX1_goBy_54 (fun H locs S => ?_)
        obtain ⟨z32, e33⟩ : ∃ q : Int32, q = x3 + (1 : Int32) := ⟨_, rfl⟩
        have hF := zs_letS hF e33
        refine lv_iinc (v := z32) (lv' := [(3, .int z32), (0, .ref (aPr 0)), (1, .ref (aYd 0)), (2, .int x2)]) hx hb dX1_goBy_55 hl (k := 3) rfl (by rw [e33]; rfl) (by decide) rfl (fun ls hl => ?_)
        refine lv_goto (tgt := 10) hx hb dX1_goBy_58 (by decide) ?_
        exact ih10 Prw30 x2 z32 _ _ _ S (lv_sub hl [1, 2, 3, 0] rfl) hF
  refine lv_aload_n hx hb dX1_goBy_0 rfl (lv_at hl 0 rfl) ?_
  refine zs_get C hK S 0 0 (Cn := RX1) (T := TX1) (N := 8) (ci := 1) rfl rfl (by decide) zn_X1_goBy_X1 (List.mem_of_getElem? (i := 1) rfl) rfl dX1_goBy_1 ?_
  refine lv_bipush (v := (8 : Int32)) hx hb dX1_goBy_4 (by decide) ?_
  refine lv_irem hx hb dX1_goBy_6 (by decide) ?_
  refine lv_topi (fun z34 e35 => ?_)
  have hF := zs_letS hF e35
  refine lv_istore_n (lv' := [(2, .int z34), (0, .ref (aPr 0)), (1, .ref (aYd 0))]) hx hb dX1_goBy_7 rfl hl (by decide) rfl (fun ls hl => ?_)
  refine lv_iconst (v := (0 : Int32)) hx hb dX1_goBy_8 (by decide) ?_
  refine lv_istore_n (lv' := [(3, .int (0 : Int32)), (2, .int z34), (0, .ref (aPr 0)), (1, .ref (aYd 0))]) hx hb dX1_goBy_9 rfl hl (by decide) rfl (fun ls hl => ?_)
  exact j10 1000 Pr z34 (0 : Int32) _ _ _ S (lv_sub hl [2, 3, 1, 0] rfl) hF

abbrev RMX1_warmthOfAll : Room := { frames := 0, cells := 0, slots := 0, locals := 0 }
theorem zn_X1_warmthOfAll_X1 : ∀ w ∈ wsX10, w ∈ wsX1_warmthOfAll := zs_inl wsX10 [2, 3, 4, 5, 6, 7, 8, 9] (by decide +kernel)
set_option maxRecDepth 100000 in
set_option maxHeartbeats 4000000 in
theorem c_X1_warmthOfAll (l : Launch) (G : GG) (aPr : Ad) (Pr : Ob) (u1 : Int32) (sz : Nat) (rr : Int32) (hF : F_X1_warmthOfAll Pr u1 = some rr) : Met l yX1_warmthOfAll wsX1_warmthOfAll RMX1_warmthOfAll (va_Pc [.ref (aPr 0), .int u1] (zs_pre G (wX1 G aPr Pr) sz)) (zs_Qi G (wX1 G aPr Pr) rr (va_A (wX1 G aPr Pr) sz)) 0 0 (va_A (wX1 G aPr Pr) sz) := by
  refine zs_met (cc := cX1_warmthOfAll) (maxL := 4) (ret := (some .int)) (own := RX1) (Qc := zs_Qi G (wX1 G aPr Pr) rr) (by decide) rfl rfl (Nat.le_of_ble_eq_true rfl) ?_
  intro p e s m args below meth c C A hK hA S _ _ ls hl
  have hl : lv_has ls 4 [(0, .ref (aPr 0)), (1, .int u1)] := hl
  have hx := C.1.1
  have hb := C.1.2.1
  unfold F_X1_warmthOfAll at hF
  have j4 : ∀ (n4 : Nat) (x1 : Int32) (x2 : Int32) (x3 : Int32) (H : Heap) (locs : List Loc) (ls : Array Slot), zs_S G A s.heap H locs (wX1 G aPr Pr) → lv_has ls 4 [(0, .ref (aPr 0)), (1, .int x1), (2, .int x2), (3, .int x3)] → F_X1_warmthOfAll_4 Pr n4 x1 x2 x3 = some rr → W p l e RMX1_warmthOfAll s m args below meth c H locs 0 0 (MQ below (zs_Qi G (wX1 G aPr Pr) rr A) args s 0 0 A) (F0 m 4 ls []) := by
    intro n4
    induction n4 with
    | zero => intro x1 x2 x3 H locs ls _ _ hF; rw [F_X1_warmthOfAll_4_z] at hF; cases hF
    | succ n4 ih4 =>
      intro x1 x2 x3 H locs ls S hl hF
      rw [F_X1_warmthOfAll_4_n] at hF
      unfold F_X1_warmthOfAll_4_s at hF
      refine lv_iload_n hx hb dX1_warmthOfAll_4 rfl (lv_at hl 3 rfl) ?_
      refine lv_iload_n hx hb dX1_warmthOfAll_5 rfl (lv_at hl 1 rfl) ?_
      refine lv_icmp_ge (tgt := 30) hx hb dX1_warmthOfAll_6 (by decide) (fun c1 => ?_) (fun c1 => ?_)
      · have hF := zs_t hF c1
        refine lv_iload_n hx hb dX1_warmthOfAll_30 rfl (lv_at hl 2 rfl) ?_
        have e2 := zs_s1 hF
        exact zs_iretE C S e2 rfl dX1_warmthOfAll_31
      · have hF := zs_f hF c1
        refine lv_iload_n hx hb dX1_warmthOfAll_9 rfl (lv_at hl 3 rfl) ?_
        refine lv_bipush (v := (6 : Int32)) hx hb dX1_warmthOfAll_10 (by decide) ?_
        refine lv_icmp_ge (tgt := 30) hx hb dX1_warmthOfAll_12 (by decide) (fun c3 => ?_) (fun c3 => ?_)
        · have hF := zs_t hF c3
          refine lv_iload_n hx hb dX1_warmthOfAll_30 rfl (lv_at hl 2 rfl) ?_
          have e4 := zs_s1 hF
          exact zs_iretE C S e4 rfl dX1_warmthOfAll_31
        · have hF := zs_f hF c3
          refine lv_iload_n hx hb dX1_warmthOfAll_15 rfl (lv_at hl 2 rfl) ?_
          refine lv_aload_n hx hb dX1_warmthOfAll_16 rfl (lv_at hl 0 rfl) ?_
          refine zs_get C hK S 0 5 (Cn := RX1) (T := TX1) (N := 8) (ci := 1) rfl rfl (by decide) zn_X1_warmthOfAll_X1 (List.mem_of_getElem? (i := 1) rfl) rfl dX1_warmthOfAll_17 ?_
          refine lv_iload_n hx hb dX1_warmthOfAll_20 rfl (lv_at hl 3 rfl) ?_
          obtain ⟨h5, hF⟩ := zs_ckS hF
          refine zs_iald C hK S 1 rfl h5 dX1_warmthOfAll_21 ?_
          refine lv_iadd hx hb dX1_warmthOfAll_22 ?_
          refine lv_topi (fun z6 e7 => ?_)
          have hF := zs_letS hF e7
          refine lv_istore_n (lv' := [(2, .int z6), (0, .ref (aPr 0)), (1, .int x1), (3, .int x3)]) hx hb dX1_warmthOfAll_23 rfl hl (by decide) rfl (fun ls hl => ?_)
          obtain ⟨z8, e9⟩ : ∃ q : Int32, q = x3 + (1 : Int32) := ⟨_, rfl⟩
          have hF := zs_letS hF e9
          refine lv_iinc (v := z8) (lv' := [(3, .int z8), (2, .int z6), (0, .ref (aPr 0)), (1, .int x1)]) hx hb dX1_warmthOfAll_24 hl (k := 3) rfl (by rw [e9]; rfl) (by decide) rfl (fun ls hl => ?_)
          refine lv_goto (tgt := 4) hx hb dX1_warmthOfAll_27 (by decide) ?_
          exact ih4 x1 z6 z8 _ _ _ S (lv_sub hl [2, 3, 1, 0] rfl) hF
  refine lv_iconst (v := (0 : Int32)) hx hb dX1_warmthOfAll_0 (by decide) ?_
  refine lv_istore_n (lv' := [(2, .int (0 : Int32)), (0, .ref (aPr 0)), (1, .int u1)]) hx hb dX1_warmthOfAll_1 rfl hl (by decide) rfl (fun ls hl => ?_)
  refine lv_iconst (v := (0 : Int32)) hx hb dX1_warmthOfAll_2 (by decide) ?_
  refine lv_istore_n (lv' := [(3, .int (0 : Int32)), (2, .int (0 : Int32)), (0, .ref (aPr 0)), (1, .int u1)]) hx hb dX1_warmthOfAll_3 rfl hl (by decide) rfl (fun ls hl => ?_)
  exact j4 1000 u1 (0 : Int32) (0 : Int32) _ _ _ S (lv_sub hl [2, 3, 1, 0] rfl) hF

abbrev RMX1_tooWarm : Room := { frames := 0, cells := 0, slots := 0, locals := 0 }
theorem zn_X1_tooWarm_X1 : ∀ w ∈ wsX10, w ∈ wsX1_tooWarm := zs_inl wsX10 [13, 14, 15, 16, 17, 18, 19, 20] (by decide +kernel)
theorem zn_X1_tooWarm_X6 : ∀ w ∈ wsX60, w ∈ wsX1_tooWarm := zs_inl wsX60 [4, 5, 6, 7, 8, 9, 10, 11, 12] (by decide +kernel)
set_option maxRecDepth 100000 in
set_option maxHeartbeats 4000000 in
theorem c_X1_tooWarm (l : Launch) (G : GG) (aPr aYd : Ad) (Pr : Ob) (Yd : Ob) (sz : Nat) (rr : Int32) (hF : F_X1_tooWarm Pr Yd = some rr) : Met l yX1_tooWarm wsX1_tooWarm RMX1_tooWarm (va_Pc [.ref (aPr 0), .ref (aYd 0)] (zs_pre G (wX1 G aPr Pr ++ wX6 G aYd Yd) sz)) (zs_Qi G (wX1 G aPr Pr ++ wX6 G aYd Yd) rr (va_A (wX1 G aPr Pr ++ wX6 G aYd Yd) sz)) 0 0 (va_A (wX1 G aPr Pr ++ wX6 G aYd Yd) sz) := by
  refine zs_met (cc := cX1_tooWarm) (maxL := 4) (ret := (some .int)) (own := RX1) (Qc := zs_Qi G (wX1 G aPr Pr ++ wX6 G aYd Yd) rr) (by decide) rfl rfl (Nat.le_of_ble_eq_true rfl) ?_
  intro p e s m args below meth c C A hK hA S _ _ ls hl
  have hl : lv_has ls 4 [(0, .ref (aPr 0)), (1, .ref (aYd 0))] := hl
  have hx := C.1.1
  have hb := C.1.2.1
  unfold F_X1_tooWarm at hF
  have j4 : ∀ (n4 : Nat) (x2 : Int32) (x3 : Int32) (H : Heap) (locs : List Loc) (ls : Array Slot), zs_S G A s.heap H locs (wX1 G aPr Pr ++ wX6 G aYd Yd) → lv_has ls 4 [(0, .ref (aPr 0)), (1, .ref (aYd 0)), (2, .int x2), (3, .int x3)] → F_X1_tooWarm_4 Pr Yd n4 x2 x3 = some rr → W p l e RMX1_tooWarm s m args below meth c H locs 0 0 (MQ below (zs_Qi G (wX1 G aPr Pr ++ wX6 G aYd Yd) rr A) args s 0 0 A) (F0 m 4 ls []) := by
    intro n4
    induction n4 with
    | zero => intro x2 x3 H locs ls _ _ hF; rw [F_X1_tooWarm_4_z] at hF; cases hF
    | succ n4 ih4 =>
      have j31 : ∀ (x2 : Int32) (x3 : Int32) (H : Heap) (locs : List Loc) (ls : Array Slot), zs_S G A s.heap H locs (wX1 G aPr Pr ++ wX6 G aYd Yd) → lv_has ls 4 [(0, .ref (aPr 0)), (1, .ref (aYd 0)), (2, .int x2), (3, .int x3)] → F_X1_tooWarm_31 Pr Yd (F_X1_tooWarm_4 Pr Yd n4) x2 x3 = some rr → W p l e RMX1_tooWarm s m args below meth c H locs 0 0 (MQ below (zs_Qi G (wX1 G aPr Pr ++ wX6 G aYd Yd) rr A) args s 0 0 A) (F0 m 31 ls []) := by
        intro x2 x3 H locs ls S hl hF
        unfold F_X1_tooWarm_31 at hF
        obtain ⟨z1, e2⟩ : ∃ q : Int32, q = x3 + (1 : Int32) := ⟨_, rfl⟩
        have hF := zs_letS hF e2
        refine lv_iinc (v := z1) (lv' := [(3, .int z1), (0, .ref (aPr 0)), (1, .ref (aYd 0)), (2, .int x2)]) hx hb dX1_tooWarm_31 hl (k := 3) rfl (by rw [e2]; rfl) (by decide) rfl (fun ls hl => ?_)
        refine lv_goto (tgt := 4) hx hb dX1_tooWarm_34 (by decide) ?_
        exact ih4 x2 z1 _ _ _ S (lv_sub hl [1, 2, 3, 0] rfl) hF
      intro x2 x3 H locs ls S hl hF
      rw [F_X1_tooWarm_4_n] at hF
      unfold F_X1_tooWarm_4_s at hF
      refine lv_iload_n hx hb dX1_tooWarm_4 rfl (lv_at hl 3 rfl) ?_
      refine lv_aload_n hx hb dX1_tooWarm_5 rfl (lv_at hl 1 rfl) ?_
      refine zs_get C hK S 4 0 (Cn := RX6) (T := TX6) (N := 9) (ci := 6) rfl rfl (by decide) zn_X1_tooWarm_X6 (List.mem_of_getElem? (i := 1) rfl) rfl dX1_tooWarm_6 ?_
      refine lv_icmp_ge (tgt := 37) hx hb dX1_tooWarm_9 (by decide) (fun c3 => ?_) (fun c3 => ?_)
      · have hF := zs_t hF c3
        refine lv_iload_n hx hb dX1_tooWarm_37 rfl (lv_at hl 2 rfl) ?_
        have e4 := zs_s1 hF
        exact zs_iretE C S e4 rfl dX1_tooWarm_38
      · have hF := zs_f hF c3
        refine lv_aload_n hx hb dX1_tooWarm_12 rfl (lv_at hl 0 rfl) ?_
        refine zs_get C hK S 0 5 (Cn := RX1) (T := TX1) (N := 8) (ci := 1) rfl rfl (by decide) zn_X1_tooWarm_X1 (List.mem_of_getElem? (i := 2) rfl) rfl dX1_tooWarm_13 ?_
        refine lv_iload_n hx hb dX1_tooWarm_16 rfl (lv_at hl 3 rfl) ?_
        obtain ⟨h5, hF⟩ := zs_ckS hF
        refine zs_iald C hK S 1 rfl h5 dX1_tooWarm_17 ?_
        refine lv_aload_n hx hb dX1_tooWarm_18 rfl (lv_at hl 1 rfl) ?_
        refine zs_get C hK S 4 1 (Cn := RX6) (T := TX6) (N := 9) (ci := 6) rfl rfl (by decide) zn_X1_tooWarm_X6 (List.mem_of_getElem? (i := 3) rfl) rfl dX1_tooWarm_19 ?_
        refine lv_icmp_le (tgt := 31) hx hb dX1_tooWarm_22 (by decide) (fun c6 => ?_) (fun c6 => ?_)
        · have hF := zs_t hF c6
          exact j31 x2 x3 _ _ _ S (lv_sub hl [0, 1, 2, 3] rfl) hF
        · have hF := zs_f hF c6
          refine lv_iload_n hx hb dX1_tooWarm_25 rfl (lv_at hl 2 rfl) ?_
          refine lv_iconst (v := (1 : Int32)) hx hb dX1_tooWarm_26 (by decide) ?_
          refine lv_iload_n hx hb dX1_tooWarm_27 rfl (lv_at hl 3 rfl) ?_
          refine lv_ishl hx hb dX1_tooWarm_28 ?_
          refine lv_ior hx hb dX1_tooWarm_29 ?_
          refine lv_topi (fun z7 e8 => ?_)
          have hF := zs_letS hF e8
          refine lv_istore_n (lv' := [(2, .int z7), (0, .ref (aPr 0)), (1, .ref (aYd 0)), (3, .int x3)]) hx hb dX1_tooWarm_30 rfl hl (by decide) rfl (fun ls hl => ?_)
          exact j31 z7 x3 _ _ _ S (lv_sub hl [1, 2, 0, 3] rfl) hF
  refine lv_iconst (v := (0 : Int32)) hx hb dX1_tooWarm_0 (by decide) ?_
  refine lv_istore_n (lv' := [(2, .int (0 : Int32)), (0, .ref (aPr 0)), (1, .ref (aYd 0))]) hx hb dX1_tooWarm_1 rfl hl (by decide) rfl (fun ls hl => ?_)
  refine lv_iconst (v := (0 : Int32)) hx hb dX1_tooWarm_2 (by decide) ?_
  refine lv_istore_n (lv' := [(3, .int (0 : Int32)), (2, .int (0 : Int32)), (0, .ref (aPr 0)), (1, .ref (aYd 0))]) hx hb dX1_tooWarm_3 rfl hl (by decide) rfl (fun ls hl => ?_)
  exact j4 1000 (0 : Int32) (0 : Int32) _ _ _ S (lv_sub hl [2, 3, 1, 0] rfl) hF

abbrev RMX1_warmest : Room := { frames := 0, cells := 0, slots := 0, locals := 0 }
theorem zn_X1_warmest_X1 : ∀ w ∈ wsX10, w ∈ wsX1_warmest := zs_inl wsX10 [2, 3, 4, 5, 6, 7, 8, 9] (by decide +kernel)
set_option maxRecDepth 100000 in
set_option maxHeartbeats 4000000 in
theorem c_X1_warmest (l : Launch) (G : GG) (aPr : Ad) (Pr : Ob) (u1 : Int32) (sz : Nat) (rr : Int32) (hF : F_X1_warmest Pr u1 = some rr) : Met l yX1_warmest wsX1_warmest RMX1_warmest (va_Pc [.ref (aPr 0), .int u1] (zs_pre G (wX1 G aPr Pr) sz)) (zs_Qi G (wX1 G aPr Pr) rr (va_A (wX1 G aPr Pr) sz)) 0 0 (va_A (wX1 G aPr Pr) sz) := by
  refine zs_met (cc := cX1_warmest) (maxL := 4) (ret := (some .int)) (own := RX1) (Qc := zs_Qi G (wX1 G aPr Pr) rr) (by decide) rfl rfl (Nat.le_of_ble_eq_true rfl) ?_
  intro p e s m args below meth c C A hK hA S _ _ ls hl
  have hl : lv_has ls 4 [(0, .ref (aPr 0)), (1, .int u1)] := hl
  have hx := C.1.1
  have hb := C.1.2.1
  unfold F_X1_warmest at hF
  have j5 : ∀ (n5 : Nat) (x1 : Int32) (x2 : Int32) (x3 : Int32) (H : Heap) (locs : List Loc) (ls : Array Slot), zs_S G A s.heap H locs (wX1 G aPr Pr) → lv_has ls 4 [(0, .ref (aPr 0)), (1, .int x1), (2, .int x2), (3, .int x3)] → F_X1_warmest_5 Pr n5 x1 x2 x3 = some rr → W p l e RMX1_warmest s m args below meth c H locs 0 0 (MQ below (zs_Qi G (wX1 G aPr Pr) rr A) args s 0 0 A) (F0 m 5 ls []) := by
    intro n5
    induction n5 with
    | zero => intro x1 x2 x3 H locs ls _ _ hF; rw [F_X1_warmest_5_z] at hF; cases hF
    | succ n5 ih5 =>
      have j39 : ∀ (x1 : Int32) (x2 : Int32) (x3 : Int32) (H : Heap) (locs : List Loc) (ls : Array Slot), zs_S G A s.heap H locs (wX1 G aPr Pr) → lv_has ls 4 [(0, .ref (aPr 0)), (1, .int x1), (2, .int x2), (3, .int x3)] → F_X1_warmest_39 Pr (F_X1_warmest_5 Pr n5) x1 x2 x3 = some rr → W p l e RMX1_warmest s m args below meth c H locs 0 0 (MQ below (zs_Qi G (wX1 G aPr Pr) rr A) args s 0 0 A) (F0 m 39 ls []) := by
        intro x1 x2 x3 H locs ls S hl hF
        unfold F_X1_warmest_39 at hF
        obtain ⟨z1, e2⟩ : ∃ q : Int32, q = x3 + (1 : Int32) := ⟨_, rfl⟩
        have hF := zs_letS hF e2
        refine lv_iinc (v := z1) (lv' := [(3, .int z1), (0, .ref (aPr 0)), (1, .int x1), (2, .int x2)]) hx hb dX1_warmest_39 hl (k := 3) rfl (by rw [e2]; rfl) (by decide) rfl (fun ls hl => ?_)
        refine lv_goto (tgt := 5) hx hb dX1_warmest_42 (by decide) ?_
        exact ih5 x1 x2 z1 _ _ _ S (lv_sub hl [1, 2, 3, 0] rfl) hF
      have j37 : ∀ (x1 : Int32) (x3 : Int32) (H : Heap) (locs : List Loc) (ls : Array Slot), zs_S G A s.heap H locs (wX1 G aPr Pr) → lv_has ls 4 [(0, .ref (aPr 0)), (1, .int x1), (3, .int x3)] → F_X1_warmest_37 Pr (F_X1_warmest_5 Pr n5) x1 x3 = some rr → W p l e RMX1_warmest s m args below meth c H locs 0 0 (MQ below (zs_Qi G (wX1 G aPr Pr) rr A) args s 0 0 A) (F0 m 37 ls []) := by
        intro x1 x3 H locs ls S hl hF
        unfold F_X1_warmest_37 at hF
        refine lv_iload_n hx hb dX1_warmest_37 rfl (lv_at hl 2 rfl) ?_
        refine lv_istore_n (lv' := [(2, .int x3), (0, .ref (aPr 0)), (1, .int x1), (3, .int x3)]) hx hb dX1_warmest_38 rfl hl (by decide) rfl (fun ls hl => ?_)
        exact j39 x1 x3 x3 _ _ _ S (lv_sub hl [1, 2, 0, 3] rfl) hF
      intro x1 x2 x3 H locs ls S hl hF
      rw [F_X1_warmest_5_n] at hF
      unfold F_X1_warmest_5_s at hF
      refine lv_iload_n hx hb dX1_warmest_5 rfl (lv_at hl 3 rfl) ?_
      refine lv_iload_n hx hb dX1_warmest_6 rfl (lv_at hl 1 rfl) ?_
      refine lv_icmp_ge (tgt := 45) hx hb dX1_warmest_7 (by decide) (fun c3 => ?_) (fun c3 => ?_)
      · have hF := zs_t hF c3
        refine lv_iload_n hx hb dX1_warmest_45 rfl (lv_at hl 2 rfl) ?_
        have e4 := zs_s1 hF
        exact zs_iretE C S e4 rfl dX1_warmest_46
      · have hF := zs_f hF c3
        refine lv_iload_n hx hb dX1_warmest_10 rfl (lv_at hl 3 rfl) ?_
        refine lv_bipush (v := (6 : Int32)) hx hb dX1_warmest_11 (by decide) ?_
        refine lv_icmp_ge (tgt := 45) hx hb dX1_warmest_13 (by decide) (fun c5 => ?_) (fun c5 => ?_)
        · have hF := zs_t hF c5
          refine lv_iload_n hx hb dX1_warmest_45 rfl (lv_at hl 2 rfl) ?_
          have e6 := zs_s1 hF
          exact zs_iretE C S e6 rfl dX1_warmest_46
        · have hF := zs_f hF c5
          refine lv_iload_n hx hb dX1_warmest_16 rfl (lv_at hl 2 rfl) ?_
          refine lv_bipush (v := (-9 : Int32)) hx hb dX1_warmest_17 (by decide) ?_
          refine lv_icmp_eq (tgt := 37) hx hb dX1_warmest_19 (by decide) (fun c7 => ?_) (fun c7 => ?_)
          · have hF := zs_t hF c7
            exact j37 x1 x3 _ _ _ S (lv_sub hl [0, 1, 3] rfl) hF
          · have hF := zs_f hF c7
            refine lv_aload_n hx hb dX1_warmest_22 rfl (lv_at hl 0 rfl) ?_
            refine zs_get C hK S 0 5 (Cn := RX1) (T := TX1) (N := 8) (ci := 1) rfl rfl (by decide) zn_X1_warmest_X1 (List.mem_of_getElem? (i := 1) rfl) rfl dX1_warmest_23 ?_
            refine lv_iload_n hx hb dX1_warmest_26 rfl (lv_at hl 3 rfl) ?_
            obtain ⟨h8, hF⟩ := zs_ckS hF
            refine zs_iald C hK S 1 rfl h8 dX1_warmest_27 ?_
            refine lv_aload_n hx hb dX1_warmest_28 rfl (lv_at hl 0 rfl) ?_
            refine zs_get C hK S 0 5 (Cn := RX1) (T := TX1) (N := 8) (ci := 1) rfl rfl (by decide) zn_X1_warmest_X1 (List.mem_of_getElem? (i := 1) rfl) rfl dX1_warmest_29 ?_
            refine lv_iload_n hx hb dX1_warmest_32 rfl (lv_at hl 2 rfl) ?_
            obtain ⟨h9, hF⟩ := zs_ckS hF
            refine zs_iald C hK S 1 rfl h9 dX1_warmest_33 ?_
            refine lv_icmp_le (tgt := 39) hx hb dX1_warmest_34 (by decide) (fun c10 => ?_) (fun c10 => ?_)
            · have hF := zs_t hF c10
              exact j39 x1 x2 x3 _ _ _ S (lv_sub hl [0, 1, 2, 3] rfl) hF
            · have hF := zs_f hF c10
              exact j37 x1 x3 _ _ _ S (lv_sub hl [0, 1, 3] rfl) hF
  refine lv_bipush (v := (-9 : Int32)) hx hb dX1_warmest_0 (by decide) ?_
  refine lv_istore_n (lv' := [(2, .int (-9 : Int32)), (0, .ref (aPr 0)), (1, .int u1)]) hx hb dX1_warmest_2 rfl hl (by decide) rfl (fun ls hl => ?_)
  refine lv_iconst (v := (0 : Int32)) hx hb dX1_warmest_3 (by decide) ?_
  refine lv_istore_n (lv' := [(3, .int (0 : Int32)), (2, .int (-9 : Int32)), (0, .ref (aPr 0)), (1, .int u1)]) hx hb dX1_warmest_4 rfl hl (by decide) rfl (fun ls hl => ?_)
  exact j5 1000 u1 (-9 : Int32) (0 : Int32) _ _ _ S (lv_sub hl [2, 3, 1, 0] rfl) hF

abbrev RMX1_warmthOfWarmest : Room := { frames := 1, cells := 0, slots := 0, locals := 21 }
theorem zn_X1_warmthOfWarmest_X1 : ∀ w ∈ wsX10, w ∈ wsX1_warmthOfWarmest := zs_inl wsX10 [6, 7, 8, 9, 10, 11, 12, 13] (by decide +kernel)
set_option maxRecDepth 100000 in
set_option maxHeartbeats 4000000 in
theorem c_X1_warmthOfWarmest (l : Launch) (G : GG) (aPr : Ad) (Pr : Ob) (u1 : Int32) (sz : Nat) (rr : Int32) (hF : F_X1_warmthOfWarmest Pr u1 = some rr) : Met l yX1_warmthOfWarmest wsX1_warmthOfWarmest RMX1_warmthOfWarmest (va_Pc [.ref (aPr 0), .int u1] (zs_pre G (wX1 G aPr Pr) sz)) (zs_Qi G (wX1 G aPr Pr) rr (va_A (wX1 G aPr Pr) sz)) 0 0 (va_A (wX1 G aPr Pr) sz) := by
  refine zs_met (cc := cX1_warmthOfWarmest) (maxL := 4) (ret := (some .int)) (own := RX1) (Qc := zs_Qi G (wX1 G aPr Pr) rr) (by decide) rfl rfl (Nat.le_of_ble_eq_true rfl) ?_
  intro p e s m args below meth c C A hK hA S _ _ ls hl
  have hl : lv_has ls 4 [(0, .ref (aPr 0)), (1, .int u1)] := hl
  have hx := C.1.1
  have hb := C.1.2.1
  unfold F_X1_warmthOfWarmest at hF
  have j4 : ∀ (n4 : Nat) (x1 : Int32) (x2 : Int32) (x3 : Int32) (H : Heap) (locs : List Loc) (ls : Array Slot), zs_S G A s.heap H locs (wX1 G aPr Pr) → lv_has ls 4 [(0, .ref (aPr 0)), (1, .int x1), (2, .int x2), (3, .int x3)] → F_X1_warmthOfWarmest_4 Pr n4 x1 x2 x3 = some rr → W p l e RMX1_warmthOfWarmest s m args below meth c H locs 0 0 (MQ below (zs_Qi G (wX1 G aPr Pr) rr A) args s 0 0 A) (F0 m 4 ls []) := by
    intro n4
    induction n4 with
    | zero => intro x1 x2 x3 H locs ls _ _ hF; rw [F_X1_warmthOfWarmest_4_z] at hF; cases hF
    | succ n4 ih4 =>
      intro x1 x2 x3 H locs ls S hl hF
      rw [F_X1_warmthOfWarmest_4_n] at hF
      unfold F_X1_warmthOfWarmest_4_s at hF
      refine lv_iload_n hx hb dX1_warmthOfWarmest_4 rfl (lv_at hl 3 rfl) ?_
      refine lv_iload_n hx hb dX1_warmthOfWarmest_5 rfl (lv_at hl 1 rfl) ?_
      refine lv_icmp_ge (tgt := 32) hx hb dX1_warmthOfWarmest_6 (by decide) (fun c1 => ?_) (fun c1 => ?_)
      · have hF := zs_t hF c1
        refine lv_iload_n hx hb dX1_warmthOfWarmest_32 rfl (lv_at hl 2 rfl) ?_
        have e2 := zs_s1 hF
        exact zs_iretE C S e2 rfl dX1_warmthOfWarmest_33
      · have hF := zs_f hF c1
        refine lv_iload_n hx hb dX1_warmthOfWarmest_9 rfl (lv_at hl 3 rfl) ?_
        refine lv_bipush (v := (6 : Int32)) hx hb dX1_warmthOfWarmest_10 (by decide) ?_
        refine lv_icmp_ge (tgt := 32) hx hb dX1_warmthOfWarmest_12 (by decide) (fun c3 => ?_) (fun c3 => ?_)
        · have hF := zs_t hF c3
          refine lv_iload_n hx hb dX1_warmthOfWarmest_32 rfl (lv_at hl 2 rfl) ?_
          have e4 := zs_s1 hF
          exact zs_iretE C S e4 rfl dX1_warmthOfWarmest_33
        · have hF := zs_f hF c3
          refine lv_iload_n hx hb dX1_warmthOfWarmest_15 rfl (lv_at hl 2 rfl) ?_
          refine lv_aload_n hx hb dX1_warmthOfWarmest_16 rfl (lv_at hl 0 rfl) ?_
          refine zs_get C hK S 0 5 (Cn := RX1) (T := TX1) (N := 8) (ci := 1) rfl rfl (by decide) zn_X1_warmthOfWarmest_X1 (List.mem_of_getElem? (i := 1) rfl) rfl dX1_warmthOfWarmest_17 ?_
          refine lv_iload_n hx hb dX1_warmthOfWarmest_20 rfl (lv_at hl 3 rfl) ?_
          obtain ⟨h5, hF⟩ := zs_ckS hF
          refine zs_iald C hK S 1 rfl h5 dX1_warmthOfWarmest_21 ?_
          refine va_mmax hx hb (C.1.2.2.1.trans hl.1.symm) C.1.2.2.2.1 (C.1.2.2.2.2 _ (List.mem_of_getElem? (i := 2) rfl)) (C.1.2.2.2.2 _ (List.mem_of_getElem? (i := 3) rfl)) (C.1.2.2.2.2 _ (List.mem_of_getElem? (i := 4) rfl)) (C.1.2.2.2.2 _ (List.mem_of_getElem? (i := 5) rfl)) (Nat.le_of_ble_eq_true rfl) (Nat.le_of_ble_eq_true rfl) (Nat.le_of_ble_eq_true rfl) (Nat.le_of_ble_eq_true rfl) dX1_warmthOfWarmest_22 ?_
          refine lv_topi (fun z6 e7 => ?_)
          have hF := zs_letS hF e7
          refine lv_istore_n (lv' := [(2, .int z6), (0, .ref (aPr 0)), (1, .int x1), (3, .int x3)]) hx hb dX1_warmthOfWarmest_25 rfl hl (by decide) rfl (fun ls hl => ?_)
          obtain ⟨z8, e9⟩ : ∃ q : Int32, q = x3 + (1 : Int32) := ⟨_, rfl⟩
          have hF := zs_letS hF e9
          refine lv_iinc (v := z8) (lv' := [(3, .int z8), (2, .int z6), (0, .ref (aPr 0)), (1, .int x1)]) hx hb dX1_warmthOfWarmest_26 hl (k := 3) rfl (by rw [e9]; rfl) (by decide) rfl (fun ls hl => ?_)
          refine lv_goto (tgt := 4) hx hb dX1_warmthOfWarmest_29 (by decide) ?_
          exact ih4 x1 z6 z8 _ _ _ S (lv_sub hl [2, 3, 1, 0] rfl) hF
  refine lv_iconst (v := (0 : Int32)) hx hb dX1_warmthOfWarmest_0 (by decide) ?_
  refine lv_istore_n (lv' := [(2, .int (0 : Int32)), (0, .ref (aPr 0)), (1, .int u1)]) hx hb dX1_warmthOfWarmest_1 rfl hl (by decide) rfl (fun ls hl => ?_)
  refine lv_iconst (v := (0 : Int32)) hx hb dX1_warmthOfWarmest_2 (by decide) ?_
  refine lv_istore_n (lv' := [(3, .int (0 : Int32)), (2, .int (0 : Int32)), (0, .ref (aPr 0)), (1, .int u1)]) hx hb dX1_warmthOfWarmest_3 rfl hl (by decide) rfl (fun ls hl => ?_)
  exact j4 1000 u1 (0 : Int32) (0 : Int32) _ _ _ S (lv_sub hl [2, 3, 1, 0] rfl) hF

