abbrev RMX3_add : Room := { frames := 0, cells := 0, slots := 0, locals := 0 }
theorem zn_X3_add_X3 : ∀ w ∈ wsX30, w ∈ wsX3_add := zs_inl wsX30 [5, 6, 7, 8] (by decide +kernel)
set_option maxRecDepth 100000 in
set_option maxHeartbeats 4000000 in
theorem c_X3_add (l : Launch) (G : GG) (aSg : Ad) (Sg : Ob) (u1 : Int32) (u2 : Int32) (u3 : Int32) (sz : Nat) (Sg_ : Ob) (hF : F_X3_add Sg u1 u2 u3 = some Sg_) : Met l yX3_add wsX3_add RMX3_add (va_Pc [.ref (aSg 0), .int u1, .int u2, .int u3] (zs_pre G (wX3 G aSg Sg) sz)) (zs_Qv G (wX3 G aSg Sg_) (va_A (wX3 G aSg Sg) sz)) 0 0 (va_A (wX3 G aSg Sg) sz) := by
  refine zs_met (cc := cX3_add) (maxL := 4) (ret := none) (own := RX3) (Qc := zs_Qv G (wX3 G aSg Sg_)) (by decide) rfl rfl (Nat.le_of_ble_eq_true rfl) ?_
  intro p e s m args below meth c C A hK hA S _ _ ls hl
  have hl : lv_has ls 4 [(0, .ref (aSg 0)), (1, .int u1), (2, .int u2), (3, .int u3)] := hl
  have hx := C.1.1
  have hb := C.1.2.1
  unfold F_X3_add at hF
  refine lv_aload_n hx hb dX3_add_0 rfl (lv_at hl 0 rfl) ?_
  refine zs_get C hK S 0 0 (Cn := RX3) (T := TX3) (N := 4) (ci := 3) rfl rfl (by decide) zn_X3_add_X3 (List.mem_of_getElem? (i := 1) rfl) rfl dX3_add_1 ?_
  refine lv_bipush (v := (8 : Int32)) hx hb dX3_add_4 (by decide) ?_
  refine lv_icmp_ge (tgt := 49) hx hb dX3_add_6 (by decide) (fun c1 => ?_) (fun c1 => ?_)
  · have hF := zs_t hF c1
    have e2 := zs_s1 hF
    exact zs_vretE C S (by rw [e2]) dX3_add_49
  · have hF := zs_f hF c1
    refine lv_aload_n hx hb dX3_add_9 rfl (lv_at hl 0 rfl) ?_
    refine zs_get C hK S 0 1 (Cn := RX3) (T := TX3) (N := 4) (ci := 3) rfl rfl (by decide) zn_X3_add_X3 (List.mem_of_getElem? (i := 2) rfl) rfl dX3_add_10 ?_
    refine lv_aload_n hx hb dX3_add_13 rfl (lv_at hl 0 rfl) ?_
    refine zs_get C hK S 0 0 (Cn := RX3) (T := TX3) (N := 4) (ci := 3) rfl rfl (by decide) zn_X3_add_X3 (List.mem_of_getElem? (i := 1) rfl) rfl dX3_add_14 ?_
    refine lv_iload_n hx hb dX3_add_17 rfl (lv_at hl 1 rfl) ?_
    obtain ⟨h3, hF⟩ := zs_ckS hF
    obtain ⟨Sgw4, e5⟩ : ∃ q : Ob, q = zs_up Sg 1 ((Sg 0 0)).toNatClampNeg u1 := ⟨_, rfl⟩
    have hF := zs_letS hF e5
    refine zs_iast C hK S 1 (ws' := wX3 G aSg Sgw4) rfl h3 (by rw [e5]; rfl) dX3_add_18 (fun H locs S => ?_)
    refine lv_aload_n hx hb dX3_add_19 rfl (lv_at hl 0 rfl) ?_
    refine zs_get C hK S 0 2 (Cn := RX3) (T := TX3) (N := 4) (ci := 3) rfl rfl (by decide) zn_X3_add_X3 (List.mem_of_getElem? (i := 3) rfl) rfl dX3_add_20 ?_
    refine lv_aload_n hx hb dX3_add_23 rfl (lv_at hl 0 rfl) ?_
    refine zs_get C hK S 0 0 (Cn := RX3) (T := TX3) (N := 4) (ci := 3) rfl rfl (by decide) zn_X3_add_X3 (List.mem_of_getElem? (i := 1) rfl) rfl dX3_add_24 ?_
    refine lv_iload_n hx hb dX3_add_27 rfl (lv_at hl 2 rfl) ?_
    obtain ⟨h6, hF⟩ := zs_ckS hF
    obtain ⟨Sgw7, e8⟩ : ∃ q : Ob, q = zs_up Sgw4 2 ((Sgw4 0 0)).toNatClampNeg u2 := ⟨_, rfl⟩
    have hF := zs_letS hF e8
    refine zs_iast C hK S 2 (ws' := wX3 G aSg Sgw7) rfl h6 (by rw [e8]; rfl) dX3_add_28 (fun H locs S => ?_)
    refine lv_aload_n hx hb dX3_add_29 rfl (lv_at hl 0 rfl) ?_
    refine zs_get C hK S 0 3 (Cn := RX3) (T := TX3) (N := 4) (ci := 3) rfl rfl (by decide) zn_X3_add_X3 (List.mem_of_getElem? (i := 4) rfl) rfl dX3_add_30 ?_
    refine lv_aload_n hx hb dX3_add_33 rfl (lv_at hl 0 rfl) ?_
    refine zs_get C hK S 0 0 (Cn := RX3) (T := TX3) (N := 4) (ci := 3) rfl rfl (by decide) zn_X3_add_X3 (List.mem_of_getElem? (i := 1) rfl) rfl dX3_add_34 ?_
    refine lv_iload_n hx hb dX3_add_37 rfl (lv_at hl 3 rfl) ?_
    obtain ⟨h9, hF⟩ := zs_ckS hF
    obtain ⟨Sgw10, e11⟩ : ∃ q : Ob, q = zs_up Sgw7 3 ((Sgw7 0 0)).toNatClampNeg u3 := ⟨_, rfl⟩
    have hF := zs_letS hF e11
    refine zs_iast C hK S 3 (ws' := wX3 G aSg Sgw10) rfl h9 (by rw [e11]; rfl) dX3_add_38 (fun H locs S => ?_)
    refine lv_aload_n hx hb dX3_add_39 rfl (lv_at hl 0 rfl) ?_
    refine lv_dup hx hb dX3_add_40 rfl ?_
    refine zs_get C hK S 0 0 (Cn := RX3) (T := TX3) (N := 4) (ci := 3) rfl rfl (by decide) zn_X3_add_X3 (List.mem_of_getElem? (i := 1) rfl) rfl dX3_add_41 ?_
    refine lv_iconst (v := (1 : Int32)) hx hb dX3_add_44 (by decide) ?_
    refine lv_iadd hx hb dX3_add_45 ?_
    obtain ⟨Sgw12, e13⟩ : ∃ q : Ob, q = zs_up Sgw10 0 0 ((Sgw10 0 0) + (1 : Int32)) := ⟨_, rfl⟩
    have hF := zs_letS hF e13
    refine zs_put C hK S 0 0 (ws' := wX3 G aSg Sgw12) (Cn := RX3) (T := TX3) (N := 4) (ci := 3) rfl rfl (by decide) zn_X3_add_X3 tyX3_ok nmX3 (List.mem_of_getElem? (i := 1) rfl) rfl rfl rfl (Nat.le_of_ble_eq_true rfl) (by rw [e13]; rfl) dX3_add_46 (fun H locs S => ?_)
    have e14 := zs_s1 hF
    exact zs_vretE C S (by rw [e14]) dX3_add_49

abbrev RMX3_latest : Room := { frames := 1, cells := 0, slots := 0, locals := 21 }
theorem zn_X3_latest_X3 : ∀ w ∈ wsX30, w ∈ wsX3_latest := zs_inl wsX30 [7, 8, 9, 10] (by decide +kernel)
set_option maxRecDepth 100000 in
set_option maxHeartbeats 4000000 in
theorem c_X3_latest (l : Launch) (G : GG) (aSg : Ad) (Sg : Ob) (sz : Nat) (rr : Int32) (hF : F_X3_latest Sg = some rr) : Met l yX3_latest wsX3_latest RMX3_latest (va_Pc [.ref (aSg 0)] (zs_pre G (wX3 G aSg Sg) sz)) (zs_Qi G (wX3 G aSg Sg) rr (va_A (wX3 G aSg Sg) sz)) 0 0 (va_A (wX3 G aSg Sg) sz) := by
  refine zs_met (cc := cX3_latest) (maxL := 3) (ret := (some .int)) (own := RX3) (Qc := zs_Qi G (wX3 G aSg Sg) rr) (by decide) rfl rfl (Nat.le_of_ble_eq_true rfl) ?_
  intro p e s m args below meth c C A hK hA S _ _ ls hl
  have hl : lv_has ls 3 [(0, .ref (aSg 0))] := hl
  have hx := C.1.1
  have hb := C.1.2.1
  unfold F_X3_latest at hF
  have j5 : ∀ (n5 : Nat) (x1 : Int32) (x2 : Int32) (H : Heap) (locs : List Loc) (ls : Array Slot), zs_S G A s.heap H locs (wX3 G aSg Sg) → lv_has ls 3 [(0, .ref (aSg 0)), (1, .int x1), (2, .int x2)] → F_X3_latest_5 Sg n5 x1 x2 = some rr → W p l e RMX3_latest s m args below meth c H locs 0 0 (MQ below (zs_Qi G (wX3 G aSg Sg) rr A) args s 0 0 A) (F0 m 5 ls []) := by
    intro n5
    induction n5 with
    | zero => intro x1 x2 H locs ls _ _ hF; rw [F_X3_latest_5_z] at hF; cases hF
    | succ n5 ih5 =>
      intro x1 x2 H locs ls S hl hF
      rw [F_X3_latest_5_n] at hF
      unfold F_X3_latest_5_s at hF
      refine lv_iload_n hx hb dX3_latest_5 rfl (lv_at hl 2 rfl) ?_
      refine lv_aload_n hx hb dX3_latest_6 rfl (lv_at hl 0 rfl) ?_
      refine zs_get C hK S 0 0 (Cn := RX3) (T := TX3) (N := 4) (ci := 3) rfl rfl (by decide) zn_X3_latest_X3 (List.mem_of_getElem? (i := 1) rfl) rfl dX3_latest_7 ?_
      refine lv_icmp_ge (tgt := 30) hx hb dX3_latest_10 (by decide) (fun c1 => ?_) (fun c1 => ?_)
      · have hF := zs_t hF c1
        refine lv_iload_n hx hb dX3_latest_30 rfl (lv_at hl 1 rfl) ?_
        have e2 := zs_s1 hF
        exact zs_iretE C S e2 rfl dX3_latest_31
      · have hF := zs_f hF c1
        refine lv_iload_n hx hb dX3_latest_13 rfl (lv_at hl 1 rfl) ?_
        refine lv_aload_n hx hb dX3_latest_14 rfl (lv_at hl 0 rfl) ?_
        refine zs_get C hK S 0 1 (Cn := RX3) (T := TX3) (N := 4) (ci := 3) rfl rfl (by decide) zn_X3_latest_X3 (List.mem_of_getElem? (i := 2) rfl) rfl dX3_latest_15 ?_
        refine lv_iload_n hx hb dX3_latest_18 rfl (lv_at hl 2 rfl) ?_
        obtain ⟨h3, hF⟩ := zs_ckS hF
        refine zs_iald C hK S 1 rfl h3 dX3_latest_19 ?_
        refine va_mmax hx hb (C.1.2.2.1.trans hl.1.symm) C.1.2.2.2.1 (C.1.2.2.2.2 _ (List.mem_of_getElem? (i := 3) rfl)) (C.1.2.2.2.2 _ (List.mem_of_getElem? (i := 4) rfl)) (C.1.2.2.2.2 _ (List.mem_of_getElem? (i := 5) rfl)) (C.1.2.2.2.2 _ (List.mem_of_getElem? (i := 6) rfl)) (Nat.le_of_ble_eq_true rfl) (Nat.le_of_ble_eq_true rfl) (Nat.le_of_ble_eq_true rfl) (Nat.le_of_ble_eq_true rfl) dX3_latest_20 ?_
        refine lv_topi (fun z4 e5 => ?_)
        have hF := zs_letS hF e5
        refine lv_istore_n (lv' := [(1, .int z4), (0, .ref (aSg 0)), (2, .int x2)]) hx hb dX3_latest_23 rfl hl (by decide) rfl (fun ls hl => ?_)
        obtain ⟨z6, e7⟩ : ∃ q : Int32, q = x2 + (1 : Int32) := ⟨_, rfl⟩
        have hF := zs_letS hF e7
        refine lv_iinc (v := z6) (lv' := [(2, .int z6), (1, .int z4), (0, .ref (aSg 0))]) hx hb dX3_latest_24 hl (k := 2) rfl (by rw [e7]; rfl) (by decide) rfl (fun ls hl => ?_)
        refine lv_goto (tgt := 5) hx hb dX3_latest_27 (by decide) ?_
        exact ih5 z4 z6 _ _ _ S (lv_sub hl [2, 1, 0] rfl) hF
  refine lv_bipush (v := (-9 : Int32)) hx hb dX3_latest_0 (by decide) ?_
  refine lv_istore_n (lv' := [(1, .int (-9 : Int32)), (0, .ref (aSg 0))]) hx hb dX3_latest_2 rfl hl (by decide) rfl (fun ls hl => ?_)
  refine lv_iconst (v := (0 : Int32)) hx hb dX3_latest_3 (by decide) ?_
  refine lv_istore_n (lv' := [(2, .int (0 : Int32)), (1, .int (-9 : Int32)), (0, .ref (aSg 0))]) hx hb dX3_latest_4 rfl hl (by decide) rfl (fun ls hl => ?_)
  exact j5 1000 (-9 : Int32) (0 : Int32) _ _ _ S (lv_sub hl [2, 1, 0] rfl) hF

abbrev RMX3_areSo : Room := { frames := 0, cells := 0, slots := 0, locals := 0 }
theorem zn_X3_areSo_X1 : ∀ w ∈ wsX10, w ∈ wsX3_areSo := zs_inl wsX10 [10, 11, 12, 13, 14, 15, 16, 17] (by decide +kernel)
theorem zn_X3_areSo_X3 : ∀ w ∈ wsX30, w ∈ wsX3_areSo := zs_inl wsX30 [6, 7, 8, 9] (by decide +kernel)
set_option maxRecDepth 100000 in
set_option maxHeartbeats 4000000 in
theorem c_X3_areSo (l : Launch) (G : GG) (aSg aPr : Ad) (Sg : Ob) (Pr : Ob) (u1 : Int32) (sz : Nat) (rr : Int32) (hF : F_X3_areSo Sg Pr u1 = some rr) : Met l yX3_areSo wsX3_areSo RMX3_areSo (va_Pc [.ref (aSg 0), .int u1, .ref (aPr 0)] (zs_pre G (wX3 G aSg Sg ++ wX1 G aPr Pr) sz)) (zs_Qi G (wX3 G aSg Sg ++ wX1 G aPr Pr) rr (va_A (wX3 G aSg Sg ++ wX1 G aPr Pr) sz)) 0 0 (va_A (wX3 G aSg Sg ++ wX1 G aPr Pr) sz) := by
  refine zs_met (cc := cX3_areSo) (maxL := 4) (ret := (some .boolean)) (own := RX3) (Qc := zs_Qi G (wX3 G aSg Sg ++ wX1 G aPr Pr) rr) (by decide) rfl rfl (Nat.le_of_ble_eq_true rfl) ?_
  intro p e s m args below meth c C A hK hA S _ _ ls hl
  have hl : lv_has ls 4 [(0, .ref (aSg 0)), (1, .int u1), (2, .ref (aPr 0))] := hl
  have hx := C.1.1
  have hb := C.1.2.1
  unfold F_X3_areSo at hF
  have j2 : ∀ (n2 : Nat) (x1 : Int32) (x3 : Int32) (H : Heap) (locs : List Loc) (ls : Array Slot), zs_S G A s.heap H locs (wX3 G aSg Sg ++ wX1 G aPr Pr) → lv_has ls 4 [(0, .ref (aSg 0)), (1, .int x1), (2, .ref (aPr 0)), (3, .int x3)] → F_X3_areSo_2 Sg Pr n2 x1 x3 = some rr → W p l e RMX3_areSo s m args below meth c H locs 0 0 (MQ below (zs_Qi G (wX3 G aSg Sg ++ wX1 G aPr Pr) rr A) args s 0 0 A) (F0 m 2 ls []) := by
    intro n2
    induction n2 with
    | zero => intro x1 x3 H locs ls _ _ hF; rw [F_X3_areSo_2_z] at hF; cases hF
    | succ n2 ih2 =>
      have j42 : ∀ (x1 : Int32) (x3 : Int32) (H : Heap) (locs : List Loc) (ls : Array Slot), zs_S G A s.heap H locs (wX3 G aSg Sg ++ wX1 G aPr Pr) → lv_has ls 4 [(0, .ref (aSg 0)), (1, .int x1), (2, .ref (aPr 0)), (3, .int x3)] → F_X3_areSo_42 Sg Pr (F_X3_areSo_2 Sg Pr n2) x1 x3 = some rr → W p l e RMX3_areSo s m args below meth c H locs 0 0 (MQ below (zs_Qi G (wX3 G aSg Sg ++ wX1 G aPr Pr) rr A) args s 0 0 A) (F0 m 42 ls []) := by
        intro x1 x3 H locs ls S hl hF
        unfold F_X3_areSo_42 at hF
        obtain ⟨z1, e2⟩ : ∃ q : Int32, q = x3 + (1 : Int32) := ⟨_, rfl⟩
        have hF := zs_letS hF e2
        refine lv_iinc (v := z1) (lv' := [(3, .int z1), (0, .ref (aSg 0)), (1, .int x1), (2, .ref (aPr 0))]) hx hb dX3_areSo_42 hl (k := 3) rfl (by rw [e2]; rfl) (by decide) rfl (fun ls hl => ?_)
        refine lv_goto (tgt := 2) hx hb dX3_areSo_45 (by decide) ?_
        exact ih2 x1 z1 _ _ _ S (lv_sub hl [1, 2, 3, 0] rfl) hF
      intro x1 x3 H locs ls S hl hF
      rw [F_X3_areSo_2_n] at hF
      unfold F_X3_areSo_2_s at hF
      refine lv_iload_n hx hb dX3_areSo_2 rfl (lv_at hl 3 rfl) ?_
      refine lv_aload_n hx hb dX3_areSo_3 rfl (lv_at hl 0 rfl) ?_
      refine zs_get C hK S 0 0 (Cn := RX3) (T := TX3) (N := 4) (ci := 3) rfl rfl (by decide) zn_X3_areSo_X3 (List.mem_of_getElem? (i := 1) rfl) rfl dX3_areSo_4 ?_
      refine lv_icmp_ge (tgt := 48) hx hb dX3_areSo_7 (by decide) (fun c3 => ?_) (fun c3 => ?_)
      · have hF := zs_t hF c3
        refine lv_iconst (v := (1 : Int32)) hx hb dX3_areSo_48 (by decide) ?_
        have e4 := zs_s1 hF
        exact zs_zretE C S rfl e4 rfl dX3_areSo_49
      · have hF := zs_f hF c3
        refine lv_aload_n hx hb dX3_areSo_10 rfl (lv_at hl 0 rfl) ?_
        refine zs_get C hK S 0 1 (Cn := RX3) (T := TX3) (N := 4) (ci := 3) rfl rfl (by decide) zn_X3_areSo_X3 (List.mem_of_getElem? (i := 2) rfl) rfl dX3_areSo_11 ?_
        refine lv_iload_n hx hb dX3_areSo_14 rfl (lv_at hl 3 rfl) ?_
        obtain ⟨h5, hF⟩ := zs_ckS hF
        refine zs_iald C hK S 1 rfl h5 dX3_areSo_15 ?_
        refine lv_iload_n hx hb dX3_areSo_16 rfl (lv_at hl 1 rfl) ?_
        refine lv_icmp_ne (tgt := 42) hx hb dX3_areSo_17 (by decide) (fun c6 => ?_) (fun c6 => ?_)
        · have hF := zs_f hF c6
          exact j42 x1 x3 _ _ _ S (lv_sub hl [0, 1, 2, 3] rfl) hF
        · have hF := zs_t hF c6
          refine lv_aload_n hx hb dX3_areSo_20 rfl (lv_at hl 2 rfl) ?_
          refine zs_get C hK S 4 5 (Cn := RX1) (T := TX1) (N := 8) (ci := 1) rfl rfl (by decide) zn_X3_areSo_X1 (List.mem_of_getElem? (i := 3) rfl) rfl dX3_areSo_21 ?_
          refine lv_aload_n hx hb dX3_areSo_24 rfl (lv_at hl 0 rfl) ?_
          refine zs_get C hK S 0 2 (Cn := RX3) (T := TX3) (N := 4) (ci := 3) rfl rfl (by decide) zn_X3_areSo_X3 (List.mem_of_getElem? (i := 4) rfl) rfl dX3_areSo_25 ?_
          refine lv_iload_n hx hb dX3_areSo_28 rfl (lv_at hl 3 rfl) ?_
          obtain ⟨h7, hF⟩ := zs_ckS hF
          refine zs_iald C hK S 2 rfl h7 dX3_areSo_29 ?_
          obtain ⟨h8, hF⟩ := zs_ckS hF
          refine zs_iald C hK S 5 rfl h8 dX3_areSo_30 ?_
          refine lv_aload_n hx hb dX3_areSo_31 rfl (lv_at hl 0 rfl) ?_
          refine zs_get C hK S 0 3 (Cn := RX3) (T := TX3) (N := 4) (ci := 3) rfl rfl (by decide) zn_X3_areSo_X3 (List.mem_of_getElem? (i := 5) rfl) rfl dX3_areSo_32 ?_
          refine lv_iload_n hx hb dX3_areSo_35 rfl (lv_at hl 3 rfl) ?_
          obtain ⟨h9, hF⟩ := zs_ckS hF
          refine zs_iald C hK S 3 rfl h9 dX3_areSo_36 ?_
          refine lv_icmp_eq (tgt := 42) hx hb dX3_areSo_37 (by decide) (fun c10 => ?_) (fun c10 => ?_)
          · have hF := zs_t hF c10
            exact j42 x1 x3 _ _ _ S (lv_sub hl [0, 1, 2, 3] rfl) hF
          · have hF := zs_f hF c10
            refine lv_iconst (v := (0 : Int32)) hx hb dX3_areSo_40 (by decide) ?_
            have e11 := zs_s1 hF
            exact zs_zretE C S rfl e11 rfl dX3_areSo_41
  refine lv_iconst (v := (0 : Int32)) hx hb dX3_areSo_0 (by decide) ?_
  refine lv_istore_n (lv' := [(3, .int (0 : Int32)), (0, .ref (aSg 0)), (1, .int u1), (2, .ref (aPr 0))]) hx hb dX3_areSo_1 rfl hl (by decide) rfl (fun ls hl => ?_)
  exact j2 1000 u1 (0 : Int32) _ _ _ S (lv_sub hl [1, 2, 3, 0] rfl) hF

abbrev RMX0_setOut : Room := { frames := 1, cells := 0, slots := 0, locals := 22 }
theorem zn_X0_setOut_X0 : ∀ w ∈ wsX00, w ∈ wsX0_setOut := zs_inl wsX00 [12, 13, 14] (by decide +kernel)
set_option maxRecDepth 100000 in
set_option maxHeartbeats 4000000 in
theorem c_X0_setOut (l : Launch) (G : GG) (aAh aTn aYi aPr : Ad) (Ah : Ob) (Tn : Ob) (Pr : Ob) (sz : Nat) (Tn_ : Ob) (hF : F_X0_setOut Ah Tn Pr = some Tn_) : Met l yX0_setOut wsX0_setOut RMX0_setOut (va_Pc [.ref (aAh 0), .ref (aPr 0)] (zs_pre G (wX0 G aAh aTn aYi Ah ++ wX1 G aTn Tn ++ wX1 G aPr Pr) sz)) (zs_Qv G (wX0 G aAh aTn aYi Ah ++ wX1 G aTn Tn_ ++ wX1 G aPr Pr) (va_A (wX0 G aAh aTn aYi Ah ++ wX1 G aTn Tn ++ wX1 G aPr Pr) sz)) 0 0 (va_A (wX0 G aAh aTn aYi Ah ++ wX1 G aTn Tn ++ wX1 G aPr Pr) sz) := by
  refine zs_met (cc := cX0_setOut) (maxL := 2) (ret := none) (own := RX0) (Qc := zs_Qv G (wX0 G aAh aTn aYi Ah ++ wX1 G aTn Tn_ ++ wX1 G aPr Pr)) (by decide) rfl rfl (Nat.le_of_ble_eq_true rfl) ?_
  intro p e s m args below meth c C A hK hA S _ _ ls hl
  have hl : lv_has ls 2 [(0, .ref (aAh 0)), (1, .ref (aPr 0))] := hl
  have hx := C.1.1
  have hb := C.1.2.1
  unfold F_X0_setOut at hF
  refine lv_aload_n hx hb dX0_setOut_0 rfl (lv_at hl 0 rfl) ?_
  refine zs_get C hK S 0 0 (Cn := RX0) (T := TX0) (N := 3) (ci := 0) rfl rfl (by decide) zn_X0_setOut_X0 (List.mem_of_getElem? (i := 1) rfl) rfl dX0_setOut_1 ?_
  refine lv_aload_n hx hb dX0_setOut_4 rfl (lv_at hl 1 rfl) ?_
  obtain ⟨Tnw1, f2, hF⟩ := zs_bdS hF
  refine zs_callv (wr := wX0 G aAh aTn aYi Ah) (ws' := wX0 G aAh aTn aYi Ah ++ wX1 G aTn Tnw1 ++ wX1 G aPr Pr) S hA [2, 3, 4, 5, 6, 7, 8, 9] [0, 1] [0, 1, 2, 3, 4, 5, 6, 7, 8, 9] (zs_runV C hK hA S [.ref (aPr 0)] [] [2, 3, 4, 5, 6, 7, 8, 9] 2 1 (c_X1_copy l G aTn aPr Tn Pr s.heap.size Tnw1 f2) gX0_setOut_X1_copy rfl rfl rfl zd_X1_copy ⟨Nat.le_of_ble_eq_true rfl, Nat.le_of_ble_eq_true rfl⟩ rfl rfl rfl rfl rfl hl rfl (Nat.le_of_ble_eq_true rfl) dX0_setOut_5 ⟨Nat.le_of_ble_eq_true rfl, Nat.le_of_ble_eq_true rfl⟩) rfl rfl rfl (by decide) rfl rfl (fun H locs S => ?_)
  have e3 := zs_s1 hF
  exact zs_vretE C S (by rw [e3]) dX0_setOut_8

theorem zd_X1_goBy : yX1_goBy.cls = RX1 ∧ yX1_goBy.cls ≠ "java/lang/invoke/MethodHandle" ∧ yX1_goBy.cls ≠ "java/lang/invoke/VarHandle" ∧ (parseMethodDescriptor yX1_goBy.desc).map (fun d => d.parameters.length) = some 1 := by decide +kernel
abbrev RMX0_goOn : Room := { frames := 3, cells := 0, slots := 0, locals := 71 }
theorem zn_X0_goOn_X0 : ∀ w ∈ wsX00, w ∈ wsX0_goOn := zs_inl wsX00 [26, 27, 28] (by decide +kernel)
set_option maxRecDepth 100000 in
set_option maxHeartbeats 4000000 in
theorem c_X0_goOn (l : Launch) (G : GG) (aAh aTn aYi aYd : Ad) (Ah : Ob) (Tn : Ob) (Yd : Ob) (u2 : Int32) (sz : Nat) (Tn_ : Ob) (hF : F_X0_goOn Ah Tn Yd u2 = some Tn_) : Met l yX0_goOn wsX0_goOn RMX0_goOn (va_Pc [.ref (aAh 0), .ref (aYd 0), .int u2] (zs_pre G (wX0 G aAh aTn aYi Ah ++ wX1 G aTn Tn ++ wX6 G aYd Yd) sz)) (zs_Qv G (wX0 G aAh aTn aYi Ah ++ wX1 G aTn Tn_ ++ wX6 G aYd Yd) (va_A (wX0 G aAh aTn aYi Ah ++ wX1 G aTn Tn ++ wX6 G aYd Yd) sz)) 0 0 (va_A (wX0 G aAh aTn aYi Ah ++ wX1 G aTn Tn ++ wX6 G aYd Yd) sz) := by
  refine zs_met (cc := cX0_goOn) (maxL := 4) (ret := none) (own := RX0) (Qc := zs_Qv G (wX0 G aAh aTn aYi Ah ++ wX1 G aTn Tn_ ++ wX6 G aYd Yd)) (by decide) rfl rfl (Nat.le_of_ble_eq_true rfl) ?_
  intro p e s m args below meth c C A hK hA S _ _ ls hl
  have hl : lv_has ls 4 [(0, .ref (aAh 0)), (1, .ref (aYd 0)), (2, .int u2)] := hl
  have hx := C.1.1
  have hb := C.1.2.1
  unfold F_X0_goOn at hF
  have j2 : ∀ (n2 : Nat) (Tn : Ob) (x2 : Int32) (x3 : Int32) (H : Heap) (locs : List Loc) (ls : Array Slot), zs_S G A s.heap H locs (wX0 G aAh aTn aYi Ah ++ wX1 G aTn Tn ++ wX6 G aYd Yd) → lv_has ls 4 [(0, .ref (aAh 0)), (1, .ref (aYd 0)), (2, .int x2), (3, .int x3)] → F_X0_goOn_2 Ah Yd n2 Tn x2 x3 = some Tn_ → W p l e RMX0_goOn s m args below meth c H locs 0 0 (MQ below (zs_Qv G (wX0 G aAh aTn aYi Ah ++ wX1 G aTn Tn_ ++ wX6 G aYd Yd) A) args s 0 0 A) (F0 m 2 ls []) := by
    intro n2
    induction n2 with
    | zero => intro Tn x2 x3 H locs ls _ _ hF; rw [F_X0_goOn_2_z] at hF; cases hF
    | succ n2 ih2 =>
      intro Tn x2 x3 H locs ls S hl hF
      rw [F_X0_goOn_2_n] at hF
      unfold F_X0_goOn_2_s at hF
      refine lv_iload_n hx hb dX0_goOn_2 rfl (lv_at hl 3 rfl) ?_
      refine lv_iload_n hx hb dX0_goOn_3 rfl (lv_at hl 2 rfl) ?_
      refine lv_icmp_ge (tgt := 22) hx hb dX0_goOn_4 (by decide) (fun c1 => ?_) (fun c1 => ?_)
      · have hF := zs_t hF c1
        have e2 := zs_s1 hF
        exact zs_vretE C S (by rw [e2]) dX0_goOn_22
      · have hF := zs_f hF c1
        refine lv_aload_n hx hb dX0_goOn_7 rfl (lv_at hl 0 rfl) ?_
        refine zs_get C hK S 0 0 (Cn := RX0) (T := TX0) (N := 3) (ci := 0) rfl rfl (by decide) zn_X0_goOn_X0 (List.mem_of_getElem? (i := 1) rfl) rfl dX0_goOn_8 ?_
        refine lv_aload_n hx hb dX0_goOn_11 rfl (lv_at hl 1 rfl) ?_
        obtain ⟨r3, Tnw4, f5, hF⟩ := zs_b2S hF
        refine zs_calli (wr := wX0 G aAh aTn aYi Ah) (ws' := wX0 G aAh aTn aYi Ah ++ wX1 G aTn Tnw4 ++ wX6 G aYd Yd) S hA [2, 3, 4, 5, 6, 7, 8, 9, 10, 11, 12, 13] [0, 1] [0, 1, 2, 3, 4, 5, 6, 7, 8, 9, 10, 11, 12, 13] (zs_runV C hK hA S [.ref (aYd 0)] [] [2, 3, 4, 5, 6, 7, 8, 9, 10, 11, 12, 13] 2 1 (c_X1_goBy l G aTn aYd Tn Yd H.size r3 Tnw4 f5) gX0_goOn_X1_goBy rfl rfl rfl zd_X1_goBy ⟨Nat.le_of_ble_eq_true rfl, Nat.le_of_ble_eq_true rfl⟩ rfl rfl rfl rfl rfl hl rfl (Nat.le_of_ble_eq_true rfl) dX0_goOn_12 ⟨Nat.le_of_ble_eq_true rfl, Nat.le_of_ble_eq_true rfl⟩) rfl rfl rfl (by decide) rfl rfl (fun H locs S => ?_)
        refine lv_pop hx hb dX0_goOn_15 rfl ?_
        obtain ⟨z6, e7⟩ : ∃ q : Int32, q = x3 + (1 : Int32) := ⟨_, rfl⟩
        have hF := zs_letS hF e7
        refine lv_iinc (v := z6) (lv' := [(3, .int z6), (0, .ref (aAh 0)), (1, .ref (aYd 0)), (2, .int x2)]) hx hb dX0_goOn_16 hl (k := 3) rfl (by rw [e7]; rfl) (by decide) rfl (fun ls hl => ?_)
        refine lv_goto (tgt := 2) hx hb dX0_goOn_19 (by decide) ?_
        exact ih2 Tnw4 x2 z6 _ _ _ S (lv_sub hl [1, 2, 3, 0] rfl) hF
  refine lv_iconst (v := (0 : Int32)) hx hb dX0_goOn_0 (by decide) ?_
  refine lv_istore_n (lv' := [(3, .int (0 : Int32)), (0, .ref (aAh 0)), (1, .ref (aYd 0)), (2, .int u2)]) hx hb dX0_goOn_1 rfl hl (by decide) rfl (fun ls hl => ?_)
  exact j2 1000 Tn u2 (0 : Int32) _ _ _ S (lv_sub hl [1, 2, 3, 0] rfl) hF

abbrev RMX0_isAsInRow : Room := { frames := 0, cells := 0, slots := 0, locals := 0 }
theorem zn_X0_isAsInRow_X0 : ∀ w ∈ wsX00, w ∈ wsX0_isAsInRow := zs_inl wsX00 [4, 5, 6] (by decide +kernel)
theorem zn_X0_isAsInRow_X1 : ∀ w ∈ wsX10, w ∈ wsX0_isAsInRow := zs_inl wsX10 [7, 8, 9, 10, 11, 12, 13, 14] (by decide +kernel)
set_option maxRecDepth 100000 in
set_option maxHeartbeats 4000000 in
theorem c_X0_isAsInRow (l : Launch) (G : GG) (aAh aTn aYi : Ad) (Ah : Ob) (Tn : Ob) (u1 : Int32) (u2 : Int32) (sz : Nat) (rr : Int32) (hF : F_X0_isAsInRow Ah Tn u1 u2 = some rr) : Met l yX0_isAsInRow wsX0_isAsInRow RMX0_isAsInRow (va_Pc [.ref (aAh 0), .int u1, .int u2] (zs_pre G (wX0 G aAh aTn aYi Ah ++ wX1 G aTn Tn) sz)) (zs_Qi G (wX0 G aAh aTn aYi Ah ++ wX1 G aTn Tn) rr (va_A (wX0 G aAh aTn aYi Ah ++ wX1 G aTn Tn) sz)) 0 0 (va_A (wX0 G aAh aTn aYi Ah ++ wX1 G aTn Tn) sz) := by
  refine zs_met (cc := cX0_isAsInRow) (maxL := 4) (ret := (some .boolean)) (own := RX0) (Qc := zs_Qi G (wX0 G aAh aTn aYi Ah ++ wX1 G aTn Tn) rr) (by decide) rfl rfl (Nat.le_of_ble_eq_true rfl) ?_
  intro p e s m args below meth c C A hK hA S _ _ ls hl
  have hl : lv_has ls 4 [(0, .ref (aAh 0)), (1, .int u1), (2, .int u2)] := hl
  have hx := C.1.1
  have hb := C.1.2.1
  unfold F_X0_isAsInRow at hF
  have j2 : ∀ (n2 : Nat) (x1 : Int32) (x2 : Int32) (x3 : Int32) (H : Heap) (locs : List Loc) (ls : Array Slot), zs_S G A s.heap H locs (wX0 G aAh aTn aYi Ah ++ wX1 G aTn Tn) → lv_has ls 4 [(0, .ref (aAh 0)), (1, .int x1), (2, .int x2), (3, .int x3)] → F_X0_isAsInRow_2 Ah Tn n2 x1 x2 x3 = some rr → W p l e RMX0_isAsInRow s m args below meth c H locs 0 0 (MQ below (zs_Qi G (wX0 G aAh aTn aYi Ah ++ wX1 G aTn Tn) rr A) args s 0 0 A) (F0 m 2 ls []) := by
    intro n2
    induction n2 with
    | zero => intro x1 x2 x3 H locs ls _ _ hF; rw [F_X0_isAsInRow_2_z] at hF; cases hF
    | succ n2 ih2 =>
      intro x1 x2 x3 H locs ls S hl hF
      rw [F_X0_isAsInRow_2_n] at hF
      unfold F_X0_isAsInRow_2_s at hF
      refine lv_iload_n hx hb dX0_isAsInRow_2 rfl (lv_at hl 3 rfl) ?_
      refine lv_iload_n hx hb dX0_isAsInRow_3 rfl (lv_at hl 2 rfl) ?_
      refine lv_icmp_ge (tgt := 35) hx hb dX0_isAsInRow_4 (by decide) (fun c1 => ?_) (fun c1 => ?_)
      · have hF := zs_t hF c1
        refine lv_iconst (v := (1 : Int32)) hx hb dX0_isAsInRow_35 (by decide) ?_
        have e2 := zs_s1 hF
        exact zs_zretE C S rfl e2 rfl dX0_isAsInRow_36
      · have hF := zs_f hF c1
        refine lv_aload_n hx hb dX0_isAsInRow_7 rfl (lv_at hl 0 rfl) ?_
        refine zs_get C hK S 0 2 (Cn := RX0) (T := TX0) (N := 3) (ci := 0) rfl rfl (by decide) zn_X0_isAsInRow_X0 (List.mem_of_getElem? (i := 1) rfl) rfl dX0_isAsInRow_8 ?_
        refine lv_iload_n hx hb dX0_isAsInRow_11 rfl (lv_at hl 1 rfl) ?_
        refine lv_iload_n hx hb dX0_isAsInRow_12 rfl (lv_at hl 3 rfl) ?_
        refine lv_iadd hx hb dX0_isAsInRow_13 ?_
        obtain ⟨h3, hF⟩ := zs_ckS hF
        refine zs_iald C hK S 1 rfl h3 dX0_isAsInRow_14 ?_
        refine lv_aload_n hx hb dX0_isAsInRow_15 rfl (lv_at hl 0 rfl) ?_
        refine zs_get C hK S 0 0 (Cn := RX0) (T := TX0) (N := 3) (ci := 0) rfl rfl (by decide) zn_X0_isAsInRow_X0 (List.mem_of_getElem? (i := 2) rfl) rfl dX0_isAsInRow_16 ?_
        refine zs_get C hK S 2 5 (Cn := RX1) (T := TX1) (N := 8) (ci := 1) rfl rfl (by decide) zn_X0_isAsInRow_X1 (List.mem_of_getElem? (i := 3) rfl) rfl dX0_isAsInRow_19 ?_
        refine lv_iload_n hx hb dX0_isAsInRow_22 rfl (lv_at hl 3 rfl) ?_
        obtain ⟨h4, hF⟩ := zs_ckS hF
        refine zs_iald C hK S 3 rfl h4 dX0_isAsInRow_23 ?_
        refine lv_icmp_eq (tgt := 29) hx hb dX0_isAsInRow_24 (by decide) (fun c5 => ?_) (fun c5 => ?_)
        · have hF := zs_t hF c5
          obtain ⟨z6, e7⟩ : ∃ q : Int32, q = x3 + (1 : Int32) := ⟨_, rfl⟩
          have hF := zs_letS hF e7
          refine lv_iinc (v := z6) (lv' := [(3, .int z6), (0, .ref (aAh 0)), (1, .int x1), (2, .int x2)]) hx hb dX0_isAsInRow_29 hl (k := 3) rfl (by rw [e7]; rfl) (by decide) rfl (fun ls hl => ?_)
          refine lv_goto (tgt := 2) hx hb dX0_isAsInRow_32 (by decide) ?_
          exact ih2 x1 x2 z6 _ _ _ S (lv_sub hl [1, 2, 3, 0] rfl) hF
        · have hF := zs_f hF c5
          refine lv_iconst (v := (0 : Int32)) hx hb dX0_isAsInRow_27 (by decide) ?_
          have e8 := zs_s1 hF
          exact zs_zretE C S rfl e8 rfl dX0_isAsInRow_28
  refine lv_iconst (v := (0 : Int32)) hx hb dX0_isAsInRow_0 (by decide) ?_
  refine lv_istore_n (lv' := [(3, .int (0 : Int32)), (0, .ref (aAh 0)), (1, .int u1), (2, .int u2)]) hx hb dX0_isAsInRow_1 rfl hl (by decide) rfl (fun ls hl => ?_)
  exact j2 1000 u1 u2 (0 : Int32) _ _ _ S (lv_sub hl [1, 2, 3, 0] rfl) hF

theorem zd_X0_isAsInRow : yX0_isAsInRow.cls = RX0 ∧ yX0_isAsInRow.cls ≠ "java/lang/invoke/MethodHandle" ∧ yX0_isAsInRow.cls ≠ "java/lang/invoke/VarHandle" ∧ (parseMethodDescriptor yX0_isAsInRow.desc).map (fun d => d.parameters.length) = some 2 := by decide +kernel
abbrev RMX0_hoursToRest : Room := { frames := 3, cells := 0, slots := 0, locals := 71 }
theorem zn_X0_hoursToRest_X0 : ∀ w ∈ wsX00, w ∈ wsX0_hoursToRest := zs_inl wsX00 [43, 44, 45] (by decide +kernel)
theorem zn_X0_hoursToRest_X1 : ∀ w ∈ wsX10, w ∈ wsX0_hoursToRest := zs_inl wsX10 [46, 47, 48, 49, 50, 51, 52, 53] (by decide +kernel)
theorem zn_X0_hoursToRest_X6 : ∀ w ∈ wsX60, w ∈ wsX0_hoursToRest := zs_inl wsX60 [34, 35, 36, 37, 38, 39, 40, 41, 42] (by decide +kernel)
set_option maxRecDepth 100000 in
set_option maxHeartbeats 4000000 in
theorem c_X0_hoursToRest (l : Launch) (G : GG) (aAh aTn aYi aYd : Ad) (Ah : Ob) (Tn : Ob) (Yd : Ob) (sz : Nat) (rr : Int32) (Ah_ : Ob) (Tn_ : Ob) (hF : F_X0_hoursToRest Ah Tn Yd = some (rr, (Ah_, Tn_))) : Met l yX0_hoursToRest wsX0_hoursToRest RMX0_hoursToRest (va_Pc [.ref (aAh 0), .ref (aYd 0)] (zs_pre G (wX0 G aAh aTn aYi Ah ++ wX1 G aTn Tn ++ wX6 G aYd Yd) sz)) (zs_Qi G (wX0 G aAh aTn aYi Ah_ ++ wX1 G aTn Tn_ ++ wX6 G aYd Yd) rr (va_A (wX0 G aAh aTn aYi Ah ++ wX1 G aTn Tn ++ wX6 G aYd Yd) sz)) 0 0 (va_A (wX0 G aAh aTn aYi Ah ++ wX1 G aTn Tn ++ wX6 G aYd Yd) sz) := by
  refine zs_met (cc := cX0_hoursToRest) (maxL := 5) (ret := (some .int)) (own := RX0) (Qc := zs_Qi G (wX0 G aAh aTn aYi Ah_ ++ wX1 G aTn Tn_ ++ wX6 G aYd Yd) rr) (by decide) rfl rfl (Nat.le_of_ble_eq_true rfl) ?_
  intro p e s m args below meth c C A hK hA S _ _ ls hl
  have hl : lv_has ls 5 [(0, .ref (aAh 0)), (1, .ref (aYd 0))] := hl
  have hx := C.1.1
  have hb := C.1.2.1
  unfold F_X0_hoursToRest at hF
  have j35 : ∀ (Ah : Ob) (Tn : Ob) (x2 : Int32) (H : Heap) (locs : List Loc) (ls : Array Slot), zs_S G A s.heap H locs (wX0 G aAh aTn aYi Ah ++ wX1 G aTn Tn ++ wX6 G aYd Yd) → lv_has ls 5 [(2, .int x2)] → F_X0_hoursToRest_35 Yd Ah Tn x2 = some (rr, (Ah_, Tn_)) → W p l e RMX0_hoursToRest s m args below meth c H locs 0 0 (MQ below (zs_Qi G (wX0 G aAh aTn aYi Ah_ ++ wX1 G aTn Tn_ ++ wX6 G aYd Yd) rr A) args s 0 0 A) (F0 m 35 ls []) := by
    intro Ah Tn x2 H locs ls S hl hF
    unfold F_X0_hoursToRest_35 at hF
    refine lv_iload_n hx hb dX0_hoursToRest_35 rfl (lv_at hl 0 rfl) ?_
    refine lv_bipush (v := (8 : Int32)) hx hb dX0_hoursToRest_36 (by decide) ?_
    refine lv_isub hx hb dX0_hoursToRest_38 ?_
    obtain ⟨e1, e2, e3⟩ := zs_s3 hF
    exact zs_iretE C S e1 (by rw [e2, e3]) dX0_hoursToRest_39
  have j2 : ∀ (n2 : Nat) (Ah : Ob) (Tn : Ob) (x2 : Int32) (H : Heap) (locs : List Loc) (ls : Array Slot), zs_S G A s.heap H locs (wX0 G aAh aTn aYi Ah ++ wX1 G aTn Tn ++ wX6 G aYd Yd) → lv_has ls 5 [(0, .ref (aAh 0)), (1, .ref (aYd 0)), (2, .int x2)] → F_X0_hoursToRest_2 Yd n2 Ah Tn x2 = some (rr, (Ah_, Tn_)) → W p l e RMX0_hoursToRest s m args below meth c H locs 0 0 (MQ below (zs_Qi G (wX0 G aAh aTn aYi Ah_ ++ wX1 G aTn Tn_ ++ wX6 G aYd Yd) rr A) args s 0 0 A) (F0 m 2 ls []) := by
    intro n2
    induction n2 with
    | zero => intro Ah Tn x2 H locs ls _ _ hF; rw [F_X0_hoursToRest_2_z] at hF; cases hF
    | succ n2 ih2 =>
      have j77 : ∀ (Ah : Ob) (Tn : Ob) (x2 : Int32) (H : Heap) (locs : List Loc) (ls : Array Slot), zs_S G A s.heap H locs (wX0 G aAh aTn aYi Ah ++ wX1 G aTn Tn ++ wX6 G aYd Yd) → lv_has ls 5 [(0, .ref (aAh 0)), (1, .ref (aYd 0)), (2, .int x2)] → F_X0_hoursToRest_77 Yd (F_X0_hoursToRest_2 Yd n2) Ah Tn x2 = some (rr, (Ah_, Tn_)) → W p l e RMX0_hoursToRest s m args below meth c H locs 0 0 (MQ below (zs_Qi G (wX0 G aAh aTn aYi Ah_ ++ wX1 G aTn Tn_ ++ wX6 G aYd Yd) rr A) args s 0 0 A) (F0 m 77 ls []) := by
        intro Ah Tn x2 H locs ls S hl hF
        unfold F_X0_hoursToRest_77 at hF
        refine lv_aload_n hx hb dX0_hoursToRest_77 rfl (lv_at hl 0 rfl) ?_
        refine zs_get C hK S 0 0 (Cn := RX0) (T := TX0) (N := 3) (ci := 0) rfl rfl (by decide) zn_X0_hoursToRest_X0 (List.mem_of_getElem? (i := 3) rfl) rfl dX0_hoursToRest_78 ?_
        refine lv_aload_n hx hb dX0_hoursToRest_81 rfl (lv_at hl 1 rfl) ?_
        obtain ⟨r4, Tnw5, f6, hF⟩ := zs_b2S hF
        refine zs_calli (wr := wX0 G aAh aTn aYi Ah) (ws' := wX0 G aAh aTn aYi Ah ++ wX1 G aTn Tnw5 ++ wX6 G aYd Yd) S hA [2, 3, 4, 5, 6, 7, 8, 9, 10, 11, 12, 13] [0, 1] [0, 1, 2, 3, 4, 5, 6, 7, 8, 9, 10, 11, 12, 13] (zs_runV C hK hA S [.ref (aYd 0)] [] [2, 3, 4, 5, 6, 7, 8, 9, 10, 11, 12, 13] 2 1 (c_X1_goBy l G aTn aYd Tn Yd H.size r4 Tnw5 f6) gX0_hoursToRest_X1_goBy rfl rfl rfl zd_X1_goBy ⟨Nat.le_of_ble_eq_true rfl, Nat.le_of_ble_eq_true rfl⟩ rfl rfl rfl rfl rfl hl rfl (Nat.le_of_ble_eq_true rfl) dX0_hoursToRest_82 ⟨Nat.le_of_ble_eq_true rfl, Nat.le_of_ble_eq_true rfl⟩) rfl rfl rfl (by decide) rfl rfl (fun H locs S => ?_)
        refine lv_pop hx hb dX0_hoursToRest_85 rfl ?_
        obtain ⟨z7, e8⟩ : ∃ q : Int32, q = x2 + (1 : Int32) := ⟨_, rfl⟩
        have hF := zs_letS hF e8
        refine lv_iinc (v := z7) (lv' := [(2, .int z7), (0, .ref (aAh 0)), (1, .ref (aYd 0))]) hx hb dX0_hoursToRest_86 hl (k := 2) rfl (by rw [e8]; rfl) (by decide) rfl (fun ls hl => ?_)
        refine lv_goto (tgt := 2) hx hb dX0_hoursToRest_89 (by decide) ?_
        exact ih2 Ah Tnw5 z7 _ _ _ S (lv_sub hl [1, 2, 0] rfl) hF
      have j43 : ∀ (n43 : Nat) (Ah : Ob) (Tn : Ob) (x2 : Int32) (x3 : Int32) (x4 : Int32) (H : Heap) (locs : List Loc) (ls : Array Slot), zs_S G A s.heap H locs (wX0 G aAh aTn aYi Ah ++ wX1 G aTn Tn ++ wX6 G aYd Yd) → lv_has ls 5 [(0, .ref (aAh 0)), (1, .ref (aYd 0)), (2, .int x2), (3, .int x3), (4, .int x4)] → F_X0_hoursToRest_43 Yd (F_X0_hoursToRest_2 Yd n2) n43 Ah Tn x2 x3 x4 = some (rr, (Ah_, Tn_)) → W p l e RMX0_hoursToRest s m args below meth c H locs 0 0 (MQ below (zs_Qi G (wX0 G aAh aTn aYi Ah_ ++ wX1 G aTn Tn_ ++ wX6 G aYd Yd) rr A) args s 0 0 A) (F0 m 43 ls []) := by
        intro n43
        induction n43 with
        | zero => intro Ah Tn x2 x3 x4 H locs ls _ _ hF; rw [F_X0_hoursToRest_43_z] at hF; cases hF
        | succ n43 ih43 =>
          intro Ah Tn x2 x3 x4 H locs ls S hl hF
          rw [F_X0_hoursToRest_43_n] at hF
          unfold F_X0_hoursToRest_43_s at hF
          refine lv_iload hx hb dX0_hoursToRest_43 (lv_at hl 4 rfl) ?_
          refine lv_aload_n hx hb dX0_hoursToRest_45 rfl (lv_at hl 1 rfl) ?_
          refine zs_get C hK S 6 0 (Cn := RX6) (T := TX6) (N := 9) (ci := 6) rfl rfl (by decide) zn_X0_hoursToRest_X6 (List.mem_of_getElem? (i := 1) rfl) rfl dX0_hoursToRest_46 ?_
          refine lv_icmp_ge (tgt := 77) hx hb dX0_hoursToRest_49 (by decide) (fun c9 => ?_) (fun c9 => ?_)
          · have hF := zs_t hF c9
            exact j77 Ah Tn x2 _ _ _ S (lv_sub hl [0, 1, 2] rfl) hF
          · have hF := zs_f hF c9
            refine lv_aload_n hx hb dX0_hoursToRest_52 rfl (lv_at hl 0 rfl) ?_
            refine zs_get C hK S 0 2 (Cn := RX0) (T := TX0) (N := 3) (ci := 0) rfl rfl (by decide) zn_X0_hoursToRest_X0 (List.mem_of_getElem? (i := 2) rfl) rfl dX0_hoursToRest_53 ?_
            refine lv_iload_n hx hb dX0_hoursToRest_56 rfl (lv_at hl 3 rfl) ?_
            refine lv_iload hx hb dX0_hoursToRest_57 (lv_at hl 4 rfl) ?_
            refine lv_iadd hx hb dX0_hoursToRest_59 ?_
            refine lv_aload_n hx hb dX0_hoursToRest_60 rfl (lv_at hl 0 rfl) ?_
            refine zs_get C hK S 0 0 (Cn := RX0) (T := TX0) (N := 3) (ci := 0) rfl rfl (by decide) zn_X0_hoursToRest_X0 (List.mem_of_getElem? (i := 3) rfl) rfl dX0_hoursToRest_61 ?_
            refine zs_get C hK S 2 5 (Cn := RX1) (T := TX1) (N := 8) (ci := 1) rfl rfl (by decide) zn_X0_hoursToRest_X1 (List.mem_of_getElem? (i := 4) rfl) rfl dX0_hoursToRest_64 ?_
            refine lv_iload hx hb dX0_hoursToRest_67 (lv_at hl 4 rfl) ?_
            obtain ⟨h10, hF⟩ := zs_ckS hF
            refine zs_iald C hK S 3 rfl h10 dX0_hoursToRest_69 ?_
            obtain ⟨h11, hF⟩ := zs_ckS hF
            obtain ⟨Ahw12, e13⟩ : ∃ q : Ob, q = zs_up Ah 1 ((x3 + x4)).toNatClampNeg (Tn 1 (x4).toNatClampNeg) := ⟨_, rfl⟩
            have hF := zs_letS hF e13
            refine zs_iast C hK S 1 (ws' := wX0 G aAh aTn aYi Ahw12 ++ wX1 G aTn Tn ++ wX6 G aYd Yd) rfl h11 (by rw [e13]; rfl) dX0_hoursToRest_70 (fun H locs S => ?_)
            obtain ⟨z14, e15⟩ : ∃ q : Int32, q = x4 + (1 : Int32) := ⟨_, rfl⟩
            have hF := zs_letS hF e15
            refine lv_iinc (v := z14) (lv' := [(4, .int z14), (0, .ref (aAh 0)), (1, .ref (aYd 0)), (2, .int x2), (3, .int x3)]) hx hb dX0_hoursToRest_71 hl (k := 4) rfl (by rw [e15]; rfl) (by decide) rfl (fun ls hl => ?_)
            refine lv_goto (tgt := 43) hx hb dX0_hoursToRest_74 (by decide) ?_
            exact ih43 Ahw12 Tn x2 x3 z14 _ _ _ S (lv_sub hl [1, 2, 3, 4, 0] rfl) hF
      have j40 : ∀ (Ah : Ob) (Tn : Ob) (x2 : Int32) (x3 : Int32) (H : Heap) (locs : List Loc) (ls : Array Slot), zs_S G A s.heap H locs (wX0 G aAh aTn aYi Ah ++ wX1 G aTn Tn ++ wX6 G aYd Yd) → lv_has ls 5 [(0, .ref (aAh 0)), (1, .ref (aYd 0)), (2, .int x2), (3, .int x3)] → F_X0_hoursToRest_40 Yd (F_X0_hoursToRest_2 Yd n2) Ah Tn x2 x3 = some (rr, (Ah_, Tn_)) → W p l e RMX0_hoursToRest s m args below meth c H locs 0 0 (MQ below (zs_Qi G (wX0 G aAh aTn aYi Ah_ ++ wX1 G aTn Tn_ ++ wX6 G aYd Yd) rr A) args s 0 0 A) (F0 m 40 ls []) := by
        intro Ah Tn x2 x3 H locs ls S hl hF
        unfold F_X0_hoursToRest_40 at hF
        refine lv_iconst (v := (0 : Int32)) hx hb dX0_hoursToRest_40 (by decide) ?_
        refine lv_istore (lv' := [(4, .int (0 : Int32)), (0, .ref (aAh 0)), (1, .ref (aYd 0)), (2, .int x2), (3, .int x3)]) hx hb dX0_hoursToRest_41 hl (by decide) rfl (fun ls hl => ?_)
        exact j43 1000 Ah Tn x2 x3 (0 : Int32) _ _ _ S (lv_sub hl [1, 2, 3, 4, 0] rfl) hF
      intro Ah Tn x2 H locs ls S hl hF
      rw [F_X0_hoursToRest_2_n] at hF
      unfold F_X0_hoursToRest_2_s at hF
      refine lv_iload_n hx hb dX0_hoursToRest_2 rfl (lv_at hl 2 rfl) ?_
      refine lv_sipush (v := (208 : Int32)) hx hb dX0_hoursToRest_3 (by decide) ?_
      refine lv_icmp_gt (tgt := 92) hx hb dX0_hoursToRest_6 (by decide) (fun c16 => ?_) (fun c16 => ?_)
      · have hF := zs_t hF c16
        refine lv_bipush (v := (-9 : Int32)) hx hb dX0_hoursToRest_92 (by decide) ?_
        obtain ⟨e17, e18, e19⟩ := zs_s3 hF
        exact zs_iretE C S e17 (by rw [e18, e19]) dX0_hoursToRest_94
      · have hF := zs_f hF c16
        refine lv_iload_n hx hb dX0_hoursToRest_9 rfl (lv_at hl 2 rfl) ?_
        refine lv_bipush (v := (8 : Int32)) hx hb dX0_hoursToRest_10 (by decide) ?_
        refine lv_irem hx hb dX0_hoursToRest_12 (by decide) ?_
        refine lv_bipush (v := (6 : Int32)) hx hb dX0_hoursToRest_13 (by decide) ?_
        refine lv_imul hx hb dX0_hoursToRest_15 ?_
        refine lv_topi (fun z20 e21 => ?_)
        have hF := zs_letS hF e21
        refine lv_istore_n (lv' := [(3, .int z20), (0, .ref (aAh 0)), (1, .ref (aYd 0)), (2, .int x2)]) hx hb dX0_hoursToRest_16 rfl hl (by decide) rfl (fun ls hl => ?_)
        refine lv_iload_n hx hb dX0_hoursToRest_17 rfl (lv_at hl 3 rfl) ?_
        refine lv_bipush (v := (8 : Int32)) hx hb dX0_hoursToRest_18 (by decide) ?_
        refine lv_icmp_lt (tgt := 40) hx hb dX0_hoursToRest_20 (by decide) (fun c22 => ?_) (fun c22 => ?_)
        · have hF := zs_t hF c22
          exact j40 Ah Tn x2 z20 _ _ _ S (lv_sub hl [1, 2, 3, 0] rfl) hF
        · have hF := zs_f hF c22
          refine lv_aload_n hx hb dX0_hoursToRest_23 rfl (lv_at hl 1 rfl) ?_
          refine lv_iload_n hx hb dX0_hoursToRest_24 rfl (lv_at hl 0 rfl) ?_
          refine lv_aload_n hx hb dX0_hoursToRest_25 rfl (lv_at hl 2 rfl) ?_
          refine zs_get C hK S 6 0 (Cn := RX6) (T := TX6) (N := 9) (ci := 6) rfl rfl (by decide) zn_X0_hoursToRest_X6 (List.mem_of_getElem? (i := 1) rfl) rfl dX0_hoursToRest_26 ?_
          obtain ⟨r23, f24, hF⟩ := zs_bdS hF
          refine zs_calli (wr := wX6 G aYd Yd) (ws' := wX0 G aAh aTn aYi Ah ++ wX1 G aTn Tn ++ wX6 G aYd Yd) S hA [0, 1, 2, 3, 4, 5] [6, 7, 8, 9, 10, 11, 12, 13] [8, 9, 10, 11, 12, 13, 0, 1, 2, 3, 4, 5, 6, 7] (zs_runV C hK hA S [.int z20, .int (Yd 0 0)] [] [0, 1, 2, 3, 4, 5] 0 2 (c_X0_isAsInRow l G aAh aTn aYi Ah Tn z20 ((Yd 0 0)) H.size r23 f24) gX0_hoursToRest_X0_isAsInRow rfl rfl rfl zd_X0_isAsInRow ⟨Nat.le_of_ble_eq_true rfl, Nat.le_of_ble_eq_true rfl⟩ rfl rfl rfl rfl rfl hl rfl (Nat.le_of_ble_eq_true rfl) dX0_hoursToRest_29 ⟨Nat.le_of_ble_eq_true rfl, Nat.le_of_ble_eq_true rfl⟩) rfl rfl rfl (by decide) rfl rfl (fun H locs S => ?_)
          refine lv_if_eq (tgt := 40) hx hb dX0_hoursToRest_32 (by decide) (fun c25 => ?_) (fun c25 => ?_)
          · have hF := zs_t hF c25
            exact j40 Ah Tn x2 z20 _ _ _ S (lv_sub hl [1, 2, 3, 0] rfl) hF
          · have hF := zs_f hF c25
            exact j35 Ah Tn x2 _ _ _ S (lv_sub hl [3] rfl) hF
  refine lv_iconst (v := (0 : Int32)) hx hb dX0_hoursToRest_0 (by decide) ?_
  refine lv_istore_n (lv' := [(2, .int (0 : Int32)), (0, .ref (aAh 0)), (1, .ref (aYd 0))]) hx hb dX0_hoursToRest_1 rfl hl (by decide) rfl (fun ls hl => ?_)
  exact j2 1000 Ah Tn (0 : Int32) _ _ _ S (lv_sub hl [1, 2, 0] rfl) hF

theorem zd_X0_goOn : yX0_goOn.cls = RX0 ∧ yX0_goOn.cls ≠ "java/lang/invoke/MethodHandle" ∧ yX0_goOn.cls ≠ "java/lang/invoke/VarHandle" ∧ (parseMethodDescriptor yX0_goOn.desc).map (fun d => d.parameters.length) = some 2 := by decide +kernel
theorem zd_X0_setOut : yX0_setOut.cls = RX0 ∧ yX0_setOut.cls ≠ "java/lang/invoke/MethodHandle" ∧ yX0_setOut.cls ≠ "java/lang/invoke/VarHandle" ∧ (parseMethodDescriptor yX0_setOut.desc).map (fun d => d.parameters.length) = some 1 := by decide +kernel
theorem zd_X1_warmthOfWarmest : yX1_warmthOfWarmest.cls = RX1 ∧ yX1_warmthOfWarmest.cls ≠ "java/lang/invoke/MethodHandle" ∧ yX1_warmthOfWarmest.cls ≠ "java/lang/invoke/VarHandle" ∧ (parseMethodDescriptor yX1_warmthOfWarmest.desc).map (fun d => d.parameters.length) = some 1 := by decide +kernel
abbrev RMX0_warmestIfShut : Room := { frames := 4, cells := 0, slots := 0, locals := 94 }
theorem zn_X0_warmestIfShut_X0 : ∀ w ∈ wsX00, w ∈ wsX0_warmestIfShut := zs_inl wsX00 [49, 50, 51] (by decide +kernel)
theorem zn_X0_warmestIfShut_X1 : ∀ w ∈ wsX10, w ∈ wsX0_warmestIfShut := zs_inl wsX10 [52, 53, 54, 55, 56, 57, 58, 59] (by decide +kernel)
theorem zn_X0_warmestIfShut_X6 : ∀ w ∈ wsX60, w ∈ wsX0_warmestIfShut := zs_inl wsX60 [60, 61, 62, 63, 64, 65, 66, 67, 68] (by decide +kernel)
set_option maxRecDepth 100000 in
set_option maxHeartbeats 4000000 in
theorem c_X0_warmestIfShut (l : Launch) (G : GG) (aAh aTn aYi aPr aYd : Ad) (Ah : Ob) (Tn : Ob) (Pr : Ob) (Yd : Ob) (u3 : Int32) (u4 : Int32) (sz : Nat) (rr : Int32) (Tn_ : Ob) (hF : F_X0_warmestIfShut Ah Tn Pr Yd u3 u4 = some (rr, Tn_)) : Met l yX0_warmestIfShut wsX0_warmestIfShut RMX0_warmestIfShut (va_Pc [.ref (aAh 0), .ref (aPr 0), .ref (aYd 0), .int u3, .int u4] (zs_pre G (wX0 G aAh aTn aYi Ah ++ wX1 G aTn Tn ++ wX1 G aPr Pr ++ wX6 G aYd Yd) sz)) (zs_Qi G (wX0 G aAh aTn aYi Ah ++ wX1 G aTn Tn_ ++ wX1 G aPr Pr ++ wX6 G aYd Yd) rr (va_A (wX0 G aAh aTn aYi Ah ++ wX1 G aTn Tn ++ wX1 G aPr Pr ++ wX6 G aYd Yd) sz)) 0 0 (va_A (wX0 G aAh aTn aYi Ah ++ wX1 G aTn Tn ++ wX1 G aPr Pr ++ wX6 G aYd Yd) sz) := by
  refine zs_met (cc := cX0_warmestIfShut) (maxL := 5) (ret := (some .int)) (own := RX0) (Qc := zs_Qi G (wX0 G aAh aTn aYi Ah ++ wX1 G aTn Tn_ ++ wX1 G aPr Pr ++ wX6 G aYd Yd) rr) (by decide) rfl rfl (Nat.le_of_ble_eq_true rfl) ?_
  intro p e s m args below meth c C A hK hA S _ _ ls hl
  have hl : lv_has ls 5 [(0, .ref (aAh 0)), (1, .ref (aPr 0)), (2, .ref (aYd 0)), (3, .int u3), (4, .int u4)] := hl
  have hx := C.1.1
  have hb := C.1.2.1
  unfold F_X0_warmestIfShut at hF
  refine lv_aload_n hx hb dX0_warmestIfShut_0 rfl (lv_at hl 0 rfl) ?_
  refine lv_aload_n hx hb dX0_warmestIfShut_1 rfl (lv_at hl 1 rfl) ?_
  obtain ⟨Tnw1, f2, hF⟩ := zs_bdS hF
  refine zs_callv (wr := wX6 G aYd Yd) (ws' := wX0 G aAh aTn aYi Ah ++ wX1 G aTn Tnw1 ++ wX1 G aPr Pr ++ wX6 G aYd Yd) S hA [0, 1, 2, 3, 4, 5, 6, 7, 8, 9] [10, 11, 12, 13, 14, 15, 16, 17] [8, 9, 10, 11, 12, 13, 14, 15, 16, 17, 0, 1, 2, 3, 4, 5, 6, 7] (zs_runV C hK hA S [.ref (aPr 0)] [] [0, 1, 2, 3, 4, 5, 6, 7, 8, 9] 0 1 (c_X0_setOut l G aAh aTn aYi aPr Ah Tn Pr s.heap.size Tnw1 f2) gX0_warmestIfShut_X0_setOut rfl rfl rfl zd_X0_setOut ⟨Nat.le_of_ble_eq_true rfl, Nat.le_of_ble_eq_true rfl⟩ rfl rfl rfl rfl rfl hl rfl (Nat.le_of_ble_eq_true rfl) dX0_warmestIfShut_2 ⟨Nat.le_of_ble_eq_true rfl, Nat.le_of_ble_eq_true rfl⟩) rfl rfl rfl (by decide) rfl rfl (fun H locs S => ?_)
  refine lv_aload_n hx hb dX0_warmestIfShut_5 rfl (lv_at hl 0 rfl) ?_
  refine zs_get C hK S 0 0 (Cn := RX0) (T := TX0) (N := 3) (ci := 0) rfl rfl (by decide) zn_X0_warmestIfShut_X0 (List.mem_of_getElem? (i := 1) rfl) rfl dX0_warmestIfShut_6 ?_
  refine lv_iload_n hx hb dX0_warmestIfShut_9 rfl (lv_at hl 3 rfl) ?_
  obtain ⟨Tnw3, e4⟩ : ∃ q : Ob, q = zs_up Tnw1 0 1 u3 := ⟨_, rfl⟩
  have hF := zs_letS hF e4
  refine zs_put C hK S 2 1 (ws' := wX0 G aAh aTn aYi Ah ++ wX1 G aTn Tnw3 ++ wX1 G aPr Pr ++ wX6 G aYd Yd) (Cn := RX1) (T := TX1) (N := 8) (ci := 1) rfl rfl (by decide) zn_X0_warmestIfShut_X1 tyX1_ok nmX1 (List.mem_of_getElem? (i := 2) rfl) rfl rfl rfl (Nat.le_of_ble_eq_true rfl) (by rw [e4]; rfl) dX0_warmestIfShut_10 (fun H locs S => ?_)
  refine lv_aload_n hx hb dX0_warmestIfShut_13 rfl (lv_at hl 0 rfl) ?_
  refine lv_aload_n hx hb dX0_warmestIfShut_14 rfl (lv_at hl 2 rfl) ?_
  refine lv_iload hx hb dX0_warmestIfShut_15 (lv_at hl 4 rfl) ?_
  obtain ⟨Tnw5, f6, hF⟩ := zs_bdS hF
  refine zs_callv (wr := wX1 G aPr Pr) (ws' := wX0 G aAh aTn aYi Ah ++ wX1 G aTn Tnw5 ++ wX1 G aPr Pr ++ wX6 G aYd Yd) S hA [0, 1, 2, 3, 4, 5, 10, 11, 12, 13, 14, 15, 16, 17] [6, 7, 8, 9] [4, 5, 6, 7, 8, 9, 0, 1, 2, 3, 10, 11, 12, 13, 14, 15, 16, 17] (zs_runV C hK hA S [.ref (aYd 0), .int u4] [] [0, 1, 2, 3, 4, 5, 10, 11, 12, 13, 14, 15, 16, 17] 0 2 (c_X0_goOn l G aAh aTn aYi aYd Ah Tnw3 Yd u4 H.size Tnw5 f6) gX0_warmestIfShut_X0_goOn rfl rfl rfl zd_X0_goOn ⟨Nat.le_of_ble_eq_true rfl, Nat.le_of_ble_eq_true rfl⟩ rfl rfl rfl rfl rfl hl rfl (Nat.le_of_ble_eq_true rfl) dX0_warmestIfShut_17 ⟨Nat.le_of_ble_eq_true rfl, Nat.le_of_ble_eq_true rfl⟩) rfl rfl rfl (by decide) rfl rfl (fun H locs S => ?_)
  refine lv_aload_n hx hb dX0_warmestIfShut_20 rfl (lv_at hl 0 rfl) ?_
  refine zs_get C hK S 0 0 (Cn := RX0) (T := TX0) (N := 3) (ci := 0) rfl rfl (by decide) zn_X0_warmestIfShut_X0 (List.mem_of_getElem? (i := 1) rfl) rfl dX0_warmestIfShut_21 ?_
  refine lv_aload_n hx hb dX0_warmestIfShut_24 rfl (lv_at hl 2 rfl) ?_
  refine zs_get C hK S 10 0 (Cn := RX6) (T := TX6) (N := 9) (ci := 6) rfl rfl (by decide) zn_X0_warmestIfShut_X6 (List.mem_of_getElem? (i := 3) rfl) rfl dX0_warmestIfShut_25 ?_
  obtain ⟨r7, f8, hF⟩ := zs_bdS hF
  refine zs_calli (wr := wX0 G aAh aTn aYi Ah ++ wX1 G aPr Pr ++ wX6 G aYd Yd) (ws' := wX0 G aAh aTn aYi Ah ++ wX1 G aTn Tnw5 ++ wX1 G aPr Pr ++ wX6 G aYd Yd) S hA [2, 3, 4, 5] [0, 1, 6, 7, 8, 9, 10, 11, 12, 13, 14, 15, 16, 17] [0, 1, 14, 15, 16, 17, 2, 3, 4, 5, 6, 7, 8, 9, 10, 11, 12, 13] (zs_runV C hK hA S [.int (Yd 0 0)] [] [2, 3, 4, 5] 2 1 (c_X1_warmthOfWarmest l G aTn Tnw5 ((Yd 0 0)) H.size r7 f8) gX0_warmestIfShut_X1_warmthOfWarmest rfl rfl rfl zd_X1_warmthOfWarmest ⟨Nat.le_of_ble_eq_true rfl, Nat.le_of_ble_eq_true rfl⟩ rfl rfl rfl rfl rfl hl rfl (Nat.le_of_ble_eq_true rfl) dX0_warmestIfShut_28 ⟨Nat.le_of_ble_eq_true rfl, Nat.le_of_ble_eq_true rfl⟩) rfl rfl rfl (by decide) rfl rfl (fun H locs S => ?_)
  obtain ⟨e9, e10⟩ := zs_s2 hF
  exact zs_iretE C S e9 (by rw [e10]) dX0_warmestIfShut_31

abbrev RMX0_warmthIfMirrors : Room := { frames := 4, cells := 0, slots := 0, locals := 94 }
theorem zn_X0_warmthIfMirrors_X0 : ∀ w ∈ wsX00, w ∈ wsX0_warmthIfMirrors := zs_inl wsX00 [41, 42, 43] (by decide +kernel)
theorem zn_X0_warmthIfMirrors_X1 : ∀ w ∈ wsX10, w ∈ wsX0_warmthIfMirrors := zs_inl wsX10 [44, 45, 46, 47, 48, 49, 50, 51] (by decide +kernel)
set_option maxRecDepth 100000 in
set_option maxHeartbeats 4000000 in
theorem c_X0_warmthIfMirrors (l : Launch) (G : GG) (aAh aTn aYi aPr aYd : Ad) (Ah : Ob) (Tn : Ob) (Pr : Ob) (Yd : Ob) (u3 : Int32) (u4 : Int32) (u5 : Int32) (sz : Nat) (rr : Int32) (Tn_ : Ob) (hF : F_X0_warmthIfMirrors Ah Tn Pr Yd u3 u4 u5 = some (rr, Tn_)) : Met l yX0_warmthIfMirrors wsX0_warmthIfMirrors RMX0_warmthIfMirrors (va_Pc [.ref (aAh 0), .ref (aPr 0), .ref (aYd 0), .int u3, .int u4, .int u5] (zs_pre G (wX0 G aAh aTn aYi Ah ++ wX1 G aTn Tn ++ wX1 G aPr Pr ++ wX6 G aYd Yd) sz)) (zs_Qi G (wX0 G aAh aTn aYi Ah ++ wX1 G aTn Tn_ ++ wX1 G aPr Pr ++ wX6 G aYd Yd) rr (va_A (wX0 G aAh aTn aYi Ah ++ wX1 G aTn Tn ++ wX1 G aPr Pr ++ wX6 G aYd Yd) sz)) 0 0 (va_A (wX0 G aAh aTn aYi Ah ++ wX1 G aTn Tn ++ wX1 G aPr Pr ++ wX6 G aYd Yd) sz) := by
  refine zs_met (cc := cX0_warmthIfMirrors) (maxL := 6) (ret := (some .int)) (own := RX0) (Qc := zs_Qi G (wX0 G aAh aTn aYi Ah ++ wX1 G aTn Tn_ ++ wX1 G aPr Pr ++ wX6 G aYd Yd) rr) (by decide) rfl rfl (Nat.le_of_ble_eq_true rfl) ?_
  intro p e s m args below meth c C A hK hA S _ _ ls hl
  have hl : lv_has ls 6 [(0, .ref (aAh 0)), (1, .ref (aPr 0)), (2, .ref (aYd 0)), (3, .int u3), (4, .int u4), (5, .int u5)] := hl
  have hx := C.1.1
  have hb := C.1.2.1
  unfold F_X0_warmthIfMirrors at hF
  refine lv_aload_n hx hb dX0_warmthIfMirrors_0 rfl (lv_at hl 0 rfl) ?_
  refine lv_aload_n hx hb dX0_warmthIfMirrors_1 rfl (lv_at hl 1 rfl) ?_
  obtain ⟨Tnw1, f2, hF⟩ := zs_bdS hF
  refine zs_callv (wr := wX6 G aYd Yd) (ws' := wX0 G aAh aTn aYi Ah ++ wX1 G aTn Tnw1 ++ wX1 G aPr Pr ++ wX6 G aYd Yd) S hA [0, 1, 2, 3, 4, 5, 6, 7, 8, 9] [10, 11, 12, 13, 14, 15, 16, 17] [8, 9, 10, 11, 12, 13, 14, 15, 16, 17, 0, 1, 2, 3, 4, 5, 6, 7] (zs_runV C hK hA S [.ref (aPr 0)] [] [0, 1, 2, 3, 4, 5, 6, 7, 8, 9] 0 1 (c_X0_setOut l G aAh aTn aYi aPr Ah Tn Pr s.heap.size Tnw1 f2) gX0_warmthIfMirrors_X0_setOut rfl rfl rfl zd_X0_setOut ⟨Nat.le_of_ble_eq_true rfl, Nat.le_of_ble_eq_true rfl⟩ rfl rfl rfl rfl rfl hl rfl (Nat.le_of_ble_eq_true rfl) dX0_warmthIfMirrors_2 ⟨Nat.le_of_ble_eq_true rfl, Nat.le_of_ble_eq_true rfl⟩) rfl rfl rfl (by decide) rfl rfl (fun H locs S => ?_)
  refine lv_aload_n hx hb dX0_warmthIfMirrors_5 rfl (lv_at hl 0 rfl) ?_
  refine zs_get C hK S 0 0 (Cn := RX0) (T := TX0) (N := 3) (ci := 0) rfl rfl (by decide) zn_X0_warmthIfMirrors_X0 (List.mem_of_getElem? (i := 1) rfl) rfl dX0_warmthIfMirrors_6 ?_
  refine lv_dup hx hb dX0_warmthIfMirrors_9 rfl ?_
  refine zs_get C hK S 2 2 (Cn := RX1) (T := TX1) (N := 8) (ci := 1) rfl rfl (by decide) zn_X0_warmthIfMirrors_X1 (List.mem_of_getElem? (i := 2) rfl) rfl dX0_warmthIfMirrors_10 ?_
  refine lv_iload_n hx hb dX0_warmthIfMirrors_13 rfl (lv_at hl 3 rfl) ?_
  refine lv_ior hx hb dX0_warmthIfMirrors_14 ?_
  obtain ⟨Tnw3, e4⟩ : ∃ q : Ob, q = zs_up Tnw1 0 2 ((Tnw1 0 2) ||| u3) := ⟨_, rfl⟩
  have hF := zs_letS hF e4
  refine zs_put C hK S 2 2 (ws' := wX0 G aAh aTn aYi Ah ++ wX1 G aTn Tnw3 ++ wX1 G aPr Pr ++ wX6 G aYd Yd) (Cn := RX1) (T := TX1) (N := 8) (ci := 1) rfl rfl (by decide) zn_X0_warmthIfMirrors_X1 tyX1_ok nmX1 (List.mem_of_getElem? (i := 2) rfl) rfl rfl rfl (Nat.le_of_ble_eq_true rfl) (by rw [e4]; rfl) dX0_warmthIfMirrors_15 (fun H locs S => ?_)
  refine lv_aload_n hx hb dX0_warmthIfMirrors_18 rfl (lv_at hl 0 rfl) ?_
  refine lv_aload_n hx hb dX0_warmthIfMirrors_19 rfl (lv_at hl 2 rfl) ?_
  refine lv_iload hx hb dX0_warmthIfMirrors_20 (lv_at hl 4 rfl) ?_
  obtain ⟨Tnw5, f6, hF⟩ := zs_bdS hF
  refine zs_callv (wr := wX1 G aPr Pr) (ws' := wX0 G aAh aTn aYi Ah ++ wX1 G aTn Tnw5 ++ wX1 G aPr Pr ++ wX6 G aYd Yd) S hA [0, 1, 2, 3, 4, 5, 10, 11, 12, 13, 14, 15, 16, 17] [6, 7, 8, 9] [4, 5, 6, 7, 8, 9, 0, 1, 2, 3, 10, 11, 12, 13, 14, 15, 16, 17] (zs_runV C hK hA S [.ref (aYd 0), .int u4] [] [0, 1, 2, 3, 4, 5, 10, 11, 12, 13, 14, 15, 16, 17] 0 2 (c_X0_goOn l G aAh aTn aYi aYd Ah Tnw3 Yd u4 H.size Tnw5 f6) gX0_warmthIfMirrors_X0_goOn rfl rfl rfl zd_X0_goOn ⟨Nat.le_of_ble_eq_true rfl, Nat.le_of_ble_eq_true rfl⟩ rfl rfl rfl rfl rfl hl rfl (Nat.le_of_ble_eq_true rfl) dX0_warmthIfMirrors_22 ⟨Nat.le_of_ble_eq_true rfl, Nat.le_of_ble_eq_true rfl⟩) rfl rfl rfl (by decide) rfl rfl (fun H locs S => ?_)
  refine lv_aload_n hx hb dX0_warmthIfMirrors_25 rfl (lv_at hl 0 rfl) ?_
  refine zs_get C hK S 0 0 (Cn := RX0) (T := TX0) (N := 3) (ci := 0) rfl rfl (by decide) zn_X0_warmthIfMirrors_X0 (List.mem_of_getElem? (i := 1) rfl) rfl dX0_warmthIfMirrors_26 ?_
  refine zs_get C hK S 2 5 (Cn := RX1) (T := TX1) (N := 8) (ci := 1) rfl rfl (by decide) zn_X0_warmthIfMirrors_X1 (List.mem_of_getElem? (i := 3) rfl) rfl dX0_warmthIfMirrors_29 ?_
  refine lv_iload hx hb dX0_warmthIfMirrors_32 (lv_at hl 5 rfl) ?_
  obtain ⟨h7, hF⟩ := zs_ckS hF
  refine zs_iald C hK S 3 rfl h7 dX0_warmthIfMirrors_34 ?_
  obtain ⟨e8, e9⟩ := zs_s2 hF
  exact zs_iretE C S e8 (by rw [e9]) dX0_warmthIfMirrors_35

theorem zd_X1_tooWarm : yX1_tooWarm.cls = RX1 ∧ yX1_tooWarm.cls ≠ "java/lang/invoke/MethodHandle" ∧ yX1_tooWarm.cls ≠ "java/lang/invoke/VarHandle" ∧ (parseMethodDescriptor yX1_tooWarm.desc).map (fun d => d.parameters.length) = some 1 := by decide +kernel
abbrev RMX0_staysCool : Room := { frames := 3, cells := 0, slots := 0, locals := 71 }
theorem zn_X0_staysCool_X0 : ∀ w ∈ wsX00, w ∈ wsX0_staysCool := zs_inl wsX00 [41, 42, 43] (by decide +kernel)
set_option maxRecDepth 100000 in
set_option maxHeartbeats 4000000 in
theorem c_X0_staysCool (l : Launch) (G : GG) (aAh aTn aYi aPr : Ad) (Ah : Ob) (Tn : Ob) (Yi : Ob) (Pr : Ob) (u2 : Int32) (sz : Nat) (rr : Int32) (Tn_ : Ob) (hF : F_X0_staysCool Ah Tn Yi Pr u2 = some (rr, Tn_)) : Met l yX0_staysCool wsX0_staysCool RMX0_staysCool (va_Pc [.ref (aAh 0), .ref (aPr 0), .int u2] (zs_pre G (wX0 G aAh aTn aYi Ah ++ wX1 G aTn Tn ++ wX6 G aYi Yi ++ wX1 G aPr Pr) sz)) (zs_Qi G (wX0 G aAh aTn aYi Ah ++ wX1 G aTn Tn_ ++ wX6 G aYi Yi ++ wX1 G aPr Pr) rr (va_A (wX0 G aAh aTn aYi Ah ++ wX1 G aTn Tn ++ wX6 G aYi Yi ++ wX1 G aPr Pr) sz)) 0 0 (va_A (wX0 G aAh aTn aYi Ah ++ wX1 G aTn Tn ++ wX6 G aYi Yi ++ wX1 G aPr Pr) sz) := by
  refine zs_met (cc := cX0_staysCool) (maxL := 4) (ret := (some .boolean)) (own := RX0) (Qc := zs_Qi G (wX0 G aAh aTn aYi Ah ++ wX1 G aTn Tn_ ++ wX6 G aYi Yi ++ wX1 G aPr Pr) rr) (by decide) rfl rfl (Nat.le_of_ble_eq_true rfl) ?_
  intro p e s m args below meth c C A hK hA S _ _ ls hl
  have hl : lv_has ls 4 [(0, .ref (aAh 0)), (1, .ref (aPr 0)), (2, .int u2)] := hl
  have hx := C.1.1
  have hb := C.1.2.1
  unfold F_X0_staysCool at hF
  have j7 : ∀ (n7 : Nat) (Tn : Ob) (x2 : Int32) (x3 : Int32) (H : Heap) (locs : List Loc) (ls : Array Slot), zs_S G A s.heap H locs (wX0 G aAh aTn aYi Ah ++ wX1 G aTn Tn ++ wX6 G aYi Yi ++ wX1 G aPr Pr) → lv_has ls 4 [(0, .ref (aAh 0)), (2, .int x2), (3, .int x3)] → F_X0_staysCool_7 Ah Yi Pr n7 Tn x2 x3 = some (rr, Tn_) → W p l e RMX0_staysCool s m args below meth c H locs 0 0 (MQ below (zs_Qi G (wX0 G aAh aTn aYi Ah ++ wX1 G aTn Tn_ ++ wX6 G aYi Yi ++ wX1 G aPr Pr) rr A) args s 0 0 A) (F0 m 7 ls []) := by
    intro n7
    induction n7 with
    | zero => intro Tn x2 x3 H locs ls _ _ hF; rw [F_X0_staysCool_7_z] at hF; cases hF
    | succ n7 ih7 =>
      intro Tn x2 x3 H locs ls S hl hF
      rw [F_X0_staysCool_7_n] at hF
      unfold F_X0_staysCool_7_s at hF
      refine lv_iload_n hx hb dX0_staysCool_7 rfl (lv_at hl 2 rfl) ?_
      refine lv_iload_n hx hb dX0_staysCool_8 rfl (lv_at hl 1 rfl) ?_
      refine lv_icmp_ge (tgt := 46) hx hb dX0_staysCool_9 (by decide) (fun c1 => ?_) (fun c1 => ?_)
      · have hF := zs_t hF c1
        refine lv_iconst (v := (1 : Int32)) hx hb dX0_staysCool_46 (by decide) ?_
        obtain ⟨e2, e3⟩ := zs_s2 hF
        exact zs_zretE C S rfl e2 (by rw [e3]) dX0_staysCool_47
      · have hF := zs_f hF c1
        refine lv_aload_n hx hb dX0_staysCool_12 rfl (lv_at hl 0 rfl) ?_
        refine zs_get C hK S 0 0 (Cn := RX0) (T := TX0) (N := 3) (ci := 0) rfl rfl (by decide) zn_X0_staysCool_X0 (List.mem_of_getElem? (i := 1) rfl) rfl dX0_staysCool_13 ?_
        refine lv_aload_n hx hb dX0_staysCool_16 rfl (lv_at hl 0 rfl) ?_
        refine zs_get C hK S 0 1 (Cn := RX0) (T := TX0) (N := 3) (ci := 0) rfl rfl (by decide) zn_X0_staysCool_X0 (List.mem_of_getElem? (i := 2) rfl) rfl dX0_staysCool_17 ?_
        obtain ⟨r4, Tnw5, f6, hF⟩ := zs_b2S hF
        refine zs_calli (wr := wX0 G aAh aTn aYi Ah ++ wX1 G aPr Pr) (ws' := wX0 G aAh aTn aYi Ah ++ wX1 G aTn Tnw5 ++ wX6 G aYi Yi ++ wX1 G aPr Pr) S hA [2, 3, 4, 5, 6, 7, 8, 9, 10, 11, 12, 13] [0, 1, 14, 15, 16, 17] [0, 1, 6, 7, 8, 9, 10, 11, 12, 13, 14, 15, 16, 17, 2, 3, 4, 5] (zs_runV C hK hA S [.ref (aYi 0)] [] [2, 3, 4, 5, 6, 7, 8, 9, 10, 11, 12, 13] 2 1 (c_X1_goBy l G aTn aYi Tn Yi H.size r4 Tnw5 f6) gX0_staysCool_X1_goBy rfl rfl rfl zd_X1_goBy ⟨Nat.le_of_ble_eq_true rfl, Nat.le_of_ble_eq_true rfl⟩ rfl rfl rfl rfl rfl hl rfl (Nat.le_of_ble_eq_true rfl) dX0_staysCool_20 ⟨Nat.le_of_ble_eq_true rfl, Nat.le_of_ble_eq_true rfl⟩) rfl rfl rfl (by decide) rfl rfl (fun H locs S => ?_)
        refine lv_pop hx hb dX0_staysCool_23 rfl ?_
        refine lv_aload_n hx hb dX0_staysCool_24 rfl (lv_at hl 0 rfl) ?_
        refine zs_get C hK S 0 0 (Cn := RX0) (T := TX0) (N := 3) (ci := 0) rfl rfl (by decide) zn_X0_staysCool_X0 (List.mem_of_getElem? (i := 1) rfl) rfl dX0_staysCool_25 ?_
        refine lv_aload_n hx hb dX0_staysCool_28 rfl (lv_at hl 0 rfl) ?_
        refine zs_get C hK S 0 1 (Cn := RX0) (T := TX0) (N := 3) (ci := 0) rfl rfl (by decide) zn_X0_staysCool_X0 (List.mem_of_getElem? (i := 2) rfl) rfl dX0_staysCool_29 ?_
        obtain ⟨r7, f8, hF⟩ := zs_bdS hF
        refine zs_calli (wr := wX0 G aAh aTn aYi Ah ++ wX1 G aPr Pr) (ws' := wX0 G aAh aTn aYi Ah ++ wX1 G aTn Tnw5 ++ wX6 G aYi Yi ++ wX1 G aPr Pr) S hA [2, 3, 4, 5, 6, 7, 8, 9, 10, 11, 12, 13] [0, 1, 14, 15, 16, 17] [0, 1, 6, 7, 8, 9, 10, 11, 12, 13, 14, 15, 16, 17, 2, 3, 4, 5] (zs_runV C hK hA S [.ref (aYi 0)] [] [2, 3, 4, 5, 6, 7, 8, 9, 10, 11, 12, 13] 2 1 (c_X1_tooWarm l G aTn aYi Tnw5 Yi H.size r7 f8) gX0_staysCool_X1_tooWarm rfl rfl rfl zd_X1_tooWarm ⟨Nat.le_of_ble_eq_true rfl, Nat.le_of_ble_eq_true rfl⟩ rfl rfl rfl rfl rfl hl rfl (Nat.le_of_ble_eq_true rfl) dX0_staysCool_32 ⟨Nat.le_of_ble_eq_true rfl, Nat.le_of_ble_eq_true rfl⟩) rfl rfl rfl (by decide) rfl rfl (fun H locs S => ?_)
        refine lv_if_eq (tgt := 40) hx hb dX0_staysCool_35 (by decide) (fun c9 => ?_) (fun c9 => ?_)
        · have hF := zs_t hF c9
          obtain ⟨z10, e11⟩ : ∃ q : Int32, q = x3 + (1 : Int32) := ⟨_, rfl⟩
          have hF := zs_letS hF e11
          refine lv_iinc (v := z10) (lv' := [(3, .int z10), (0, .ref (aAh 0)), (2, .int x2)]) hx hb dX0_staysCool_40 hl (k := 2) rfl (by rw [e11]; rfl) (by decide) rfl (fun ls hl => ?_)
          refine lv_goto (tgt := 7) hx hb dX0_staysCool_43 (by decide) ?_
          exact ih7 Tnw5 x2 z10 _ _ _ S (lv_sub hl [1, 2, 0] rfl) hF
        · have hF := zs_f hF c9
          refine lv_iconst (v := (0 : Int32)) hx hb dX0_staysCool_38 (by decide) ?_
          obtain ⟨e12, e13⟩ := zs_s2 hF
          exact zs_zretE C S rfl e12 (by rw [e13]) dX0_staysCool_39
  refine lv_aload_n hx hb dX0_staysCool_0 rfl (lv_at hl 0 rfl) ?_
  refine lv_aload_n hx hb dX0_staysCool_1 rfl (lv_at hl 1 rfl) ?_
  obtain ⟨Tnw14, f15, hF⟩ := zs_bdS hF
  refine zs_callv (wr := wX6 G aYi Yi) (ws' := wX0 G aAh aTn aYi Ah ++ wX1 G aTn Tnw14 ++ wX6 G aYi Yi ++ wX1 G aPr Pr) S hA [0, 1, 2, 3, 4, 5, 14, 15, 16, 17] [6, 7, 8, 9, 10, 11, 12, 13] [8, 9, 10, 11, 12, 13, 0, 1, 2, 3, 4, 5, 6, 7, 14, 15, 16, 17] (zs_runV C hK hA S [.ref (aPr 0)] [] [0, 1, 2, 3, 4, 5, 14, 15, 16, 17] 0 1 (c_X0_setOut l G aAh aTn aYi aPr Ah Tn Pr s.heap.size Tnw14 f15) gX0_staysCool_X0_setOut rfl rfl rfl zd_X0_setOut ⟨Nat.le_of_ble_eq_true rfl, Nat.le_of_ble_eq_true rfl⟩ rfl rfl rfl rfl rfl hl rfl (Nat.le_of_ble_eq_true rfl) dX0_staysCool_2 ⟨Nat.le_of_ble_eq_true rfl, Nat.le_of_ble_eq_true rfl⟩) rfl rfl rfl (by decide) rfl rfl (fun H locs S => ?_)
  refine lv_iconst (v := (0 : Int32)) hx hb dX0_staysCool_5 (by decide) ?_
  refine lv_istore_n (lv' := [(3, .int (0 : Int32)), (0, .ref (aAh 0)), (1, .ref (aPr 0)), (2, .int u2)]) hx hb dX0_staysCool_6 rfl hl (by decide) rfl (fun ls hl => ?_)
  exact j7 1000 Tnw14 u2 (0 : Int32) _ _ _ S (lv_sub hl [1, 3, 0] rfl) hF

theorem zd_X1_begin : yX1_begin.cls = RX1 ∧ yX1_begin.cls ≠ "java/lang/invoke/MethodHandle" ∧ yX1_begin.cls ≠ "java/lang/invoke/VarHandle" ∧ (parseMethodDescriptor yX1_begin.desc).map (fun d => d.parameters.length) = some 1 := by decide +kernel
theorem zd_X3_areSo : yX3_areSo.cls = RX3 ∧ yX3_areSo.cls ≠ "java/lang/invoke/MethodHandle" ∧ yX3_areSo.cls ≠ "java/lang/invoke/VarHandle" ∧ (parseMethodDescriptor yX3_areSo.desc).map (fun d => d.parameters.length) = some 2 := by decide +kernel
theorem zd_X3_latest : yX3_latest.cls = RX3 ∧ yX3_latest.cls ≠ "java/lang/invoke/MethodHandle" ∧ yX3_latest.cls ≠ "java/lang/invoke/VarHandle" ∧ (parseMethodDescriptor yX3_latest.desc).map (fun d => d.parameters.length) = some 0 := by decide +kernel
abbrev RMX0_allSeenIsSo : Room := { frames := 3, cells := 0, slots := 0, locals := 71 }
theorem zn_X0_allSeenIsSo_X0 : ∀ w ∈ wsX00, w ∈ wsX0_allSeenIsSo := zs_inl wsX00 [51, 52, 53] (by decide +kernel)
set_option maxRecDepth 100000 in
set_option maxHeartbeats 4000000 in
theorem c_X0_allSeenIsSo (l : Launch) (G : GG) (aAh aTn aYi aSg : Ad) (Ah : Ob) (Tn : Ob) (Yi : Ob) (Sg : Ob) (sz : Nat) (rr : Int32) (Tn_ : Ob) (hF : F_X0_allSeenIsSo Ah Tn Yi Sg = some (rr, Tn_)) : Met l yX0_allSeenIsSo wsX0_allSeenIsSo RMX0_allSeenIsSo (va_Pc [.ref (aAh 0), .ref (aSg 0)] (zs_pre G (wX0 G aAh aTn aYi Ah ++ wX1 G aTn Tn ++ wX6 G aYi Yi ++ wX3 G aSg Sg) sz)) (zs_Qi G (wX0 G aAh aTn aYi Ah ++ wX1 G aTn Tn_ ++ wX6 G aYi Yi ++ wX3 G aSg Sg) rr (va_A (wX0 G aAh aTn aYi Ah ++ wX1 G aTn Tn ++ wX6 G aYi Yi ++ wX3 G aSg Sg) sz)) 0 0 (va_A (wX0 G aAh aTn aYi Ah ++ wX1 G aTn Tn ++ wX6 G aYi Yi ++ wX3 G aSg Sg) sz) := by
  refine zs_met (cc := cX0_allSeenIsSo) (maxL := 4) (ret := (some .boolean)) (own := RX0) (Qc := zs_Qi G (wX0 G aAh aTn aYi Ah ++ wX1 G aTn Tn_ ++ wX6 G aYi Yi ++ wX3 G aSg Sg) rr) (by decide) rfl rfl (Nat.le_of_ble_eq_true rfl) ?_
  intro p e s m args below meth c C A hK hA S _ _ ls hl
  have hl : lv_has ls 4 [(0, .ref (aAh 0)), (1, .ref (aSg 0))] := hl
  have hx := C.1.1
  have hb := C.1.2.1
  unfold F_X0_allSeenIsSo at hF
  have j18 : ∀ (n18 : Nat) (Tn : Ob) (x2 : Int32) (x3 : Int32) (H : Heap) (locs : List Loc) (ls : Array Slot), zs_S G A s.heap H locs (wX0 G aAh aTn aYi Ah ++ wX1 G aTn Tn ++ wX6 G aYi Yi ++ wX3 G aSg Sg) → lv_has ls 4 [(0, .ref (aAh 0)), (1, .ref (aSg 0)), (2, .int x2), (3, .int x3)] → F_X0_allSeenIsSo_18 Ah Yi Sg n18 Tn x2 x3 = some (rr, Tn_) → W p l e RMX0_allSeenIsSo s m args below meth c H locs 0 0 (MQ below (zs_Qi G (wX0 G aAh aTn aYi Ah ++ wX1 G aTn Tn_ ++ wX6 G aYi Yi ++ wX3 G aSg Sg) rr A) args s 0 0 A) (F0 m 18 ls []) := by
    intro n18
    induction n18 with
    | zero => intro Tn x2 x3 H locs ls _ _ hF; rw [F_X0_allSeenIsSo_18_z] at hF; cases hF
    | succ n18 ih18 =>
      intro Tn x2 x3 H locs ls S hl hF
      rw [F_X0_allSeenIsSo_18_n] at hF
      unfold F_X0_allSeenIsSo_18_s at hF
      refine lv_iload_n hx hb dX0_allSeenIsSo_18 rfl (lv_at hl 3 rfl) ?_
      refine lv_iload_n hx hb dX0_allSeenIsSo_19 rfl (lv_at hl 2 rfl) ?_
      refine lv_icmp_gt (tgt := 55) hx hb dX0_allSeenIsSo_20 (by decide) (fun c1 => ?_) (fun c1 => ?_)
      · have hF := zs_t hF c1
        refine lv_iconst (v := (1 : Int32)) hx hb dX0_allSeenIsSo_55 (by decide) ?_
        obtain ⟨e2, e3⟩ := zs_s2 hF
        exact zs_zretE C S rfl e2 (by rw [e3]) dX0_allSeenIsSo_56
      · have hF := zs_f hF c1
        refine lv_aload_n hx hb dX0_allSeenIsSo_23 rfl (lv_at hl 1 rfl) ?_
        refine lv_iload_n hx hb dX0_allSeenIsSo_24 rfl (lv_at hl 3 rfl) ?_
        refine lv_aload_n hx hb dX0_allSeenIsSo_25 rfl (lv_at hl 0 rfl) ?_
        refine zs_get C hK S 0 0 (Cn := RX0) (T := TX0) (N := 3) (ci := 0) rfl rfl (by decide) zn_X0_allSeenIsSo_X0 (List.mem_of_getElem? (i := 1) rfl) rfl dX0_allSeenIsSo_26 ?_
        obtain ⟨r4, f5, hF⟩ := zs_bdS hF
        refine zs_calli (wr := wX0 G aAh aTn aYi Ah ++ wX6 G aYi Yi) (ws' := wX0 G aAh aTn aYi Ah ++ wX1 G aTn Tn ++ wX6 G aYi Yi ++ wX3 G aSg Sg) S hA [14, 15, 16, 17, 2, 3, 4, 5] [0, 1, 6, 7, 8, 9, 10, 11, 12, 13] [0, 1, 14, 15, 16, 17, 2, 3, 4, 5, 6, 7, 8, 9, 10, 11, 12, 13] (zs_runV C hK hA S [.int x3, .ref (aTn 0)] [] [14, 15, 16, 17, 2, 3, 4, 5] 14 2 (c_X3_areSo l G aSg aTn Sg Tn x3 H.size r4 f5) gX0_allSeenIsSo_X3_areSo rfl rfl rfl zd_X3_areSo ⟨Nat.le_of_ble_eq_true rfl, Nat.le_of_ble_eq_true rfl⟩ rfl rfl rfl rfl rfl hl rfl (Nat.le_of_ble_eq_true rfl) dX0_allSeenIsSo_29 ⟨Nat.le_of_ble_eq_true rfl, Nat.le_of_ble_eq_true rfl⟩) rfl rfl rfl (by decide) rfl rfl (fun H locs S => ?_)
        refine lv_if_ne (tgt := 37) hx hb dX0_allSeenIsSo_32 (by decide) (fun c6 => ?_) (fun c6 => ?_)
        · have hF := zs_f hF c6
          refine lv_aload_n hx hb dX0_allSeenIsSo_37 rfl (lv_at hl 0 rfl) ?_
          refine zs_get C hK S 0 0 (Cn := RX0) (T := TX0) (N := 3) (ci := 0) rfl rfl (by decide) zn_X0_allSeenIsSo_X0 (List.mem_of_getElem? (i := 1) rfl) rfl dX0_allSeenIsSo_38 ?_
          refine lv_aload_n hx hb dX0_allSeenIsSo_41 rfl (lv_at hl 0 rfl) ?_
          refine zs_get C hK S 0 1 (Cn := RX0) (T := TX0) (N := 3) (ci := 0) rfl rfl (by decide) zn_X0_allSeenIsSo_X0 (List.mem_of_getElem? (i := 2) rfl) rfl dX0_allSeenIsSo_42 ?_
          obtain ⟨r7, Tnw8, f9, hF⟩ := zs_b2S hF
          refine zs_calli (wr := wX0 G aAh aTn aYi Ah ++ wX3 G aSg Sg) (ws' := wX0 G aAh aTn aYi Ah ++ wX1 G aTn Tnw8 ++ wX6 G aYi Yi ++ wX3 G aSg Sg) S hA [2, 3, 4, 5, 6, 7, 8, 9, 10, 11, 12, 13] [0, 1, 14, 15, 16, 17] [0, 1, 6, 7, 8, 9, 10, 11, 12, 13, 14, 15, 16, 17, 2, 3, 4, 5] (zs_runV C hK hA S [.ref (aYi 0)] [] [2, 3, 4, 5, 6, 7, 8, 9, 10, 11, 12, 13] 2 1 (c_X1_goBy l G aTn aYi Tn Yi H.size r7 Tnw8 f9) gX0_allSeenIsSo_X1_goBy rfl rfl rfl zd_X1_goBy ⟨Nat.le_of_ble_eq_true rfl, Nat.le_of_ble_eq_true rfl⟩ rfl rfl rfl rfl rfl hl rfl (Nat.le_of_ble_eq_true rfl) dX0_allSeenIsSo_45 ⟨Nat.le_of_ble_eq_true rfl, Nat.le_of_ble_eq_true rfl⟩) rfl rfl rfl (by decide) rfl rfl (fun H locs S => ?_)
          refine lv_pop hx hb dX0_allSeenIsSo_48 rfl ?_
          obtain ⟨z10, e11⟩ : ∃ q : Int32, q = x3 + (1 : Int32) := ⟨_, rfl⟩
          have hF := zs_letS hF e11
          refine lv_iinc (v := z10) (lv' := [(3, .int z10), (0, .ref (aAh 0)), (1, .ref (aSg 0)), (2, .int x2)]) hx hb dX0_allSeenIsSo_49 hl (k := 3) rfl (by rw [e11]; rfl) (by decide) rfl (fun ls hl => ?_)
          refine lv_goto (tgt := 18) hx hb dX0_allSeenIsSo_52 (by decide) ?_
          exact ih18 Tnw8 x2 z10 _ _ _ S (lv_sub hl [1, 2, 3, 0] rfl) hF
        · have hF := zs_t hF c6
          refine lv_iconst (v := (0 : Int32)) hx hb dX0_allSeenIsSo_35 (by decide) ?_
          obtain ⟨e12, e13⟩ := zs_s2 hF
          exact zs_zretE C S rfl e12 (by rw [e13]) dX0_allSeenIsSo_36
  refine lv_aload_n hx hb dX0_allSeenIsSo_0 rfl (lv_at hl 0 rfl) ?_
  refine zs_get C hK S 0 0 (Cn := RX0) (T := TX0) (N := 3) (ci := 0) rfl rfl (by decide) zn_X0_allSeenIsSo_X0 (List.mem_of_getElem? (i := 1) rfl) rfl dX0_allSeenIsSo_1 ?_
  refine lv_aload_n hx hb dX0_allSeenIsSo_4 rfl (lv_at hl 0 rfl) ?_
  refine zs_get C hK S 0 1 (Cn := RX0) (T := TX0) (N := 3) (ci := 0) rfl rfl (by decide) zn_X0_allSeenIsSo_X0 (List.mem_of_getElem? (i := 2) rfl) rfl dX0_allSeenIsSo_5 ?_
  obtain ⟨Tnw14, f15, hF⟩ := zs_bdS hF
  refine zs_callv (wr := wX0 G aAh aTn aYi Ah ++ wX3 G aSg Sg) (ws' := wX0 G aAh aTn aYi Ah ++ wX1 G aTn Tnw14 ++ wX6 G aYi Yi ++ wX3 G aSg Sg) S hA [2, 3, 4, 5, 6, 7, 8, 9, 10, 11, 12, 13] [0, 1, 14, 15, 16, 17] [0, 1, 6, 7, 8, 9, 10, 11, 12, 13, 14, 15, 16, 17, 2, 3, 4, 5] (zs_runV C hK hA S [.ref (aYi 0)] [] [2, 3, 4, 5, 6, 7, 8, 9, 10, 11, 12, 13] 2 1 (c_X1_begin l G aTn aYi Tn Yi s.heap.size Tnw14 f15) gX0_allSeenIsSo_X1_begin rfl rfl rfl zd_X1_begin ⟨Nat.le_of_ble_eq_true rfl, Nat.le_of_ble_eq_true rfl⟩ rfl rfl rfl rfl rfl hl rfl (Nat.le_of_ble_eq_true rfl) dX0_allSeenIsSo_8 ⟨Nat.le_of_ble_eq_true rfl, Nat.le_of_ble_eq_true rfl⟩) rfl rfl rfl (by decide) rfl rfl (fun H locs S => ?_)
  refine lv_aload_n hx hb dX0_allSeenIsSo_11 rfl (lv_at hl 1 rfl) ?_
  obtain ⟨r16, f17, hF⟩ := zs_bdS hF
  refine zs_calli (wr := wX0 G aAh aTn aYi Ah ++ wX1 G aTn Tnw14 ++ wX6 G aYi Yi) (ws' := wX0 G aAh aTn aYi Ah ++ wX1 G aTn Tnw14 ++ wX6 G aYi Yi ++ wX3 G aSg Sg) S hA [14, 15, 16, 17] [0, 1, 2, 3, 4, 5, 6, 7, 8, 9, 10, 11, 12, 13] [0, 1, 2, 3, 4, 5, 6, 7, 8, 9, 10, 11, 12, 13, 14, 15, 16, 17] (zs_runV C hK hA S [] [] [14, 15, 16, 17] 14 0 (c_X3_latest l G aSg Sg H.size r16 f17) gX0_allSeenIsSo_X3_latest rfl rfl rfl zd_X3_latest ⟨Nat.le_of_ble_eq_true rfl, Nat.le_of_ble_eq_true rfl⟩ rfl rfl rfl rfl rfl hl rfl (Nat.le_of_ble_eq_true rfl) dX0_allSeenIsSo_12 ⟨Nat.le_of_ble_eq_true rfl, Nat.le_of_ble_eq_true rfl⟩) rfl rfl rfl (by decide) rfl rfl (fun H locs S => ?_)
  refine lv_istore_n (lv' := [(2, .int r16), (0, .ref (aAh 0)), (1, .ref (aSg 0))]) hx hb dX0_allSeenIsSo_15 rfl hl (by decide) rfl (fun ls hl => ?_)
  refine lv_iconst (v := (0 : Int32)) hx hb dX0_allSeenIsSo_16 (by decide) ?_
  refine lv_istore_n (lv' := [(3, .int (0 : Int32)), (2, .int r16), (0, .ref (aAh 0)), (1, .ref (aSg 0))]) hx hb dX0_allSeenIsSo_17 rfl hl (by decide) rfl (fun ls hl => ?_)
  exact j18 1000 Tnw14 r16 (0 : Int32) _ _ _ S (lv_sub hl [2, 3, 1, 0] rfl) hF

