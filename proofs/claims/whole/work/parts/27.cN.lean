theorem zd_X8_isWall : yX8_isWall.cls = RX8 ∧ yX8_isWall.cls ≠ "java/lang/invoke/MethodHandle" ∧ yX8_isWall.cls ≠ "java/lang/invoke/VarHandle" ∧ (parseMethodDescriptor yX8_isWall.desc).map (fun d => d.parameters.length) = some 1 := by decide +kernel
abbrev RMX8_wall : Room := { frames := 2, cells := 0, slots := 0, locals := 46 }
theorem zn_X8_wall_X8 : ∀ w ∈ wsX80, w ∈ wsX8_wall := zs_inl wsX80 [21, 22, 23, 24, 25, 26, 27, 28, 29, 30, 31, 32, 33, 34, 35, 36, 37, 38, 39, 40, 41, 42, 43, 44, 45, 46, 47, 48, 49, 50, 51, 52, 53] (by decide +kernel)
set_option maxRecDepth 100000 in
set_option maxHeartbeats 4000000 in
theorem c_X8_wall (l : Launch) (G : GG) (aMd : Ad) (Md : Ob) (mt : Int64) (u1 : Int32) (u2 : Int32) (sz : Nat) (rr : Int32) (hF : F_X8_wall Md u1 u2 = some rr) : Met l yX8_wall wsX8_wall RMX8_wall (va_Pc [.ref (aMd 0), .int u1, .int u2] (zs_pre G (wX8 G aMd Md mt) sz)) (zs_Qi G (wX8 G aMd Md mt) rr (va_A (wX8 G aMd Md mt) sz)) 0 0 (va_A (wX8 G aMd Md mt) sz) := by
  refine zs_met (cc := cX8_wall) (maxL := 3) (ret := (some .int)) (own := RX8) (Qc := zs_Qi G (wX8 G aMd Md mt) rr) (by decide) rfl rfl (Nat.le_of_ble_eq_true rfl) ?_
  intro p e s m args below meth c C A hK hA S _ _ ls hl
  have hl : lv_has ls 3 [(0, .ref (aMd 0)), (1, .int u1), (2, .int u2)] := hl
  have hx := C.1.1
  have hb := C.1.2.1
  unfold F_X8_wall at hF
  refine lv_aload_n hx hb dX8_wall_0 rfl (lv_at hl 0 rfl) ?_
  refine lv_iload_n hx hb dX8_wall_1 rfl (lv_at hl 1 rfl) ?_
  obtain ⟨r1, f2, hF⟩ := zs_bdS hF
  refine zs_calli (wr := ([] : va_W)) (ws' := wX8 G aMd Md mt) S hA [0, 1, 2, 3, 4, 5, 6, 7, 8, 9, 10, 11, 12, 13, 14, 15, 16, 17] [] [0, 1, 2, 3, 4, 5, 6, 7, 8, 9, 10, 11, 12, 13, 14, 15, 16, 17] (zs_runV C hK hA S [.int u1] [] [0, 1, 2, 3, 4, 5, 6, 7, 8, 9, 10, 11, 12, 13, 14, 15, 16, 17] 0 1 (c_X8_isWall l G aMd Md mt u1 s.heap.size r1 f2) gX8_wall_X8_isWall rfl rfl rfl zd_X8_isWall ⟨Nat.le_of_ble_eq_true rfl, Nat.le_of_ble_eq_true rfl⟩ rfl rfl rfl rfl rfl hl rfl (Nat.le_of_ble_eq_true rfl) dX8_wall_2 ⟨Nat.le_of_ble_eq_true rfl, Nat.le_of_ble_eq_true rfl⟩) rfl rfl rfl (by decide) rfl rfl (fun H locs S => ?_)
  refine lv_if_ne (tgt := 10) hx hb dX8_wall_5 (by decide) (fun c3 => ?_) (fun c3 => ?_)
  · have hF := zs_f hF c3
    refine lv_iload_n hx hb dX8_wall_10 rfl (lv_at hl 2 rfl) ?_
    by_cases c4 : u2 = (0 : Int32)
    · have hF := zs_t hF c4
      refine lv_tableIn (off := 41) (tgt := 52) hx hb dX8_wall_11 (by rw [c4]; decide) (by rw [c4]; decide) (by rw [c4]; rfl) (by decide) ?_
      refine lv_aload_n hx hb dX8_wall_52 rfl (lv_at hl 0 rfl) ?_
      refine zs_get C hK S 0 17 (Cn := RX8) (T := TX8) (N := 33) (ci := 8) rfl rfl (by decide) zn_X8_wall_X8 (List.mem_of_getElem? (i := 1) rfl) rfl dX8_wall_53 ?_
      refine lv_iload_n hx hb dX8_wall_56 rfl (lv_at hl 1 rfl) ?_
      obtain ⟨h5, hF⟩ := zs_ckS hF
      refine zs_iald C hK S 9 rfl h5 dX8_wall_57 ?_
      have e6 := zs_s1 hF
      exact zs_iretE C S e6 rfl dX8_wall_58
    · have hF := zs_f hF c4
      by_cases c7 : u2 = (1 : Int32)
      · have hF := zs_t hF c7
        refine lv_tableIn (off := 48) (tgt := 59) hx hb dX8_wall_11 (by rw [c7]; decide) (by rw [c7]; decide) (by rw [c7]; rfl) (by decide) ?_
        refine lv_aload_n hx hb dX8_wall_59 rfl (lv_at hl 0 rfl) ?_
        refine zs_get C hK S 0 13 (Cn := RX8) (T := TX8) (N := 33) (ci := 8) rfl rfl (by decide) zn_X8_wall_X8 (List.mem_of_getElem? (i := 2) rfl) rfl dX8_wall_60 ?_
        refine lv_iload_n hx hb dX8_wall_63 rfl (lv_at hl 1 rfl) ?_
        obtain ⟨h8, hF⟩ := zs_ckS hF
        refine zs_iald C hK S 5 rfl h8 dX8_wall_64 ?_
        have e9 := zs_s1 hF
        exact zs_iretE C S e9 rfl dX8_wall_65
      · have hF := zs_f hF c7
        by_cases c10 : u2 = (2 : Int32)
        · have hF := zs_t hF c10
          refine lv_tableIn (off := 55) (tgt := 66) hx hb dX8_wall_11 (by rw [c10]; decide) (by rw [c10]; decide) (by rw [c10]; rfl) (by decide) ?_
          refine lv_aload_n hx hb dX8_wall_66 rfl (lv_at hl 0 rfl) ?_
          refine zs_get C hK S 0 14 (Cn := RX8) (T := TX8) (N := 33) (ci := 8) rfl rfl (by decide) zn_X8_wall_X8 (List.mem_of_getElem? (i := 3) rfl) rfl dX8_wall_67 ?_
          refine lv_iload_n hx hb dX8_wall_70 rfl (lv_at hl 1 rfl) ?_
          obtain ⟨h11, hF⟩ := zs_ckS hF
          refine zs_iald C hK S 6 rfl h11 dX8_wall_71 ?_
          have e12 := zs_s1 hF
          exact zs_iretE C S e12 rfl dX8_wall_72
        · have hF := zs_f hF c10
          by_cases c13 : u2 = (3 : Int32)
          · have hF := zs_t hF c13
            refine lv_tableIn (off := 62) (tgt := 73) hx hb dX8_wall_11 (by rw [c13]; decide) (by rw [c13]; decide) (by rw [c13]; rfl) (by decide) ?_
            refine lv_aload_n hx hb dX8_wall_73 rfl (lv_at hl 0 rfl) ?_
            refine zs_get C hK S 0 15 (Cn := RX8) (T := TX8) (N := 33) (ci := 8) rfl rfl (by decide) zn_X8_wall_X8 (List.mem_of_getElem? (i := 4) rfl) rfl dX8_wall_74 ?_
            refine lv_iload_n hx hb dX8_wall_77 rfl (lv_at hl 1 rfl) ?_
            obtain ⟨h14, hF⟩ := zs_ckS hF
            refine zs_iald C hK S 7 rfl h14 dX8_wall_78 ?_
            have e15 := zs_s1 hF
            exact zs_iretE C S e15 rfl dX8_wall_79
          · have hF := zs_f hF c13
            by_cases c16 : u2 = (4 : Int32)
            · have hF := zs_t hF c16
              refine lv_tableIn (off := 69) (tgt := 80) hx hb dX8_wall_11 (by rw [c16]; decide) (by rw [c16]; decide) (by rw [c16]; rfl) (by decide) ?_
              refine lv_bipush (v := (10 : Int32)) hx hb dX8_wall_80 (by decide) ?_
              refine lv_aload_n hx hb dX8_wall_82 rfl (lv_at hl 0 rfl) ?_
              refine lv_aload_n hx hb dX8_wall_83 rfl (lv_at hl 0 rfl) ?_
              refine zs_get C hK S 0 16 (Cn := RX8) (T := TX8) (N := 33) (ci := 8) rfl rfl (by decide) zn_X8_wall_X8 (List.mem_of_getElem? (i := 5) rfl) rfl dX8_wall_84 ?_
              refine lv_iload_n hx hb dX8_wall_87 rfl (lv_at hl 1 rfl) ?_
              obtain ⟨r17, f18, hF⟩ := zs_bdS hF
              refine zs_calli (wr := ([] : va_W)) (ws' := wX8 G aMd Md mt) S hA [0, 1, 2, 3, 4, 5, 6, 7, 8, 9, 10, 11, 12, 13, 14, 15, 16, 17] [] [0, 1, 2, 3, 4, 5, 6, 7, 8, 9, 10, 11, 12, 13, 14, 15, 16, 17] (zs_runV C hK hA S [.ref (aMd 8), .int u1] [.int (10 : Int32)] [0, 1, 2, 3, 4, 5, 6, 7, 8, 9, 10, 11, 12, 13, 14, 15, 16, 17] 0 2 (c_X8_seen_parts l G aMd Md mt u1 H.size r17 f18) gX8_wall_X8_seen rfl rfl rfl zd_X8_seen ⟨Nat.le_of_ble_eq_true rfl, Nat.le_of_ble_eq_true rfl⟩ rfl rfl rfl rfl rfl hl rfl (Nat.le_of_ble_eq_true rfl) dX8_wall_88 ⟨Nat.le_of_ble_eq_true rfl, Nat.le_of_ble_eq_true rfl⟩) rfl rfl rfl (by decide) rfl rfl (fun H locs S => ?_)
              refine lv_isub hx hb dX8_wall_91 ?_
              have e19 := zs_s1 hF
              exact zs_iretE C S e19 rfl dX8_wall_92
            · have hF := zs_f hF c16
              by_cases c20 : u2 = (5 : Int32)
              · have hF := zs_t hF c20
                refine lv_tableIn (off := 82) (tgt := 93) hx hb dX8_wall_11 (by rw [c20]; decide) (by rw [c20]; decide) (by rw [c20]; rfl) (by decide) ?_
                refine lv_aload_n hx hb dX8_wall_93 rfl (lv_at hl 0 rfl) ?_
                refine zs_get C hK S 0 19 (Cn := RX8) (T := TX8) (N := 33) (ci := 8) rfl rfl (by decide) zn_X8_wall_X8 (List.mem_of_getElem? (i := 6) rfl) rfl dX8_wall_94 ?_
                refine lv_iload_n hx hb dX8_wall_97 rfl (lv_at hl 1 rfl) ?_
                refine lv_ishr hx hb dX8_wall_98 ?_
                refine lv_iconst (v := (1 : Int32)) hx hb dX8_wall_99 (by decide) ?_
                refine lv_iand hx hb dX8_wall_100 ?_
                have e21 := zs_s1 hF
                exact zs_iretE C S e21 rfl dX8_wall_101
              · have hF := zs_f hF c20
                by_cases c22 : u2 = (6 : Int32)
                · have hF := zs_t hF c22
                  refine lv_tableIn (off := 91) (tgt := 102) hx hb dX8_wall_11 (by rw [c22]; decide) (by rw [c22]; decide) (by rw [c22]; rfl) (by decide) ?_
                  refine lv_aload_n hx hb dX8_wall_102 rfl (lv_at hl 0 rfl) ?_
                  refine zs_get C hK S 0 20 (Cn := RX8) (T := TX8) (N := 33) (ci := 8) rfl rfl (by decide) zn_X8_wall_X8 (List.mem_of_getElem? (i := 7) rfl) rfl dX8_wall_103 ?_
                  refine lv_iload_n hx hb dX8_wall_106 rfl (lv_at hl 1 rfl) ?_
                  refine lv_ishr hx hb dX8_wall_107 ?_
                  refine lv_iconst (v := (1 : Int32)) hx hb dX8_wall_108 (by decide) ?_
                  refine lv_iand hx hb dX8_wall_109 ?_
                  have e23 := zs_s1 hF
                  exact zs_iretE C S e23 rfl dX8_wall_110
                · have hF := zs_f hF c22
                  refine lv_tableOut (tgt := 111) hx hb dX8_wall_11 (zs_sw7 c4 c7 c10 c13 c16 c20 c22) (by decide) ?_
                  refine lv_iconst (v := (-1 : Int32)) hx hb dX8_wall_111 (by decide) ?_
                  have e24 := zs_s1 hF
                  exact zs_iretE C S e24 rfl dX8_wall_112
  · have hF := zs_t hF c3
    refine lv_iconst (v := (-1 : Int32)) hx hb dX8_wall_8 (by decide) ?_
    have e25 := zs_s1 hF
    exact zs_iretE C S e25 rfl dX8_wall_9

abbrev RMX8_sees : Room := { frames := 2, cells := 0, slots := 0, locals := 46 }
theorem zn_X8_sees_X8 : ∀ w ∈ wsX80, w ∈ wsX8_sees := zs_inl wsX80 [11, 12, 13, 14, 15, 16, 17, 18, 19, 20, 21, 22, 23, 24, 25, 26, 27, 28, 29, 30, 31, 32, 33, 34, 35, 36, 37, 38, 39, 40, 41, 42, 43] (by decide +kernel)
set_option maxRecDepth 100000 in
set_option maxHeartbeats 4000000 in
theorem c_X8_sees (l : Launch) (G : GG) (aMd : Ad) (Md : Ob) (mt : Int64) (u1 : Int32) (u2 : Int32) (sz : Nat) (rr : Int32) (hF : F_X8_sees Md u1 u2 = some rr) : Met l yX8_sees wsX8_sees RMX8_sees (va_Pc [.ref (aMd 0), .int u1, .int u2] (zs_pre G (wX8 G aMd Md mt) sz)) (zs_Qi G (wX8 G aMd Md mt) rr (va_A (wX8 G aMd Md mt) sz)) 0 0 (va_A (wX8 G aMd Md mt) sz) := by
  refine zs_met (cc := cX8_sees) (maxL := 3) (ret := (some .int)) (own := RX8) (Qc := zs_Qi G (wX8 G aMd Md mt) rr) (by decide) rfl rfl (Nat.le_of_ble_eq_true rfl) ?_
  intro p e s m args below meth c C A hK hA S _ _ ls hl
  have hl : lv_has ls 3 [(0, .ref (aMd 0)), (1, .int u1), (2, .int u2)] := hl
  have hx := C.1.1
  have hb := C.1.2.1
  unfold F_X8_sees at hF
  refine lv_aload_n hx hb dX8_sees_0 rfl (lv_at hl 0 rfl) ?_
  refine lv_iload_n hx hb dX8_sees_1 rfl (lv_at hl 1 rfl) ?_
  obtain ⟨r1, f2, hF⟩ := zs_bdS hF
  refine zs_calli (wr := ([] : va_W)) (ws' := wX8 G aMd Md mt) S hA [0, 1, 2, 3, 4, 5, 6, 7, 8, 9, 10, 11, 12, 13, 14, 15, 16, 17] [] [0, 1, 2, 3, 4, 5, 6, 7, 8, 9, 10, 11, 12, 13, 14, 15, 16, 17] (zs_runV C hK hA S [.int u1] [] [0, 1, 2, 3, 4, 5, 6, 7, 8, 9, 10, 11, 12, 13, 14, 15, 16, 17] 0 1 (c_X8_isWall l G aMd Md mt u1 s.heap.size r1 f2) gX8_sees_X8_isWall rfl rfl rfl zd_X8_isWall ⟨Nat.le_of_ble_eq_true rfl, Nat.le_of_ble_eq_true rfl⟩ rfl rfl rfl rfl rfl hl rfl (Nat.le_of_ble_eq_true rfl) dX8_sees_2 ⟨Nat.le_of_ble_eq_true rfl, Nat.le_of_ble_eq_true rfl⟩) rfl rfl rfl (by decide) rfl rfl (fun H locs S => ?_)
  refine lv_if_eq (tgt := 35) hx hb dX8_sees_5 (by decide) (fun c3 => ?_) (fun c3 => ?_)
  · have hF := zs_t hF c3
    refine lv_iconst (v := (-1 : Int32)) hx hb dX8_sees_35 (by decide) ?_
    have e4 := zs_s1 hF
    exact zs_iretE C S e4 rfl dX8_sees_36
  · have hF := zs_f hF c3
    refine lv_aload_n hx hb dX8_sees_8 rfl (lv_at hl 0 rfl) ?_
    refine lv_iload_n hx hb dX8_sees_9 rfl (lv_at hl 2 rfl) ?_
    obtain ⟨r5, f6, hF⟩ := zs_bdS hF
    refine zs_calli (wr := ([] : va_W)) (ws' := wX8 G aMd Md mt) S hA [0, 1, 2, 3, 4, 5, 6, 7, 8, 9, 10, 11, 12, 13, 14, 15, 16, 17] [] [0, 1, 2, 3, 4, 5, 6, 7, 8, 9, 10, 11, 12, 13, 14, 15, 16, 17] (zs_runV C hK hA S [.int u2] [] [0, 1, 2, 3, 4, 5, 6, 7, 8, 9, 10, 11, 12, 13, 14, 15, 16, 17] 0 1 (c_X8_isWall l G aMd Md mt u2 H.size r5 f6) gX8_sees_X8_isWall rfl rfl rfl zd_X8_isWall ⟨Nat.le_of_ble_eq_true rfl, Nat.le_of_ble_eq_true rfl⟩ rfl rfl rfl rfl rfl hl rfl (Nat.le_of_ble_eq_true rfl) dX8_sees_10 ⟨Nat.le_of_ble_eq_true rfl, Nat.le_of_ble_eq_true rfl⟩) rfl rfl rfl (by decide) rfl rfl (fun H locs S => ?_)
    refine lv_if_eq (tgt := 35) hx hb dX8_sees_13 (by decide) (fun c7 => ?_) (fun c7 => ?_)
    · have hF := zs_t hF c7
      refine lv_iconst (v := (-1 : Int32)) hx hb dX8_sees_35 (by decide) ?_
      have e8 := zs_s1 hF
      exact zs_iretE C S e8 rfl dX8_sees_36
    · have hF := zs_f hF c7
      refine lv_iload_n hx hb dX8_sees_16 rfl (lv_at hl 1 rfl) ?_
      refine lv_iload_n hx hb dX8_sees_17 rfl (lv_at hl 2 rfl) ?_
      refine lv_icmp_eq (tgt := 35) hx hb dX8_sees_18 (by decide) (fun c9 => ?_) (fun c9 => ?_)
      · have hF := zs_t hF c9
        refine lv_iconst (v := (-1 : Int32)) hx hb dX8_sees_35 (by decide) ?_
        have e10 := zs_s1 hF
        exact zs_iretE C S e10 rfl dX8_sees_36
      · have hF := zs_f hF c9
        refine lv_aload_n hx hb dX8_sees_21 rfl (lv_at hl 0 rfl) ?_
        refine zs_get C hK S 0 16 (Cn := RX8) (T := TX8) (N := 33) (ci := 8) rfl rfl (by decide) zn_X8_sees_X8 (List.mem_of_getElem? (i := 1) rfl) rfl dX8_sees_22 ?_
        refine lv_bipush (v := (6 : Int32)) hx hb dX8_sees_25 (by decide) ?_
        refine lv_iload_n hx hb dX8_sees_27 rfl (lv_at hl 1 rfl) ?_
        refine lv_imul hx hb dX8_sees_28 ?_
        refine lv_iload_n hx hb dX8_sees_29 rfl (lv_at hl 2 rfl) ?_
        refine lv_iadd hx hb dX8_sees_30 ?_
        obtain ⟨h11, hF⟩ := zs_ckS hF
        refine zs_iald C hK S 8 rfl h11 dX8_sees_31 ?_
        refine lv_goto (tgt := 36) hx hb dX8_sees_32 (by decide) ?_
        have e12 := zs_s1 hF
        exact zs_iretE C S e12 rfl dX8_sees_36

abbrev RMX8_goes_warm : Room := { frames := 0, cells := 0, slots := 0, locals := 0 }
theorem zn_X8_goes_X8 : ∀ w ∈ wsX80, w ∈ wsX8_goes := zs_inl wsX80 [7, 8, 9, 10, 11, 12, 13, 14, 15, 16, 17, 18, 19, 20, 21, 22, 23, 24, 25, 26, 27, 28, 29, 30, 31, 32, 33, 34, 35, 36, 37, 38, 39] (by decide +kernel)
set_option maxRecDepth 100000 in
set_option maxHeartbeats 4000000 in
theorem c_X8_goes_warm (l : Launch) (G : GG) (aMd : Ad) (Md : Ob) (mt : Int64) (u2 : Int32) (u3 : Int32) (u4 : Int32) (sz : Nat) (rr : Int32) (Md_ : Ob) (hF : F_X8_goes_warm Md u2 u3 u4 = some (rr, Md_)) : Met l yX8_goes wsX8_goes RMX8_goes_warm (va_Pc [.ref (aMd 0), .ref (aMd 9), .int u2, .int u3, .int u4] (zs_pre G (wX8 G aMd Md mt) sz)) (zs_Qi G (wX8 G aMd Md_ mt) rr (va_A (wX8 G aMd Md mt) sz)) 0 0 (va_A (wX8 G aMd Md mt) sz) := by
  refine zs_met (cc := cX8_goes) (maxL := 13) (ret := (some .int)) (own := RX8) (Qc := zs_Qi G (wX8 G aMd Md_ mt) rr) (by decide) rfl rfl (Nat.le_of_ble_eq_true rfl) ?_
  intro p e s m args below meth c C A hK hA S _ _ ls hl
  have hl : lv_has ls 13 [(0, .ref (aMd 0)), (1, .ref (aMd 9)), (2, .int u2), (3, .int u3), (4, .int u4)] := hl
  have hx := C.1.1
  have hb := C.1.2.1
  unfold F_X8_goes_warm at hF
  have j262 : ∀ (n262 : Nat) (Md : Ob) (x5 : Int32) (x6 : Int32) (H : Heap) (locs : List Loc) (ls : Array Slot), zs_S G A s.heap H locs (wX8 G aMd Md mt) → lv_has ls 13 [(0, .ref (aMd 0)), (1, .ref (aMd 9)), (5, .int x5), (6, .int x6)] → F_X8_goes_warm_262 n262 Md x5 x6 = some (rr, Md_) → W p l e RMX8_goes_warm s m args below meth c H locs 0 0 (MQ below (zs_Qi G (wX8 G aMd Md_ mt) rr A) args s 0 0 A) (F0 m 262 ls []) := by
    intro n262
    induction n262 with
    | zero => intro Md x5 x6 H locs ls _ _ hF; rw [F_X8_goes_warm_262_z] at hF; cases hF
    | succ n262 ih262 =>
      intro Md x5 x6 H locs ls S hl hF
      rw [F_X8_goes_warm_262_n] at hF
      unfold F_X8_goes_warm_262_s at hF
      refine lv_iload hx hb dX8_goes_262 (lv_at hl 3 rfl) ?_
      refine lv_aload_n hx hb dX8_goes_264 rfl (lv_at hl 0 rfl) ?_
      refine zs_get C hK S 0 10 (Cn := RX8) (T := TX8) (N := 33) (ci := 8) rfl rfl (by decide) zn_X8_goes_X8 (List.mem_of_getElem? (i := 1) rfl) rfl dX8_goes_265 ?_
      refine lv_icmp_ge (tgt := 288) hx hb dX8_goes_268 (by decide) (fun c1 => ?_) (fun c1 => ?_)
      · have hF := zs_t hF c1
        refine lv_iload hx hb dX8_goes_288 (lv_at hl 2 rfl) ?_
        obtain ⟨e2, e3⟩ := zs_s2 hF
        exact zs_iretE C S e2 (by rw [e3]) dX8_goes_290
      · have hF := zs_f hF c1
        refine lv_aload_n hx hb dX8_goes_271 rfl (lv_at hl 1 rfl) ?_
        refine lv_iload hx hb dX8_goes_272 (lv_at hl 3 rfl) ?_
        refine lv_aload_n hx hb dX8_goes_274 rfl (lv_at hl 0 rfl) ?_
        refine zs_get C hK S 0 22 (Cn := RX8) (T := TX8) (N := 33) (ci := 8) rfl rfl (by decide) zn_X8_goes_X8 (List.mem_of_getElem? (i := 2) rfl) rfl dX8_goes_275 ?_
        refine lv_iload hx hb dX8_goes_278 (lv_at hl 3 rfl) ?_
        obtain ⟨h4, hF⟩ := zs_ckS hF
        refine zs_iald C hK S 10 rfl h4 dX8_goes_280 ?_
        obtain ⟨h5, hF⟩ := zs_ckS hF
        obtain ⟨Mdw6, e7⟩ : ∃ q : Ob, q = zs_up Md 9 (x6).toNatClampNeg (Md 10 (x6).toNatClampNeg) := ⟨_, rfl⟩
        have hF := zs_letS hF e7
        refine zs_iast C hK S 9 (ws' := wX8 G aMd Mdw6 mt) rfl h5 (by rw [e7]; rfl) dX8_goes_281 (fun H locs S => ?_)
        obtain ⟨z8, e9⟩ : ∃ q : Int32, q = x6 + (1 : Int32) := ⟨_, rfl⟩
        have hF := zs_letS hF e9
        refine lv_iinc (v := z8) (lv' := [(6, .int z8), (0, .ref (aMd 0)), (1, .ref (aMd 9)), (5, .int x5)]) hx hb dX8_goes_282 hl (k := 3) rfl (by rw [e9]; rfl) (by decide) rfl (fun ls hl => ?_)
        refine lv_goto (tgt := 262) hx hb dX8_goes_285 (by decide) ?_
        exact ih262 Mdw6 x5 z8 _ _ _ S (lv_sub hl [1, 2, 3, 0] rfl) hF
  have j259 : ∀ (Md : Ob) (x5 : Int32) (H : Heap) (locs : List Loc) (ls : Array Slot), zs_S G A s.heap H locs (wX8 G aMd Md mt) → lv_has ls 13 [(0, .ref (aMd 0)), (1, .ref (aMd 9)), (5, .int x5)] → F_X8_goes_warm_259 Md x5 = some (rr, Md_) → W p l e RMX8_goes_warm s m args below meth c H locs 0 0 (MQ below (zs_Qi G (wX8 G aMd Md_ mt) rr A) args s 0 0 A) (F0 m 259 ls []) := by
    intro Md x5 H locs ls S hl hF
    unfold F_X8_goes_warm_259 at hF
    refine lv_iconst (v := (0 : Int32)) hx hb dX8_goes_259 (by decide) ?_
    refine lv_istore (lv' := [(6, .int (0 : Int32)), (0, .ref (aMd 0)), (1, .ref (aMd 9)), (5, .int x5)]) hx hb dX8_goes_260 hl (by decide) rfl (fun ls hl => ?_)
    exact j262 1000 Md x5 (0 : Int32) _ _ _ S (lv_sub hl [1, 2, 3, 0] rfl) hF
  have j65 : ∀ (n65 : Nat) (Md : Ob) (x3 : Int32) (x4 : Int32) (x5 : Int32) (x6 : Int32) (H : Heap) (locs : List Loc) (ls : Array Slot), zs_S G A s.heap H locs (wX8 G aMd Md mt) → lv_has ls 13 [(0, .ref (aMd 0)), (1, .ref (aMd 9)), (3, .int x3), (4, .int x4), (5, .int x5), (6, .int x6)] → F_X8_goes_warm_65 n65 Md x3 x4 x5 x6 = some (rr, Md_) → W p l e RMX8_goes_warm s m args below meth c H locs 0 0 (MQ below (zs_Qi G (wX8 G aMd Md_ mt) rr A) args s 0 0 A) (F0 m 65 ls []) := by
    intro n65
    induction n65 with
    | zero => intro Md x3 x4 x5 x6 H locs ls _ _ hF; rw [F_X8_goes_warm_65_z] at hF; cases hF
    | succ n65 ih65 =>
      have j234 : ∀ (Md : Ob) (x3 : Int32) (x4 : Int32) (x5 : Int32) (x6 : Int32) (x7 : Int32) (x8 : Int32) (H : Heap) (locs : List Loc) (ls : Array Slot), zs_S G A s.heap H locs (wX8 G aMd Md mt) → lv_has ls 13 [(0, .ref (aMd 0)), (1, .ref (aMd 9)), (3, .int x3), (4, .int x4), (5, .int x5), (6, .int x6), (7, .int x7), (8, .int x8)] → F_X8_goes_warm_234 (F_X8_goes_warm_65 n65) Md x3 x4 x5 x6 x7 x8 = some (rr, Md_) → W p l e RMX8_goes_warm s m args below meth c H locs 0 0 (MQ below (zs_Qi G (wX8 G aMd Md_ mt) rr A) args s 0 0 A) (F0 m 234 ls []) := by
        intro Md x3 x4 x5 x6 x7 x8 H locs ls S hl hF
        unfold F_X8_goes_warm_234 at hF
        refine lv_aload_n hx hb dX8_goes_234 rfl (lv_at hl 0 rfl) ?_
        refine zs_get C hK S 0 22 (Cn := RX8) (T := TX8) (N := 33) (ci := 8) rfl rfl (by decide) zn_X8_goes_X8 (List.mem_of_getElem? (i := 2) rfl) rfl dX8_goes_235 ?_
        refine lv_iload hx hb dX8_goes_238 (lv_at hl 5 rfl) ?_
        refine lv_dup2_11 hx hb dX8_goes_240 rfl rfl ?_
        obtain ⟨h10, hF⟩ := zs_ckS hF
        refine zs_iald C hK S 10 rfl h10 dX8_goes_241 ?_
        refine lv_iload hx hb dX8_goes_242 (lv_at hl 6 rfl) ?_
        refine lv_isub hx hb dX8_goes_244 ?_
        obtain ⟨h11, hF⟩ := zs_ckS hF
        obtain ⟨Mdw12, e13⟩ : ∃ q : Ob, q = zs_up Md 10 (x6).toNatClampNeg ((Md 10 (x6).toNatClampNeg) - x7) := ⟨_, rfl⟩
        have hF := zs_letS hF e13
        refine zs_iast C hK S 10 (ws' := wX8 G aMd Mdw12 mt) rfl h11 (by rw [e13]; rfl) dX8_goes_245 (fun H locs S => ?_)
        refine lv_iload hx hb dX8_goes_246 (lv_at hl 4 rfl) ?_
        refine lv_iload hx hb dX8_goes_248 (lv_at hl 7 rfl) ?_
        refine lv_iadd hx hb dX8_goes_250 ?_
        refine lv_topi (fun z14 e15 => ?_)
        have hF := zs_letS hF e15
        refine lv_istore (lv' := [(5, .int z14), (0, .ref (aMd 0)), (1, .ref (aMd 9)), (3, .int x3), (4, .int x4), (6, .int x6), (7, .int x7), (8, .int x8)]) hx hb dX8_goes_251 hl (by decide) rfl (fun ls hl => ?_)
        obtain ⟨z16, e17⟩ : ∃ q : Int32, q = x6 + (1 : Int32) := ⟨_, rfl⟩
        have hF := zs_letS hF e17
        refine lv_iinc (v := z16) (lv' := [(6, .int z16), (5, .int z14), (0, .ref (aMd 0)), (1, .ref (aMd 9)), (3, .int x3), (4, .int x4), (7, .int x7), (8, .int x8)]) hx hb dX8_goes_253 hl (k := 5) rfl (by rw [e17]; rfl) (by decide) rfl (fun ls hl => ?_)
        refine lv_goto (tgt := 65) hx hb dX8_goes_256 (by decide) ?_
        exact ih65 Mdw12 x3 x4 z14 z16 _ _ _ S (lv_sub hl [2, 3, 4, 5, 1, 0] rfl) hF
      have j112 : ∀ (n112 : Nat) (Md : Ob) (x3 : Int32) (x4 : Int32) (x5 : Int32) (x6 : Int32) (x7 : Int32) (x8 : Int32) (x9 : Int32) (H : Heap) (locs : List Loc) (ls : Array Slot), zs_S G A s.heap H locs (wX8 G aMd Md mt) → lv_has ls 13 [(0, .ref (aMd 0)), (1, .ref (aMd 9)), (3, .int x3), (4, .int x4), (5, .int x5), (6, .int x6), (7, .int x7), (8, .int x8), (9, .int x9)] → F_X8_goes_warm_112 (F_X8_goes_warm_65 n65) n112 Md x3 x4 x5 x6 x7 x8 x9 = some (rr, Md_) → W p l e RMX8_goes_warm s m args below meth c H locs 0 0 (MQ below (zs_Qi G (wX8 G aMd Md_ mt) rr A) args s 0 0 A) (F0 m 112 ls []) := by
        intro n112
        induction n112 with
        | zero => intro Md x3 x4 x5 x6 x7 x8 x9 H locs ls _ _ hF; rw [F_X8_goes_warm_112_z] at hF; cases hF
        | succ n112 ih112 =>
          have j225 : ∀ (Md : Ob) (x3 : Int32) (x4 : Int32) (x5 : Int32) (x6 : Int32) (x7 : Int32) (x9 : Int32) (y0 : Int32) (y1 : Int32) (H : Heap) (locs : List Loc) (ls : Array Slot), zs_S G A s.heap H locs (wX8 G aMd Md mt) → lv_has ls 13 [(0, .ref (aMd 0)), (1, .ref (aMd 9)), (3, .int x3), (4, .int x4), (5, .int x5), (6, .int x6), (7, .int x7), (9, .int x9)] → F_X8_goes_warm_225 (F_X8_goes_warm_65 n65) (F_X8_goes_warm_112 (F_X8_goes_warm_65 n65) n112) Md x3 x4 x5 x6 x7 x9 y0 y1 = some (rr, Md_) → W p l e RMX8_goes_warm s m args below meth c H locs 0 0 (MQ below (zs_Qi G (wX8 G aMd Md_ mt) rr A) args s 0 0 A) (F0 m 225 ls [.int y0, .int y1]) := by
            intro Md x3 x4 x5 x6 x7 x9 y0 y1 H locs ls S hl hF
            unfold F_X8_goes_warm_225 at hF
            refine lv_isub hx hb dX8_goes_225 ?_
            refine lv_topi (fun z18 e19 => ?_)
            have hF := zs_letS hF e19
            refine lv_istore (lv' := [(8, .int z18), (0, .ref (aMd 0)), (1, .ref (aMd 9)), (3, .int x3), (4, .int x4), (5, .int x5), (6, .int x6), (7, .int x7), (9, .int x9)]) hx hb dX8_goes_226 hl (by decide) rfl (fun ls hl => ?_)
            obtain ⟨z20, e21⟩ : ∃ q : Int32, q = x9 + (1 : Int32) := ⟨_, rfl⟩
            have hF := zs_letS hF e21
            refine lv_iinc (v := z20) (lv' := [(9, .int z20), (8, .int z18), (0, .ref (aMd 0)), (1, .ref (aMd 9)), (3, .int x3), (4, .int x4), (5, .int x5), (6, .int x6), (7, .int x7)]) hx hb dX8_goes_228 hl (k := 8) rfl (by rw [e21]; rfl) (by decide) rfl (fun ls hl => ?_)
            refine lv_goto (tgt := 112) hx hb dX8_goes_231 (by decide) ?_
            exact ih112 Md x3 x4 x5 x6 x7 z18 z20 _ _ _ S (lv_sub hl [2, 3, 4, 5, 6, 7, 8, 1, 0] rfl) hF
          have j210 : ∀ (Md : Ob) (x3 : Int32) (x4 : Int32) (x5 : Int32) (x6 : Int32) (x7 : Int32) (x8 : Int32) (x9 : Int32) (x10 : Int32) (x12 : Int32) (y0 : Int32) (y1 : Int32) (y2 : Int32) (H : Heap) (locs : List Loc) (ls : Array Slot), zs_S G A s.heap H locs (wX8 G aMd Md mt) → lv_has ls 13 [(0, .ref (aMd 0)), (1, .ref (aMd 9)), (3, .int x3), (4, .int x4), (5, .int x5), (6, .int x6), (7, .int x7), (8, .int x8), (9, .int x9), (10, .int x10), (12, .int x12)] → F_X8_goes_warm_210 (F_X8_goes_warm_65 n65) (F_X8_goes_warm_112 (F_X8_goes_warm_65 n65) n112) Md x3 x4 x5 x6 x7 x8 x9 x10 x12 y0 y1 y2 = some (rr, Md_) → W p l e RMX8_goes_warm s m args below meth c H locs 0 0 (MQ below (zs_Qi G (wX8 G aMd Md_ mt) rr A) args s 0 0 A) (F0 m 210 ls [.int y0, .int y1, .int y2, .ref (aMd 10)]) := by
            intro Md x3 x4 x5 x6 x7 x8 x9 x10 x12 y0 y1 y2 H locs ls S hl hF
            unfold F_X8_goes_warm_210 at hF
            refine lv_iadd hx hb dX8_goes_210 ?_
            obtain ⟨h22, hF⟩ := zs_ckS hF
            obtain ⟨Mdw23, e24⟩ : ∃ q : Ob, q = zs_up Md 10 (y2).toNatClampNeg (y1 + y0) := ⟨_, rfl⟩
            have hF := zs_letS hF e24
            refine zs_iast C hK S 10 (ws' := wX8 G aMd Mdw23 mt) rfl h22 (by rw [e24]; rfl) dX8_goes_211 (fun H locs S => ?_)
            refine lv_iload hx hb dX8_goes_212 (lv_at hl 7 rfl) ?_
            refine lv_iload hx hb dX8_goes_214 (lv_at hl 10 rfl) ?_
            refine lv_if_eq (tgt := 224) hx hb dX8_goes_216 (by decide) (fun c25 => ?_) (fun c25 => ?_)
            · have hF := zs_t hF c25
              refine lv_iconst (v := (0 : Int32)) hx hb dX8_goes_224 (by decide) ?_
              exact j225 Mdw23 x3 x4 x5 x6 x7 x9 (0 : Int32) x8 _ _ _ S (lv_sub hl [0, 1, 2, 3, 4, 5, 6, 8] rfl) hF
            · have hF := zs_f hF c25
              refine lv_iload hx hb dX8_goes_219 (lv_at hl 9 rfl) ?_
              refine lv_goto (tgt := 225) hx hb dX8_goes_221 (by decide) ?_
              exact j225 Mdw23 x3 x4 x5 x6 x7 x9 x10 x8 _ _ _ S (lv_sub hl [0, 1, 2, 3, 4, 5, 6, 8] rfl) hF
          have j197 : ∀ (Md : Ob) (x3 : Int32) (x4 : Int32) (x5 : Int32) (x6 : Int32) (x7 : Int32) (x8 : Int32) (x9 : Int32) (x10 : Int32) (x12 : Int32) (y0 : Int32) (H : Heap) (locs : List Loc) (ls : Array Slot), zs_S G A s.heap H locs (wX8 G aMd Md mt) → lv_has ls 13 [(0, .ref (aMd 0)), (1, .ref (aMd 9)), (3, .int x3), (4, .int x4), (5, .int x5), (6, .int x6), (7, .int x7), (8, .int x8), (9, .int x9), (10, .int x10), (12, .int x12)] → F_X8_goes_warm_197 (F_X8_goes_warm_65 n65) (F_X8_goes_warm_112 (F_X8_goes_warm_65 n65) n112) Md x3 x4 x5 x6 x7 x8 x9 x10 x12 y0 = some (rr, Md_) → W p l e RMX8_goes_warm s m args below meth c H locs 0 0 (MQ below (zs_Qi G (wX8 G aMd Md_ mt) rr A) args s 0 0 A) (F0 m 197 ls [.int y0, .ref (aMd 10)]) := by
            intro Md x3 x4 x5 x6 x7 x8 x9 x10 x12 y0 H locs ls S hl hF
            unfold F_X8_goes_warm_197 at hF
            refine lv_dup2_11 hx hb dX8_goes_197 rfl rfl ?_
            obtain ⟨h26, hF⟩ := zs_ckS hF
            refine zs_iald C hK S 10 rfl h26 dX8_goes_198 ?_
            refine lv_iload hx hb dX8_goes_199 (lv_at hl 10 rfl) ?_
            refine lv_if_eq (tgt := 209) hx hb dX8_goes_201 (by decide) (fun c27 => ?_) (fun c27 => ?_)
            · have hF := zs_t hF c27
              refine lv_iconst (v := (0 : Int32)) hx hb dX8_goes_209 (by decide) ?_
              exact j210 Md x3 x4 x5 x6 x7 x8 x9 x10 x12 (0 : Int32) (Md 10 (y0).toNatClampNeg) y0 _ _ _ S (lv_sub hl [0, 1, 2, 3, 4, 5, 6, 7, 8, 9, 10] rfl) hF
            · have hF := zs_f hF c27
              refine lv_iload hx hb dX8_goes_204 (lv_at hl 9 rfl) ?_
              refine lv_goto (tgt := 210) hx hb dX8_goes_206 (by decide) ?_
              exact j210 Md x3 x4 x5 x6 x7 x8 x9 x10 x12 x10 (Md 10 (y0).toNatClampNeg) y0 _ _ _ S (lv_sub hl [0, 1, 2, 3, 4, 5, 6, 7, 8, 9, 10] rfl) hF
          have j179 : ∀ (Md : Ob) (x3 : Int32) (x4 : Int32) (x5 : Int32) (x6 : Int32) (x7 : Int32) (x8 : Int32) (x9 : Int32) (x10 : Int32) (x11 : Int32) (y0 : Int32) (H : Heap) (locs : List Loc) (ls : Array Slot), zs_S G A s.heap H locs (wX8 G aMd Md mt) → lv_has ls 13 [(0, .ref (aMd 0)), (1, .ref (aMd 9)), (3, .int x3), (4, .int x4), (5, .int x5), (6, .int x6), (7, .int x7), (8, .int x8), (9, .int x9), (10, .int x10), (11, .int x11)] → F_X8_goes_warm_179 (F_X8_goes_warm_65 n65) (F_X8_goes_warm_112 (F_X8_goes_warm_65 n65) n112) Md x3 x4 x5 x6 x7 x8 x9 x10 x11 y0 = some (rr, Md_) → W p l e RMX8_goes_warm s m args below meth c H locs 0 0 (MQ below (zs_Qi G (wX8 G aMd Md_ mt) rr A) args s 0 0 A) (F0 m 179 ls [.int y0]) := by
            intro Md x3 x4 x5 x6 x7 x8 x9 x10 x11 y0 H locs ls S hl hF
            unfold F_X8_goes_warm_179 at hF
            refine lv_istore (lv' := [(12, .int y0), (0, .ref (aMd 0)), (1, .ref (aMd 9)), (3, .int x3), (4, .int x4), (5, .int x5), (6, .int x6), (7, .int x7), (8, .int x8), (9, .int x9), (10, .int x10), (11, .int x11)]) hx hb dX8_goes_179 hl (by decide) rfl (fun ls hl => ?_)
            refine lv_aload_n hx hb dX8_goes_181 rfl (lv_at hl 1 rfl) ?_
            refine zs_get C hK S 0 22 (Cn := RX8) (T := TX8) (N := 33) (ci := 8) rfl rfl (by decide) zn_X8_goes_X8 (List.mem_of_getElem? (i := 2) rfl) rfl dX8_goes_182 ?_
            refine lv_iload hx hb dX8_goes_185 (lv_at hl 11 rfl) ?_
            refine lv_if_eq (tgt := 195) hx hb dX8_goes_187 (by decide) (fun c28 => ?_) (fun c28 => ?_)
            · have hF := zs_t hF c28
              refine lv_iload hx hb dX8_goes_195 (lv_at hl 9 rfl) ?_
              exact j197 Md x3 x4 x5 x6 x7 x8 x9 x10 y0 x9 _ _ _ S (lv_sub hl [1, 2, 3, 4, 5, 6, 7, 8, 9, 10, 0] rfl) hF
            · have hF := zs_f hF c28
              refine lv_iload hx hb dX8_goes_190 (lv_at hl 6 rfl) ?_
              refine lv_goto (tgt := 197) hx hb dX8_goes_192 (by decide) ?_
              exact j197 Md x3 x4 x5 x6 x7 x8 x9 x10 y0 x6 _ _ _ S (lv_sub hl [1, 2, 3, 4, 5, 6, 7, 8, 9, 10, 0] rfl) hF
          have j174 : ∀ (Md : Ob) (x3 : Int32) (x4 : Int32) (x5 : Int32) (x6 : Int32) (x7 : Int32) (x8 : Int32) (x9 : Int32) (x10 : Int32) (x11 : Int32) (H : Heap) (locs : List Loc) (ls : Array Slot), zs_S G A s.heap H locs (wX8 G aMd Md mt) → lv_has ls 13 [(0, .ref (aMd 0)), (1, .ref (aMd 9)), (3, .int x3), (4, .int x4), (5, .int x5), (6, .int x6), (7, .int x7), (8, .int x8), (9, .int x9), (10, .int x10), (11, .int x11)] → F_X8_goes_warm_174 (F_X8_goes_warm_65 n65) (F_X8_goes_warm_112 (F_X8_goes_warm_65 n65) n112) Md x3 x4 x5 x6 x7 x8 x9 x10 x11 = some (rr, Md_) → W p l e RMX8_goes_warm s m args below meth c H locs 0 0 (MQ below (zs_Qi G (wX8 G aMd Md_ mt) rr A) args s 0 0 A) (F0 m 174 ls []) := by
            intro Md x3 x4 x5 x6 x7 x8 x9 x10 x11 H locs ls S hl hF
            unfold F_X8_goes_warm_174 at hF
            refine lv_iconst (v := (1 : Int32)) hx hb dX8_goes_174 (by decide) ?_
            refine lv_goto (tgt := 179) hx hb dX8_goes_175 (by decide) ?_
            exact j179 Md x3 x4 x5 x6 x7 x8 x9 x10 x11 (1 : Int32) _ _ _ S (lv_sub hl [0, 1, 2, 3, 4, 5, 6, 7, 8, 9, 10] rfl) hF
          have j158 : ∀ (Md : Ob) (x3 : Int32) (x4 : Int32) (x5 : Int32) (x6 : Int32) (x7 : Int32) (x8 : Int32) (x9 : Int32) (x10 : Int32) (y0 : Int32) (H : Heap) (locs : List Loc) (ls : Array Slot), zs_S G A s.heap H locs (wX8 G aMd Md mt) → lv_has ls 13 [(0, .ref (aMd 0)), (1, .ref (aMd 9)), (3, .int x3), (4, .int x4), (5, .int x5), (6, .int x6), (7, .int x7), (8, .int x8), (9, .int x9), (10, .int x10)] → F_X8_goes_warm_158 (F_X8_goes_warm_65 n65) (F_X8_goes_warm_112 (F_X8_goes_warm_65 n65) n112) Md x3 x4 x5 x6 x7 x8 x9 x10 y0 = some (rr, Md_) → W p l e RMX8_goes_warm s m args below meth c H locs 0 0 (MQ below (zs_Qi G (wX8 G aMd Md_ mt) rr A) args s 0 0 A) (F0 m 158 ls [.int y0]) := by
            intro Md x3 x4 x5 x6 x7 x8 x9 x10 y0 H locs ls S hl hF
            unfold F_X8_goes_warm_158 at hF
            refine lv_istore (lv' := [(11, .int y0), (0, .ref (aMd 0)), (1, .ref (aMd 9)), (3, .int x3), (4, .int x4), (5, .int x5), (6, .int x6), (7, .int x7), (8, .int x8), (9, .int x9), (10, .int x10)]) hx hb dX8_goes_158 hl (by decide) rfl (fun ls hl => ?_)
            refine lv_iload hx hb dX8_goes_160 (lv_at hl 0 rfl) ?_
            refine lv_if_ne (tgt := 174) hx hb dX8_goes_162 (by decide) (fun c29 => ?_) (fun c29 => ?_)
            · have hF := zs_f hF c29
              exact j174 Md x3 x4 x5 x6 x7 x8 x9 x10 y0 _ _ _ S (lv_sub hl [1, 2, 3, 4, 5, 6, 7, 8, 9, 10, 0] rfl) hF
            · have hF := zs_t hF c29
              refine lv_iload_n hx hb dX8_goes_165 rfl (lv_at hl 3 rfl) ?_
              refine lv_iload hx hb dX8_goes_166 (lv_at hl 9 rfl) ?_
              refine lv_ishr hx hb dX8_goes_168 ?_
              refine lv_iconst (v := (1 : Int32)) hx hb dX8_goes_169 (by decide) ?_
              refine lv_iand hx hb dX8_goes_170 ?_
              refine lv_if_ne (tgt := 178) hx hb dX8_goes_171 (by decide) (fun c30 => ?_) (fun c30 => ?_)
              · have hF := zs_f hF c30
                refine lv_iconst (v := (0 : Int32)) hx hb dX8_goes_178 (by decide) ?_
                exact j179 Md x3 x4 x5 x6 x7 x8 x9 x10 y0 (0 : Int32) _ _ _ S (lv_sub hl [1, 2, 3, 4, 5, 6, 7, 8, 9, 10, 0] rfl) hF
              · have hF := zs_t hF c30
                exact j174 Md x3 x4 x5 x6 x7 x8 x9 x10 y0 _ _ _ S (lv_sub hl [1, 2, 3, 4, 5, 6, 7, 8, 9, 10, 0] rfl) hF
          intro Md x3 x4 x5 x6 x7 x8 x9 H locs ls S hl hF
          rw [F_X8_goes_warm_112_n] at hF
          unfold F_X8_goes_warm_112_s at hF
          refine lv_iload hx hb dX8_goes_112 (lv_at hl 8 rfl) ?_
          refine lv_aload_n hx hb dX8_goes_114 rfl (lv_at hl 0 rfl) ?_
          refine zs_get C hK S 0 10 (Cn := RX8) (T := TX8) (N := 33) (ci := 8) rfl rfl (by decide) zn_X8_goes_X8 (List.mem_of_getElem? (i := 1) rfl) rfl dX8_goes_115 ?_
          refine lv_icmp_ge (tgt := 234) hx hb dX8_goes_118 (by decide) (fun c31 => ?_) (fun c31 => ?_)
          · have hF := zs_t hF c31
            exact j234 Md x3 x4 x5 x6 x7 x8 _ _ _ S (lv_sub hl [0, 1, 2, 3, 4, 5, 6, 7] rfl) hF
          · have hF := zs_f hF c31
            refine lv_iload hx hb dX8_goes_121 (lv_at hl 6 rfl) ?_
            refine lv_aload_n hx hb dX8_goes_123 rfl (lv_at hl 0 rfl) ?_
            refine zs_get C hK S 0 16 (Cn := RX8) (T := TX8) (N := 33) (ci := 8) rfl rfl (by decide) zn_X8_goes_X8 (List.mem_of_getElem? (i := 6) rfl) rfl dX8_goes_124 ?_
            refine lv_bipush (v := (6 : Int32)) hx hb dX8_goes_127 (by decide) ?_
            refine lv_iload hx hb dX8_goes_129 (lv_at hl 5 rfl) ?_
            refine lv_imul hx hb dX8_goes_131 ?_
            refine lv_iload hx hb dX8_goes_132 (lv_at hl 8 rfl) ?_
            refine lv_iadd hx hb dX8_goes_134 ?_
            obtain ⟨h32, hF⟩ := zs_ckS hF
            refine zs_iald C hK S 8 rfl h32 dX8_goes_135 ?_
            refine lv_imul hx hb dX8_goes_136 ?_
            refine lv_bipush (v := (10 : Int32)) hx hb dX8_goes_137 (by decide) ?_
            refine lv_idiv hx hb dX8_goes_139 (by decide) ?_
            refine lv_topi (fun z33 e34 => ?_)
            have hF := zs_letS hF e34
            refine lv_istore (lv' := [(10, .int z33), (0, .ref (aMd 0)), (1, .ref (aMd 9)), (3, .int x3), (4, .int x4), (5, .int x5), (6, .int x6), (7, .int x7), (8, .int x8), (9, .int x9)]) hx hb dX8_goes_140 hl (by decide) rfl (fun ls hl => ?_)
            refine lv_iload hx hb dX8_goes_142 (lv_at hl 4 rfl) ?_
            refine lv_iload hx hb dX8_goes_144 (lv_at hl 9 rfl) ?_
            refine lv_ishr hx hb dX8_goes_146 ?_
            refine lv_iconst (v := (1 : Int32)) hx hb dX8_goes_147 (by decide) ?_
            refine lv_iand hx hb dX8_goes_148 ?_
            refine lv_iconst (v := (1 : Int32)) hx hb dX8_goes_149 (by decide) ?_
            refine lv_icmp_ne (tgt := 157) hx hb dX8_goes_150 (by decide) (fun c35 => ?_) (fun c35 => ?_)
            · have hF := zs_f hF c35
              refine lv_iconst (v := (0 : Int32)) hx hb dX8_goes_157 (by decide) ?_
              exact j158 Md x3 x4 x5 x6 x7 x8 x9 z33 (0 : Int32) _ _ _ S (lv_sub hl [1, 2, 3, 4, 5, 6, 7, 8, 9, 0] rfl) hF
            · have hF := zs_t hF c35
              refine lv_iconst (v := (1 : Int32)) hx hb dX8_goes_153 (by decide) ?_
              refine lv_goto (tgt := 158) hx hb dX8_goes_154 (by decide) ?_
              exact j158 Md x3 x4 x5 x6 x7 x8 x9 z33 (1 : Int32) _ _ _ S (lv_sub hl [1, 2, 3, 4, 5, 6, 7, 8, 9, 0] rfl) hF
      have j103 : ∀ (Md : Ob) (x3 : Int32) (x4 : Int32) (x5 : Int32) (x6 : Int32) (y0 : Int32) (H : Heap) (locs : List Loc) (ls : Array Slot), zs_S G A s.heap H locs (wX8 G aMd Md mt) → lv_has ls 13 [(0, .ref (aMd 0)), (1, .ref (aMd 9)), (3, .int x3), (4, .int x4), (5, .int x5), (6, .int x6)] → F_X8_goes_warm_103 (F_X8_goes_warm_65 n65) Md x3 x4 x5 x6 y0 = some (rr, Md_) → W p l e RMX8_goes_warm s m args below meth c H locs 0 0 (MQ below (zs_Qi G (wX8 G aMd Md_ mt) rr A) args s 0 0 A) (F0 m 103 ls [.int y0]) := by
        intro Md x3 x4 x5 x6 y0 H locs ls S hl hF
        unfold F_X8_goes_warm_103 at hF
        refine lv_istore (lv' := [(7, .int y0), (0, .ref (aMd 0)), (1, .ref (aMd 9)), (3, .int x3), (4, .int x4), (5, .int x5), (6, .int x6)]) hx hb dX8_goes_103 hl (by decide) rfl (fun ls hl => ?_)
        refine lv_iload hx hb dX8_goes_105 (lv_at hl 0 rfl) ?_
        refine lv_istore (lv' := [(8, .int y0), (7, .int y0), (0, .ref (aMd 0)), (1, .ref (aMd 9)), (3, .int x3), (4, .int x4), (5, .int x5), (6, .int x6)]) hx hb dX8_goes_107 hl (by decide) rfl (fun ls hl => ?_)
        refine lv_iconst (v := (0 : Int32)) hx hb dX8_goes_109 (by decide) ?_
        refine lv_istore (lv' := [(9, .int (0 : Int32)), (8, .int y0), (7, .int y0), (0, .ref (aMd 0)), (1, .ref (aMd 9)), (3, .int x3), (4, .int x4), (5, .int x5), (6, .int x6)]) hx hb dX8_goes_110 hl (by decide) rfl (fun ls hl => ?_)
        exact j112 1000 Md x3 x4 x5 x6 y0 y0 (0 : Int32) _ _ _ S (lv_sub hl [3, 4, 5, 6, 7, 8, 2, 1, 0] rfl) hF
      intro Md x3 x4 x5 x6 H locs ls S hl hF
      rw [F_X8_goes_warm_65_n] at hF
      unfold F_X8_goes_warm_65_s at hF
      refine lv_iload hx hb dX8_goes_65 (lv_at hl 5 rfl) ?_
      refine lv_aload_n hx hb dX8_goes_67 rfl (lv_at hl 0 rfl) ?_
      refine zs_get C hK S 0 10 (Cn := RX8) (T := TX8) (N := 33) (ci := 8) rfl rfl (by decide) zn_X8_goes_X8 (List.mem_of_getElem? (i := 1) rfl) rfl dX8_goes_68 ?_
      refine lv_icmp_ge (tgt := 259) hx hb dX8_goes_71 (by decide) (fun c36 => ?_) (fun c36 => ?_)
      · have hF := zs_t hF c36
        exact j259 Md x5 _ _ _ S (lv_sub hl [0, 1, 4] rfl) hF
      · have hF := zs_f hF c36
        refine lv_iload_n hx hb dX8_goes_74 rfl (lv_at hl 2 rfl) ?_
        refine lv_iload hx hb dX8_goes_75 (lv_at hl 5 rfl) ?_
        refine lv_ishr hx hb dX8_goes_77 ?_
        refine lv_iconst (v := (1 : Int32)) hx hb dX8_goes_78 (by decide) ?_
        refine lv_iand hx hb dX8_goes_79 ?_
        refine lv_iconst (v := (1 : Int32)) hx hb dX8_goes_80 (by decide) ?_
        refine lv_icmp_ne (tgt := 88) hx hb dX8_goes_81 (by decide) (fun c37 => ?_) (fun c37 => ?_)
        · have hF := zs_f hF c37
          refine lv_aload_n hx hb dX8_goes_88 rfl (lv_at hl 1 rfl) ?_
          refine lv_iload hx hb dX8_goes_89 (lv_at hl 5 rfl) ?_
          obtain ⟨h38, hF⟩ := zs_ckS hF
          refine zs_iald C hK S 9 rfl h38 dX8_goes_91 ?_
          refine lv_aload_n hx hb dX8_goes_92 rfl (lv_at hl 0 rfl) ?_
          refine zs_get C hK S 0 13 (Cn := RX8) (T := TX8) (N := 33) (ci := 8) rfl rfl (by decide) zn_X8_goes_X8 (List.mem_of_getElem? (i := 5) rfl) rfl dX8_goes_93 ?_
          refine lv_iload hx hb dX8_goes_96 (lv_at hl 5 rfl) ?_
          obtain ⟨h39, hF⟩ := zs_ckS hF
          refine zs_iald C hK S 5 rfl h39 dX8_goes_98 ?_
          refine lv_imul hx hb dX8_goes_99 ?_
          refine lv_bipush (v := (10 : Int32)) hx hb dX8_goes_100 (by decide) ?_
          refine lv_idiv hx hb dX8_goes_102 (by decide) ?_
          exact j103 Md x3 x4 x5 x6 (((Md 9 (x6).toNatClampNeg) * (Md 5 (x6).toNatClampNeg)) / (10 : Int32)) _ _ _ S (lv_sub hl [0, 1, 2, 3, 4, 5] rfl) hF
        · have hF := zs_t hF c37
          refine lv_iconst (v := (0 : Int32)) hx hb dX8_goes_84 (by decide) ?_
          refine lv_goto (tgt := 103) hx hb dX8_goes_85 (by decide) ?_
          exact j103 Md x3 x4 x5 x6 (0 : Int32) _ _ _ S (lv_sub hl [0, 1, 2, 3, 4, 5] rfl) hF
  have j62 : ∀ (Md : Ob) (x3 : Int32) (x4 : Int32) (x5 : Int32) (H : Heap) (locs : List Loc) (ls : Array Slot), zs_S G A s.heap H locs (wX8 G aMd Md mt) → lv_has ls 13 [(0, .ref (aMd 0)), (1, .ref (aMd 9)), (3, .int x3), (4, .int x4), (5, .int x5)] → F_X8_goes_warm_62 Md x3 x4 x5 = some (rr, Md_) → W p l e RMX8_goes_warm s m args below meth c H locs 0 0 (MQ below (zs_Qi G (wX8 G aMd Md_ mt) rr A) args s 0 0 A) (F0 m 62 ls []) := by
    intro Md x3 x4 x5 H locs ls S hl hF
    unfold F_X8_goes_warm_62 at hF
    refine lv_iconst (v := (0 : Int32)) hx hb dX8_goes_62 (by decide) ?_
    refine lv_istore (lv' := [(6, .int (0 : Int32)), (0, .ref (aMd 0)), (1, .ref (aMd 9)), (3, .int x3), (4, .int x4), (5, .int x5)]) hx hb dX8_goes_63 hl (by decide) rfl (fun ls hl => ?_)
    exact j65 1000 Md x3 x4 x5 (0 : Int32) _ _ _ S (lv_sub hl [1, 2, 3, 4, 5, 0] rfl) hF
  have j6 : ∀ (n6 : Nat) (Md : Ob) (x2 : Int32) (x3 : Int32) (x4 : Int32) (x5 : Int32) (x6 : Int32) (H : Heap) (locs : List Loc) (ls : Array Slot), zs_S G A s.heap H locs (wX8 G aMd Md mt) → lv_has ls 13 [(0, .ref (aMd 0)), (1, .ref (aMd 9)), (2, .int x2), (3, .int x3), (4, .int x4), (5, .int x5), (6, .int x6)] → F_X8_goes_warm_6 n6 Md x2 x3 x4 x5 x6 = some (rr, Md_) → W p l e RMX8_goes_warm s m args below meth c H locs 0 0 (MQ below (zs_Qi G (wX8 G aMd Md_ mt) rr A) args s 0 0 A) (F0 m 6 ls []) := by
    intro n6
    induction n6 with
    | zero => intro Md x2 x3 x4 x5 x6 H locs ls _ _ hF; rw [F_X8_goes_warm_6_z] at hF; cases hF
    | succ n6 ih6 =>
      have j54 : ∀ (Md : Ob) (x2 : Int32) (x3 : Int32) (x4 : Int32) (x5 : Int32) (x6 : Int32) (y0 : Int32) (y1 : Int32) (y2 : Int32) (H : Heap) (locs : List Loc) (ls : Array Slot), zs_S G A s.heap H locs (wX8 G aMd Md mt) → lv_has ls 13 [(0, .ref (aMd 0)), (1, .ref (aMd 9)), (2, .int x2), (3, .int x3), (4, .int x4), (5, .int x5), (6, .int x6)] → F_X8_goes_warm_54 (F_X8_goes_warm_6 n6) Md x2 x3 x4 x5 x6 y0 y1 y2 = some (rr, Md_) → W p l e RMX8_goes_warm s m args below meth c H locs 0 0 (MQ below (zs_Qi G (wX8 G aMd Md_ mt) rr A) args s 0 0 A) (F0 m 54 ls [.int y0, .int y1, .int y2, .ref (aMd 10)]) := by
        intro Md x2 x3 x4 x5 x6 y0 y1 y2 H locs ls S hl hF
        unfold F_X8_goes_warm_54 at hF
        refine lv_iadd hx hb dX8_goes_54 ?_
        obtain ⟨h40, hF⟩ := zs_ckS hF
        obtain ⟨Mdw41, e42⟩ : ∃ q : Ob, q = zs_up Md 10 (y2).toNatClampNeg (y1 + y0) := ⟨_, rfl⟩
        have hF := zs_letS hF e42
        refine zs_iast C hK S 10 (ws' := wX8 G aMd Mdw41 mt) rfl h40 (by rw [e42]; rfl) dX8_goes_55 (fun H locs S => ?_)
        obtain ⟨z43, e44⟩ : ∃ q : Int32, q = x6 + (1 : Int32) := ⟨_, rfl⟩
        have hF := zs_letS hF e44
        refine lv_iinc (v := z43) (lv' := [(6, .int z43), (0, .ref (aMd 0)), (1, .ref (aMd 9)), (2, .int x2), (3, .int x3), (4, .int x4), (5, .int x5)]) hx hb dX8_goes_56 hl (k := 6) rfl (by rw [e44]; rfl) (by decide) rfl (fun ls hl => ?_)
        refine lv_goto (tgt := 6) hx hb dX8_goes_59 (by decide) ?_
        exact ih6 Mdw41 x2 x3 x4 x5 z43 _ _ _ S (lv_sub hl [1, 2, 3, 4, 5, 6, 0] rfl) hF
      intro Md x2 x3 x4 x5 x6 H locs ls S hl hF
      rw [F_X8_goes_warm_6_n] at hF
      unfold F_X8_goes_warm_6_s at hF
      refine lv_iload hx hb dX8_goes_6 (lv_at hl 6 rfl) ?_
      refine lv_aload_n hx hb dX8_goes_8 rfl (lv_at hl 0 rfl) ?_
      refine zs_get C hK S 0 10 (Cn := RX8) (T := TX8) (N := 33) (ci := 8) rfl rfl (by decide) zn_X8_goes_X8 (List.mem_of_getElem? (i := 1) rfl) rfl dX8_goes_9 ?_
      refine lv_icmp_ge (tgt := 62) hx hb dX8_goes_12 (by decide) (fun c45 => ?_) (fun c45 => ?_)
      · have hF := zs_t hF c45
        exact j62 Md x3 x4 x5 _ _ _ S (lv_sub hl [0, 1, 3, 4, 5] rfl) hF
      · have hF := zs_f hF c45
        refine lv_aload_n hx hb dX8_goes_15 rfl (lv_at hl 0 rfl) ?_
        refine zs_get C hK S 0 22 (Cn := RX8) (T := TX8) (N := 33) (ci := 8) rfl rfl (by decide) zn_X8_goes_X8 (List.mem_of_getElem? (i := 2) rfl) rfl dX8_goes_16 ?_
        refine lv_iload hx hb dX8_goes_19 (lv_at hl 6 rfl) ?_
        refine lv_aload_n hx hb dX8_goes_21 rfl (lv_at hl 1 rfl) ?_
        refine lv_iload hx hb dX8_goes_22 (lv_at hl 6 rfl) ?_
        obtain ⟨h46, hF⟩ := zs_ckS hF
        refine zs_iald C hK S 9 rfl h46 dX8_goes_24 ?_
        refine lv_aload_n hx hb dX8_goes_25 rfl (lv_at hl 0 rfl) ?_
        refine zs_get C hK S 0 15 (Cn := RX8) (T := TX8) (N := 33) (ci := 8) rfl rfl (by decide) zn_X8_goes_X8 (List.mem_of_getElem? (i := 3) rfl) rfl dX8_goes_26 ?_
        refine lv_iload hx hb dX8_goes_29 (lv_at hl 6 rfl) ?_
        obtain ⟨h47, hF⟩ := zs_ckS hF
        refine zs_iald C hK S 7 rfl h47 dX8_goes_31 ?_
        refine lv_iload_n hx hb dX8_goes_32 rfl (lv_at hl 2 rfl) ?_
        refine lv_bipush (v := (8 : Int32)) hx hb dX8_goes_33 (by decide) ?_
        refine lv_irem hx hb dX8_goes_35 (by decide) ?_
        refine lv_ishr hx hb dX8_goes_36 ?_
        refine lv_iconst (v := (1 : Int32)) hx hb dX8_goes_37 (by decide) ?_
        refine lv_iand hx hb dX8_goes_38 ?_
        refine lv_iconst (v := (1 : Int32)) hx hb dX8_goes_39 (by decide) ?_
        refine lv_icmp_ne (tgt := 53) hx hb dX8_goes_40 (by decide) (fun c48 => ?_) (fun c48 => ?_)
        · have hF := zs_f hF c48
          refine lv_iconst (v := (0 : Int32)) hx hb dX8_goes_53 (by decide) ?_
          exact j54 Md x2 x3 x4 x5 x6 (0 : Int32) (Md 9 (x6).toNatClampNeg) x6 _ _ _ S (lv_sub hl [0, 1, 2, 3, 4, 5, 6] rfl) hF
        · have hF := zs_t hF c48
          refine lv_aload_n hx hb dX8_goes_43 rfl (lv_at hl 0 rfl) ?_
          refine zs_get C hK S 0 14 (Cn := RX8) (T := TX8) (N := 33) (ci := 8) rfl rfl (by decide) zn_X8_goes_X8 (List.mem_of_getElem? (i := 4) rfl) rfl dX8_goes_44 ?_
          refine lv_iload hx hb dX8_goes_47 (lv_at hl 6 rfl) ?_
          obtain ⟨h49, hF⟩ := zs_ckS hF
          refine zs_iald C hK S 6 rfl h49 dX8_goes_49 ?_
          refine lv_goto (tgt := 54) hx hb dX8_goes_50 (by decide) ?_
          exact j54 Md x2 x3 x4 x5 x6 (Md 6 (x6).toNatClampNeg) (Md 9 (x6).toNatClampNeg) x6 _ _ _ S (lv_sub hl [0, 1, 2, 3, 4, 5, 6] rfl) hF
  refine lv_iconst (v := (0 : Int32)) hx hb dX8_goes_0 (by decide) ?_
  refine lv_istore (lv' := [(5, .int (0 : Int32)), (0, .ref (aMd 0)), (1, .ref (aMd 9)), (2, .int u2), (3, .int u3), (4, .int u4)]) hx hb dX8_goes_1 hl (by decide) rfl (fun ls hl => ?_)
  refine lv_iconst (v := (0 : Int32)) hx hb dX8_goes_3 (by decide) ?_
  refine lv_istore (lv' := [(6, .int (0 : Int32)), (5, .int (0 : Int32)), (0, .ref (aMd 0)), (1, .ref (aMd 9)), (2, .int u2), (3, .int u3), (4, .int u4)]) hx hb dX8_goes_4 hl (by decide) rfl (fun ls hl => ?_)
  exact j6 1000 Md u2 u3 u4 (0 : Int32) (0 : Int32) _ _ _ S (lv_sub hl [2, 3, 4, 5, 6, 1, 0] rfl) hF

abbrev RMX8_goes_row : Room := { frames := 0, cells := 0, slots := 0, locals := 0 }
set_option maxRecDepth 100000 in
set_option maxHeartbeats 4000000 in
theorem c_X8_goes_row (l : Launch) (G : GG) (aMd : Ad) (Md : Ob) (mt : Int64) (u2 : Int32) (u3 : Int32) (u4 : Int32) (sz : Nat) (rr : Int32) (Md_ : Ob) (hF : F_X8_goes_row Md u2 u3 u4 = some (rr, Md_)) : Met l yX8_goes wsX8_goes RMX8_goes_row (va_Pc [.ref (aMd 0), .ref (aMd 12), .int u2, .int u3, .int u4] (zs_pre G (wX8 G aMd Md mt) sz)) (zs_Qi G (wX8 G aMd Md_ mt) rr (va_A (wX8 G aMd Md mt) sz)) 0 0 (va_A (wX8 G aMd Md mt) sz) := by
  refine zs_met (cc := cX8_goes) (maxL := 13) (ret := (some .int)) (own := RX8) (Qc := zs_Qi G (wX8 G aMd Md_ mt) rr) (by decide) rfl rfl (Nat.le_of_ble_eq_true rfl) ?_
  intro p e s m args below meth c C A hK hA S _ _ ls hl
  have hl : lv_has ls 13 [(0, .ref (aMd 0)), (1, .ref (aMd 12)), (2, .int u2), (3, .int u3), (4, .int u4)] := hl
  have hx := C.1.1
  have hb := C.1.2.1
  unfold F_X8_goes_row at hF
  have j262 : ∀ (n262 : Nat) (Md : Ob) (x5 : Int32) (x6 : Int32) (H : Heap) (locs : List Loc) (ls : Array Slot), zs_S G A s.heap H locs (wX8 G aMd Md mt) → lv_has ls 13 [(0, .ref (aMd 0)), (1, .ref (aMd 12)), (5, .int x5), (6, .int x6)] → F_X8_goes_row_262 n262 Md x5 x6 = some (rr, Md_) → W p l e RMX8_goes_row s m args below meth c H locs 0 0 (MQ below (zs_Qi G (wX8 G aMd Md_ mt) rr A) args s 0 0 A) (F0 m 262 ls []) := by
    intro n262
    induction n262 with
    | zero => intro Md x5 x6 H locs ls _ _ hF; rw [F_X8_goes_row_262_z] at hF; cases hF
    | succ n262 ih262 =>
      intro Md x5 x6 H locs ls S hl hF
      rw [F_X8_goes_row_262_n] at hF
      unfold F_X8_goes_row_262_s at hF
      refine lv_iload hx hb dX8_goes_262 (lv_at hl 3 rfl) ?_
      refine lv_aload_n hx hb dX8_goes_264 rfl (lv_at hl 0 rfl) ?_
      refine zs_get C hK S 0 10 (Cn := RX8) (T := TX8) (N := 33) (ci := 8) rfl rfl (by decide) zn_X8_goes_X8 (List.mem_of_getElem? (i := 1) rfl) rfl dX8_goes_265 ?_
      refine lv_icmp_ge (tgt := 288) hx hb dX8_goes_268 (by decide) (fun c1 => ?_) (fun c1 => ?_)
      · have hF := zs_t hF c1
        refine lv_iload hx hb dX8_goes_288 (lv_at hl 2 rfl) ?_
        obtain ⟨e2, e3⟩ := zs_s2 hF
        exact zs_iretE C S e2 (by rw [e3]) dX8_goes_290
      · have hF := zs_f hF c1
        refine lv_aload_n hx hb dX8_goes_271 rfl (lv_at hl 1 rfl) ?_
        refine lv_iload hx hb dX8_goes_272 (lv_at hl 3 rfl) ?_
        refine lv_aload_n hx hb dX8_goes_274 rfl (lv_at hl 0 rfl) ?_
        refine zs_get C hK S 0 22 (Cn := RX8) (T := TX8) (N := 33) (ci := 8) rfl rfl (by decide) zn_X8_goes_X8 (List.mem_of_getElem? (i := 2) rfl) rfl dX8_goes_275 ?_
        refine lv_iload hx hb dX8_goes_278 (lv_at hl 3 rfl) ?_
        obtain ⟨h4, hF⟩ := zs_ckS hF
        refine zs_iald C hK S 10 rfl h4 dX8_goes_280 ?_
        obtain ⟨h5, hF⟩ := zs_ckS hF
        obtain ⟨Mdw6, e7⟩ : ∃ q : Ob, q = zs_up Md 12 (x6).toNatClampNeg (Md 10 (x6).toNatClampNeg) := ⟨_, rfl⟩
        have hF := zs_letS hF e7
        refine zs_iast C hK S 12 (ws' := wX8 G aMd Mdw6 mt) rfl h5 (by rw [e7]; rfl) dX8_goes_281 (fun H locs S => ?_)
        obtain ⟨z8, e9⟩ : ∃ q : Int32, q = x6 + (1 : Int32) := ⟨_, rfl⟩
        have hF := zs_letS hF e9
        refine lv_iinc (v := z8) (lv' := [(6, .int z8), (0, .ref (aMd 0)), (1, .ref (aMd 12)), (5, .int x5)]) hx hb dX8_goes_282 hl (k := 3) rfl (by rw [e9]; rfl) (by decide) rfl (fun ls hl => ?_)
        refine lv_goto (tgt := 262) hx hb dX8_goes_285 (by decide) ?_
        exact ih262 Mdw6 x5 z8 _ _ _ S (lv_sub hl [1, 2, 3, 0] rfl) hF
  have j259 : ∀ (Md : Ob) (x5 : Int32) (H : Heap) (locs : List Loc) (ls : Array Slot), zs_S G A s.heap H locs (wX8 G aMd Md mt) → lv_has ls 13 [(0, .ref (aMd 0)), (1, .ref (aMd 12)), (5, .int x5)] → F_X8_goes_row_259 Md x5 = some (rr, Md_) → W p l e RMX8_goes_row s m args below meth c H locs 0 0 (MQ below (zs_Qi G (wX8 G aMd Md_ mt) rr A) args s 0 0 A) (F0 m 259 ls []) := by
    intro Md x5 H locs ls S hl hF
    unfold F_X8_goes_row_259 at hF
    refine lv_iconst (v := (0 : Int32)) hx hb dX8_goes_259 (by decide) ?_
    refine lv_istore (lv' := [(6, .int (0 : Int32)), (0, .ref (aMd 0)), (1, .ref (aMd 12)), (5, .int x5)]) hx hb dX8_goes_260 hl (by decide) rfl (fun ls hl => ?_)
    exact j262 1000 Md x5 (0 : Int32) _ _ _ S (lv_sub hl [1, 2, 3, 0] rfl) hF
  have j65 : ∀ (n65 : Nat) (Md : Ob) (x3 : Int32) (x4 : Int32) (x5 : Int32) (x6 : Int32) (H : Heap) (locs : List Loc) (ls : Array Slot), zs_S G A s.heap H locs (wX8 G aMd Md mt) → lv_has ls 13 [(0, .ref (aMd 0)), (1, .ref (aMd 12)), (3, .int x3), (4, .int x4), (5, .int x5), (6, .int x6)] → F_X8_goes_row_65 n65 Md x3 x4 x5 x6 = some (rr, Md_) → W p l e RMX8_goes_row s m args below meth c H locs 0 0 (MQ below (zs_Qi G (wX8 G aMd Md_ mt) rr A) args s 0 0 A) (F0 m 65 ls []) := by
    intro n65
    induction n65 with
    | zero => intro Md x3 x4 x5 x6 H locs ls _ _ hF; rw [F_X8_goes_row_65_z] at hF; cases hF
    | succ n65 ih65 =>
      have j234 : ∀ (Md : Ob) (x3 : Int32) (x4 : Int32) (x5 : Int32) (x6 : Int32) (x7 : Int32) (x8 : Int32) (H : Heap) (locs : List Loc) (ls : Array Slot), zs_S G A s.heap H locs (wX8 G aMd Md mt) → lv_has ls 13 [(0, .ref (aMd 0)), (1, .ref (aMd 12)), (3, .int x3), (4, .int x4), (5, .int x5), (6, .int x6), (7, .int x7), (8, .int x8)] → F_X8_goes_row_234 (F_X8_goes_row_65 n65) Md x3 x4 x5 x6 x7 x8 = some (rr, Md_) → W p l e RMX8_goes_row s m args below meth c H locs 0 0 (MQ below (zs_Qi G (wX8 G aMd Md_ mt) rr A) args s 0 0 A) (F0 m 234 ls []) := by
        intro Md x3 x4 x5 x6 x7 x8 H locs ls S hl hF
        unfold F_X8_goes_row_234 at hF
        refine lv_aload_n hx hb dX8_goes_234 rfl (lv_at hl 0 rfl) ?_
        refine zs_get C hK S 0 22 (Cn := RX8) (T := TX8) (N := 33) (ci := 8) rfl rfl (by decide) zn_X8_goes_X8 (List.mem_of_getElem? (i := 2) rfl) rfl dX8_goes_235 ?_
        refine lv_iload hx hb dX8_goes_238 (lv_at hl 5 rfl) ?_
        refine lv_dup2_11 hx hb dX8_goes_240 rfl rfl ?_
        obtain ⟨h10, hF⟩ := zs_ckS hF
        refine zs_iald C hK S 10 rfl h10 dX8_goes_241 ?_
        refine lv_iload hx hb dX8_goes_242 (lv_at hl 6 rfl) ?_
        refine lv_isub hx hb dX8_goes_244 ?_
        obtain ⟨h11, hF⟩ := zs_ckS hF
        obtain ⟨Mdw12, e13⟩ : ∃ q : Ob, q = zs_up Md 10 (x6).toNatClampNeg ((Md 10 (x6).toNatClampNeg) - x7) := ⟨_, rfl⟩
        have hF := zs_letS hF e13
        refine zs_iast C hK S 10 (ws' := wX8 G aMd Mdw12 mt) rfl h11 (by rw [e13]; rfl) dX8_goes_245 (fun H locs S => ?_)
        refine lv_iload hx hb dX8_goes_246 (lv_at hl 4 rfl) ?_
        refine lv_iload hx hb dX8_goes_248 (lv_at hl 7 rfl) ?_
        refine lv_iadd hx hb dX8_goes_250 ?_
        refine lv_topi (fun z14 e15 => ?_)
        have hF := zs_letS hF e15
        refine lv_istore (lv' := [(5, .int z14), (0, .ref (aMd 0)), (1, .ref (aMd 12)), (3, .int x3), (4, .int x4), (6, .int x6), (7, .int x7), (8, .int x8)]) hx hb dX8_goes_251 hl (by decide) rfl (fun ls hl => ?_)
        obtain ⟨z16, e17⟩ : ∃ q : Int32, q = x6 + (1 : Int32) := ⟨_, rfl⟩
        have hF := zs_letS hF e17
        refine lv_iinc (v := z16) (lv' := [(6, .int z16), (5, .int z14), (0, .ref (aMd 0)), (1, .ref (aMd 12)), (3, .int x3), (4, .int x4), (7, .int x7), (8, .int x8)]) hx hb dX8_goes_253 hl (k := 5) rfl (by rw [e17]; rfl) (by decide) rfl (fun ls hl => ?_)
        refine lv_goto (tgt := 65) hx hb dX8_goes_256 (by decide) ?_
        exact ih65 Mdw12 x3 x4 z14 z16 _ _ _ S (lv_sub hl [2, 3, 4, 5, 1, 0] rfl) hF
      have j112 : ∀ (n112 : Nat) (Md : Ob) (x3 : Int32) (x4 : Int32) (x5 : Int32) (x6 : Int32) (x7 : Int32) (x8 : Int32) (x9 : Int32) (H : Heap) (locs : List Loc) (ls : Array Slot), zs_S G A s.heap H locs (wX8 G aMd Md mt) → lv_has ls 13 [(0, .ref (aMd 0)), (1, .ref (aMd 12)), (3, .int x3), (4, .int x4), (5, .int x5), (6, .int x6), (7, .int x7), (8, .int x8), (9, .int x9)] → F_X8_goes_row_112 (F_X8_goes_row_65 n65) n112 Md x3 x4 x5 x6 x7 x8 x9 = some (rr, Md_) → W p l e RMX8_goes_row s m args below meth c H locs 0 0 (MQ below (zs_Qi G (wX8 G aMd Md_ mt) rr A) args s 0 0 A) (F0 m 112 ls []) := by
        intro n112
        induction n112 with
        | zero => intro Md x3 x4 x5 x6 x7 x8 x9 H locs ls _ _ hF; rw [F_X8_goes_row_112_z] at hF; cases hF
        | succ n112 ih112 =>
          have j225 : ∀ (Md : Ob) (x3 : Int32) (x4 : Int32) (x5 : Int32) (x6 : Int32) (x7 : Int32) (x9 : Int32) (y0 : Int32) (y1 : Int32) (H : Heap) (locs : List Loc) (ls : Array Slot), zs_S G A s.heap H locs (wX8 G aMd Md mt) → lv_has ls 13 [(0, .ref (aMd 0)), (1, .ref (aMd 12)), (3, .int x3), (4, .int x4), (5, .int x5), (6, .int x6), (7, .int x7), (9, .int x9)] → F_X8_goes_row_225 (F_X8_goes_row_65 n65) (F_X8_goes_row_112 (F_X8_goes_row_65 n65) n112) Md x3 x4 x5 x6 x7 x9 y0 y1 = some (rr, Md_) → W p l e RMX8_goes_row s m args below meth c H locs 0 0 (MQ below (zs_Qi G (wX8 G aMd Md_ mt) rr A) args s 0 0 A) (F0 m 225 ls [.int y0, .int y1]) := by
            intro Md x3 x4 x5 x6 x7 x9 y0 y1 H locs ls S hl hF
            unfold F_X8_goes_row_225 at hF
            refine lv_isub hx hb dX8_goes_225 ?_
            refine lv_topi (fun z18 e19 => ?_)
            have hF := zs_letS hF e19
            refine lv_istore (lv' := [(8, .int z18), (0, .ref (aMd 0)), (1, .ref (aMd 12)), (3, .int x3), (4, .int x4), (5, .int x5), (6, .int x6), (7, .int x7), (9, .int x9)]) hx hb dX8_goes_226 hl (by decide) rfl (fun ls hl => ?_)
            obtain ⟨z20, e21⟩ : ∃ q : Int32, q = x9 + (1 : Int32) := ⟨_, rfl⟩
            have hF := zs_letS hF e21
            refine lv_iinc (v := z20) (lv' := [(9, .int z20), (8, .int z18), (0, .ref (aMd 0)), (1, .ref (aMd 12)), (3, .int x3), (4, .int x4), (5, .int x5), (6, .int x6), (7, .int x7)]) hx hb dX8_goes_228 hl (k := 8) rfl (by rw [e21]; rfl) (by decide) rfl (fun ls hl => ?_)
            refine lv_goto (tgt := 112) hx hb dX8_goes_231 (by decide) ?_
            exact ih112 Md x3 x4 x5 x6 x7 z18 z20 _ _ _ S (lv_sub hl [2, 3, 4, 5, 6, 7, 8, 1, 0] rfl) hF
          have j210 : ∀ (Md : Ob) (x3 : Int32) (x4 : Int32) (x5 : Int32) (x6 : Int32) (x7 : Int32) (x8 : Int32) (x9 : Int32) (x10 : Int32) (x12 : Int32) (y0 : Int32) (y1 : Int32) (y2 : Int32) (H : Heap) (locs : List Loc) (ls : Array Slot), zs_S G A s.heap H locs (wX8 G aMd Md mt) → lv_has ls 13 [(0, .ref (aMd 0)), (1, .ref (aMd 12)), (3, .int x3), (4, .int x4), (5, .int x5), (6, .int x6), (7, .int x7), (8, .int x8), (9, .int x9), (10, .int x10), (12, .int x12)] → F_X8_goes_row_210 (F_X8_goes_row_65 n65) (F_X8_goes_row_112 (F_X8_goes_row_65 n65) n112) Md x3 x4 x5 x6 x7 x8 x9 x10 x12 y0 y1 y2 = some (rr, Md_) → W p l e RMX8_goes_row s m args below meth c H locs 0 0 (MQ below (zs_Qi G (wX8 G aMd Md_ mt) rr A) args s 0 0 A) (F0 m 210 ls [.int y0, .int y1, .int y2, .ref (aMd 10)]) := by
            intro Md x3 x4 x5 x6 x7 x8 x9 x10 x12 y0 y1 y2 H locs ls S hl hF
            unfold F_X8_goes_row_210 at hF
            refine lv_iadd hx hb dX8_goes_210 ?_
            obtain ⟨h22, hF⟩ := zs_ckS hF
            obtain ⟨Mdw23, e24⟩ : ∃ q : Ob, q = zs_up Md 10 (y2).toNatClampNeg (y1 + y0) := ⟨_, rfl⟩
            have hF := zs_letS hF e24
            refine zs_iast C hK S 10 (ws' := wX8 G aMd Mdw23 mt) rfl h22 (by rw [e24]; rfl) dX8_goes_211 (fun H locs S => ?_)
            refine lv_iload hx hb dX8_goes_212 (lv_at hl 7 rfl) ?_
            refine lv_iload hx hb dX8_goes_214 (lv_at hl 10 rfl) ?_
            refine lv_if_eq (tgt := 224) hx hb dX8_goes_216 (by decide) (fun c25 => ?_) (fun c25 => ?_)
            · have hF := zs_t hF c25
              refine lv_iconst (v := (0 : Int32)) hx hb dX8_goes_224 (by decide) ?_
              exact j225 Mdw23 x3 x4 x5 x6 x7 x9 (0 : Int32) x8 _ _ _ S (lv_sub hl [0, 1, 2, 3, 4, 5, 6, 8] rfl) hF
            · have hF := zs_f hF c25
              refine lv_iload hx hb dX8_goes_219 (lv_at hl 9 rfl) ?_
              refine lv_goto (tgt := 225) hx hb dX8_goes_221 (by decide) ?_
              exact j225 Mdw23 x3 x4 x5 x6 x7 x9 x10 x8 _ _ _ S (lv_sub hl [0, 1, 2, 3, 4, 5, 6, 8] rfl) hF
          have j197 : ∀ (Md : Ob) (x3 : Int32) (x4 : Int32) (x5 : Int32) (x6 : Int32) (x7 : Int32) (x8 : Int32) (x9 : Int32) (x10 : Int32) (x12 : Int32) (y0 : Int32) (H : Heap) (locs : List Loc) (ls : Array Slot), zs_S G A s.heap H locs (wX8 G aMd Md mt) → lv_has ls 13 [(0, .ref (aMd 0)), (1, .ref (aMd 12)), (3, .int x3), (4, .int x4), (5, .int x5), (6, .int x6), (7, .int x7), (8, .int x8), (9, .int x9), (10, .int x10), (12, .int x12)] → F_X8_goes_row_197 (F_X8_goes_row_65 n65) (F_X8_goes_row_112 (F_X8_goes_row_65 n65) n112) Md x3 x4 x5 x6 x7 x8 x9 x10 x12 y0 = some (rr, Md_) → W p l e RMX8_goes_row s m args below meth c H locs 0 0 (MQ below (zs_Qi G (wX8 G aMd Md_ mt) rr A) args s 0 0 A) (F0 m 197 ls [.int y0, .ref (aMd 10)]) := by
            intro Md x3 x4 x5 x6 x7 x8 x9 x10 x12 y0 H locs ls S hl hF
            unfold F_X8_goes_row_197 at hF
            refine lv_dup2_11 hx hb dX8_goes_197 rfl rfl ?_
            obtain ⟨h26, hF⟩ := zs_ckS hF
            refine zs_iald C hK S 10 rfl h26 dX8_goes_198 ?_
            refine lv_iload hx hb dX8_goes_199 (lv_at hl 10 rfl) ?_
            refine lv_if_eq (tgt := 209) hx hb dX8_goes_201 (by decide) (fun c27 => ?_) (fun c27 => ?_)
            · have hF := zs_t hF c27
              refine lv_iconst (v := (0 : Int32)) hx hb dX8_goes_209 (by decide) ?_
              exact j210 Md x3 x4 x5 x6 x7 x8 x9 x10 x12 (0 : Int32) (Md 10 (y0).toNatClampNeg) y0 _ _ _ S (lv_sub hl [0, 1, 2, 3, 4, 5, 6, 7, 8, 9, 10] rfl) hF
            · have hF := zs_f hF c27
              refine lv_iload hx hb dX8_goes_204 (lv_at hl 9 rfl) ?_
              refine lv_goto (tgt := 210) hx hb dX8_goes_206 (by decide) ?_
              exact j210 Md x3 x4 x5 x6 x7 x8 x9 x10 x12 x10 (Md 10 (y0).toNatClampNeg) y0 _ _ _ S (lv_sub hl [0, 1, 2, 3, 4, 5, 6, 7, 8, 9, 10] rfl) hF
          have j179 : ∀ (Md : Ob) (x3 : Int32) (x4 : Int32) (x5 : Int32) (x6 : Int32) (x7 : Int32) (x8 : Int32) (x9 : Int32) (x10 : Int32) (x11 : Int32) (y0 : Int32) (H : Heap) (locs : List Loc) (ls : Array Slot), zs_S G A s.heap H locs (wX8 G aMd Md mt) → lv_has ls 13 [(0, .ref (aMd 0)), (1, .ref (aMd 12)), (3, .int x3), (4, .int x4), (5, .int x5), (6, .int x6), (7, .int x7), (8, .int x8), (9, .int x9), (10, .int x10), (11, .int x11)] → F_X8_goes_row_179 (F_X8_goes_row_65 n65) (F_X8_goes_row_112 (F_X8_goes_row_65 n65) n112) Md x3 x4 x5 x6 x7 x8 x9 x10 x11 y0 = some (rr, Md_) → W p l e RMX8_goes_row s m args below meth c H locs 0 0 (MQ below (zs_Qi G (wX8 G aMd Md_ mt) rr A) args s 0 0 A) (F0 m 179 ls [.int y0]) := by
            intro Md x3 x4 x5 x6 x7 x8 x9 x10 x11 y0 H locs ls S hl hF
            unfold F_X8_goes_row_179 at hF
            refine lv_istore (lv' := [(12, .int y0), (0, .ref (aMd 0)), (1, .ref (aMd 12)), (3, .int x3), (4, .int x4), (5, .int x5), (6, .int x6), (7, .int x7), (8, .int x8), (9, .int x9), (10, .int x10), (11, .int x11)]) hx hb dX8_goes_179 hl (by decide) rfl (fun ls hl => ?_)
            refine lv_aload_n hx hb dX8_goes_181 rfl (lv_at hl 1 rfl) ?_
            refine zs_get C hK S 0 22 (Cn := RX8) (T := TX8) (N := 33) (ci := 8) rfl rfl (by decide) zn_X8_goes_X8 (List.mem_of_getElem? (i := 2) rfl) rfl dX8_goes_182 ?_
            refine lv_iload hx hb dX8_goes_185 (lv_at hl 11 rfl) ?_
            refine lv_if_eq (tgt := 195) hx hb dX8_goes_187 (by decide) (fun c28 => ?_) (fun c28 => ?_)
            · have hF := zs_t hF c28
              refine lv_iload hx hb dX8_goes_195 (lv_at hl 9 rfl) ?_
              exact j197 Md x3 x4 x5 x6 x7 x8 x9 x10 y0 x9 _ _ _ S (lv_sub hl [1, 2, 3, 4, 5, 6, 7, 8, 9, 10, 0] rfl) hF
            · have hF := zs_f hF c28
              refine lv_iload hx hb dX8_goes_190 (lv_at hl 6 rfl) ?_
              refine lv_goto (tgt := 197) hx hb dX8_goes_192 (by decide) ?_
              exact j197 Md x3 x4 x5 x6 x7 x8 x9 x10 y0 x6 _ _ _ S (lv_sub hl [1, 2, 3, 4, 5, 6, 7, 8, 9, 10, 0] rfl) hF
          have j174 : ∀ (Md : Ob) (x3 : Int32) (x4 : Int32) (x5 : Int32) (x6 : Int32) (x7 : Int32) (x8 : Int32) (x9 : Int32) (x10 : Int32) (x11 : Int32) (H : Heap) (locs : List Loc) (ls : Array Slot), zs_S G A s.heap H locs (wX8 G aMd Md mt) → lv_has ls 13 [(0, .ref (aMd 0)), (1, .ref (aMd 12)), (3, .int x3), (4, .int x4), (5, .int x5), (6, .int x6), (7, .int x7), (8, .int x8), (9, .int x9), (10, .int x10), (11, .int x11)] → F_X8_goes_row_174 (F_X8_goes_row_65 n65) (F_X8_goes_row_112 (F_X8_goes_row_65 n65) n112) Md x3 x4 x5 x6 x7 x8 x9 x10 x11 = some (rr, Md_) → W p l e RMX8_goes_row s m args below meth c H locs 0 0 (MQ below (zs_Qi G (wX8 G aMd Md_ mt) rr A) args s 0 0 A) (F0 m 174 ls []) := by
            intro Md x3 x4 x5 x6 x7 x8 x9 x10 x11 H locs ls S hl hF
            unfold F_X8_goes_row_174 at hF
            refine lv_iconst (v := (1 : Int32)) hx hb dX8_goes_174 (by decide) ?_
            refine lv_goto (tgt := 179) hx hb dX8_goes_175 (by decide) ?_
            exact j179 Md x3 x4 x5 x6 x7 x8 x9 x10 x11 (1 : Int32) _ _ _ S (lv_sub hl [0, 1, 2, 3, 4, 5, 6, 7, 8, 9, 10] rfl) hF
          have j158 : ∀ (Md : Ob) (x3 : Int32) (x4 : Int32) (x5 : Int32) (x6 : Int32) (x7 : Int32) (x8 : Int32) (x9 : Int32) (x10 : Int32) (y0 : Int32) (H : Heap) (locs : List Loc) (ls : Array Slot), zs_S G A s.heap H locs (wX8 G aMd Md mt) → lv_has ls 13 [(0, .ref (aMd 0)), (1, .ref (aMd 12)), (3, .int x3), (4, .int x4), (5, .int x5), (6, .int x6), (7, .int x7), (8, .int x8), (9, .int x9), (10, .int x10)] → F_X8_goes_row_158 (F_X8_goes_row_65 n65) (F_X8_goes_row_112 (F_X8_goes_row_65 n65) n112) Md x3 x4 x5 x6 x7 x8 x9 x10 y0 = some (rr, Md_) → W p l e RMX8_goes_row s m args below meth c H locs 0 0 (MQ below (zs_Qi G (wX8 G aMd Md_ mt) rr A) args s 0 0 A) (F0 m 158 ls [.int y0]) := by
            intro Md x3 x4 x5 x6 x7 x8 x9 x10 y0 H locs ls S hl hF
            unfold F_X8_goes_row_158 at hF
            refine lv_istore (lv' := [(11, .int y0), (0, .ref (aMd 0)), (1, .ref (aMd 12)), (3, .int x3), (4, .int x4), (5, .int x5), (6, .int x6), (7, .int x7), (8, .int x8), (9, .int x9), (10, .int x10)]) hx hb dX8_goes_158 hl (by decide) rfl (fun ls hl => ?_)
            refine lv_iload hx hb dX8_goes_160 (lv_at hl 0 rfl) ?_
            refine lv_if_ne (tgt := 174) hx hb dX8_goes_162 (by decide) (fun c29 => ?_) (fun c29 => ?_)
            · have hF := zs_f hF c29
              exact j174 Md x3 x4 x5 x6 x7 x8 x9 x10 y0 _ _ _ S (lv_sub hl [1, 2, 3, 4, 5, 6, 7, 8, 9, 10, 0] rfl) hF
            · have hF := zs_t hF c29
              refine lv_iload_n hx hb dX8_goes_165 rfl (lv_at hl 3 rfl) ?_
              refine lv_iload hx hb dX8_goes_166 (lv_at hl 9 rfl) ?_
              refine lv_ishr hx hb dX8_goes_168 ?_
              refine lv_iconst (v := (1 : Int32)) hx hb dX8_goes_169 (by decide) ?_
              refine lv_iand hx hb dX8_goes_170 ?_
              refine lv_if_ne (tgt := 178) hx hb dX8_goes_171 (by decide) (fun c30 => ?_) (fun c30 => ?_)
              · have hF := zs_f hF c30
                refine lv_iconst (v := (0 : Int32)) hx hb dX8_goes_178 (by decide) ?_
                exact j179 Md x3 x4 x5 x6 x7 x8 x9 x10 y0 (0 : Int32) _ _ _ S (lv_sub hl [1, 2, 3, 4, 5, 6, 7, 8, 9, 10, 0] rfl) hF
              · have hF := zs_t hF c30
                exact j174 Md x3 x4 x5 x6 x7 x8 x9 x10 y0 _ _ _ S (lv_sub hl [1, 2, 3, 4, 5, 6, 7, 8, 9, 10, 0] rfl) hF
          intro Md x3 x4 x5 x6 x7 x8 x9 H locs ls S hl hF
          rw [F_X8_goes_row_112_n] at hF
          unfold F_X8_goes_row_112_s at hF
          refine lv_iload hx hb dX8_goes_112 (lv_at hl 8 rfl) ?_
          refine lv_aload_n hx hb dX8_goes_114 rfl (lv_at hl 0 rfl) ?_
          refine zs_get C hK S 0 10 (Cn := RX8) (T := TX8) (N := 33) (ci := 8) rfl rfl (by decide) zn_X8_goes_X8 (List.mem_of_getElem? (i := 1) rfl) rfl dX8_goes_115 ?_
          refine lv_icmp_ge (tgt := 234) hx hb dX8_goes_118 (by decide) (fun c31 => ?_) (fun c31 => ?_)
          · have hF := zs_t hF c31
            exact j234 Md x3 x4 x5 x6 x7 x8 _ _ _ S (lv_sub hl [0, 1, 2, 3, 4, 5, 6, 7] rfl) hF
          · have hF := zs_f hF c31
            refine lv_iload hx hb dX8_goes_121 (lv_at hl 6 rfl) ?_
            refine lv_aload_n hx hb dX8_goes_123 rfl (lv_at hl 0 rfl) ?_
            refine zs_get C hK S 0 16 (Cn := RX8) (T := TX8) (N := 33) (ci := 8) rfl rfl (by decide) zn_X8_goes_X8 (List.mem_of_getElem? (i := 6) rfl) rfl dX8_goes_124 ?_
            refine lv_bipush (v := (6 : Int32)) hx hb dX8_goes_127 (by decide) ?_
            refine lv_iload hx hb dX8_goes_129 (lv_at hl 5 rfl) ?_
            refine lv_imul hx hb dX8_goes_131 ?_
            refine lv_iload hx hb dX8_goes_132 (lv_at hl 8 rfl) ?_
            refine lv_iadd hx hb dX8_goes_134 ?_
            obtain ⟨h32, hF⟩ := zs_ckS hF
            refine zs_iald C hK S 8 rfl h32 dX8_goes_135 ?_
            refine lv_imul hx hb dX8_goes_136 ?_
            refine lv_bipush (v := (10 : Int32)) hx hb dX8_goes_137 (by decide) ?_
            refine lv_idiv hx hb dX8_goes_139 (by decide) ?_
            refine lv_topi (fun z33 e34 => ?_)
            have hF := zs_letS hF e34
            refine lv_istore (lv' := [(10, .int z33), (0, .ref (aMd 0)), (1, .ref (aMd 12)), (3, .int x3), (4, .int x4), (5, .int x5), (6, .int x6), (7, .int x7), (8, .int x8), (9, .int x9)]) hx hb dX8_goes_140 hl (by decide) rfl (fun ls hl => ?_)
            refine lv_iload hx hb dX8_goes_142 (lv_at hl 4 rfl) ?_
            refine lv_iload hx hb dX8_goes_144 (lv_at hl 9 rfl) ?_
            refine lv_ishr hx hb dX8_goes_146 ?_
            refine lv_iconst (v := (1 : Int32)) hx hb dX8_goes_147 (by decide) ?_
            refine lv_iand hx hb dX8_goes_148 ?_
            refine lv_iconst (v := (1 : Int32)) hx hb dX8_goes_149 (by decide) ?_
            refine lv_icmp_ne (tgt := 157) hx hb dX8_goes_150 (by decide) (fun c35 => ?_) (fun c35 => ?_)
            · have hF := zs_f hF c35
              refine lv_iconst (v := (0 : Int32)) hx hb dX8_goes_157 (by decide) ?_
              exact j158 Md x3 x4 x5 x6 x7 x8 x9 z33 (0 : Int32) _ _ _ S (lv_sub hl [1, 2, 3, 4, 5, 6, 7, 8, 9, 0] rfl) hF
            · have hF := zs_t hF c35
              refine lv_iconst (v := (1 : Int32)) hx hb dX8_goes_153 (by decide) ?_
              refine lv_goto (tgt := 158) hx hb dX8_goes_154 (by decide) ?_
              exact j158 Md x3 x4 x5 x6 x7 x8 x9 z33 (1 : Int32) _ _ _ S (lv_sub hl [1, 2, 3, 4, 5, 6, 7, 8, 9, 0] rfl) hF
      have j103 : ∀ (Md : Ob) (x3 : Int32) (x4 : Int32) (x5 : Int32) (x6 : Int32) (y0 : Int32) (H : Heap) (locs : List Loc) (ls : Array Slot), zs_S G A s.heap H locs (wX8 G aMd Md mt) → lv_has ls 13 [(0, .ref (aMd 0)), (1, .ref (aMd 12)), (3, .int x3), (4, .int x4), (5, .int x5), (6, .int x6)] → F_X8_goes_row_103 (F_X8_goes_row_65 n65) Md x3 x4 x5 x6 y0 = some (rr, Md_) → W p l e RMX8_goes_row s m args below meth c H locs 0 0 (MQ below (zs_Qi G (wX8 G aMd Md_ mt) rr A) args s 0 0 A) (F0 m 103 ls [.int y0]) := by
        intro Md x3 x4 x5 x6 y0 H locs ls S hl hF
        unfold F_X8_goes_row_103 at hF
        refine lv_istore (lv' := [(7, .int y0), (0, .ref (aMd 0)), (1, .ref (aMd 12)), (3, .int x3), (4, .int x4), (5, .int x5), (6, .int x6)]) hx hb dX8_goes_103 hl (by decide) rfl (fun ls hl => ?_)
        refine lv_iload hx hb dX8_goes_105 (lv_at hl 0 rfl) ?_
        refine lv_istore (lv' := [(8, .int y0), (7, .int y0), (0, .ref (aMd 0)), (1, .ref (aMd 12)), (3, .int x3), (4, .int x4), (5, .int x5), (6, .int x6)]) hx hb dX8_goes_107 hl (by decide) rfl (fun ls hl => ?_)
        refine lv_iconst (v := (0 : Int32)) hx hb dX8_goes_109 (by decide) ?_
        refine lv_istore (lv' := [(9, .int (0 : Int32)), (8, .int y0), (7, .int y0), (0, .ref (aMd 0)), (1, .ref (aMd 12)), (3, .int x3), (4, .int x4), (5, .int x5), (6, .int x6)]) hx hb dX8_goes_110 hl (by decide) rfl (fun ls hl => ?_)
        exact j112 1000 Md x3 x4 x5 x6 y0 y0 (0 : Int32) _ _ _ S (lv_sub hl [3, 4, 5, 6, 7, 8, 2, 1, 0] rfl) hF
      intro Md x3 x4 x5 x6 H locs ls S hl hF
      rw [F_X8_goes_row_65_n] at hF
      unfold F_X8_goes_row_65_s at hF
      refine lv_iload hx hb dX8_goes_65 (lv_at hl 5 rfl) ?_
      refine lv_aload_n hx hb dX8_goes_67 rfl (lv_at hl 0 rfl) ?_
      refine zs_get C hK S 0 10 (Cn := RX8) (T := TX8) (N := 33) (ci := 8) rfl rfl (by decide) zn_X8_goes_X8 (List.mem_of_getElem? (i := 1) rfl) rfl dX8_goes_68 ?_
      refine lv_icmp_ge (tgt := 259) hx hb dX8_goes_71 (by decide) (fun c36 => ?_) (fun c36 => ?_)
      · have hF := zs_t hF c36
        exact j259 Md x5 _ _ _ S (lv_sub hl [0, 1, 4] rfl) hF
      · have hF := zs_f hF c36
        refine lv_iload_n hx hb dX8_goes_74 rfl (lv_at hl 2 rfl) ?_
        refine lv_iload hx hb dX8_goes_75 (lv_at hl 5 rfl) ?_
        refine lv_ishr hx hb dX8_goes_77 ?_
        refine lv_iconst (v := (1 : Int32)) hx hb dX8_goes_78 (by decide) ?_
        refine lv_iand hx hb dX8_goes_79 ?_
        refine lv_iconst (v := (1 : Int32)) hx hb dX8_goes_80 (by decide) ?_
        refine lv_icmp_ne (tgt := 88) hx hb dX8_goes_81 (by decide) (fun c37 => ?_) (fun c37 => ?_)
        · have hF := zs_f hF c37
          refine lv_aload_n hx hb dX8_goes_88 rfl (lv_at hl 1 rfl) ?_
          refine lv_iload hx hb dX8_goes_89 (lv_at hl 5 rfl) ?_
          obtain ⟨h38, hF⟩ := zs_ckS hF
          refine zs_iald C hK S 12 rfl h38 dX8_goes_91 ?_
          refine lv_aload_n hx hb dX8_goes_92 rfl (lv_at hl 0 rfl) ?_
          refine zs_get C hK S 0 13 (Cn := RX8) (T := TX8) (N := 33) (ci := 8) rfl rfl (by decide) zn_X8_goes_X8 (List.mem_of_getElem? (i := 5) rfl) rfl dX8_goes_93 ?_
          refine lv_iload hx hb dX8_goes_96 (lv_at hl 5 rfl) ?_
          obtain ⟨h39, hF⟩ := zs_ckS hF
          refine zs_iald C hK S 5 rfl h39 dX8_goes_98 ?_
          refine lv_imul hx hb dX8_goes_99 ?_
          refine lv_bipush (v := (10 : Int32)) hx hb dX8_goes_100 (by decide) ?_
          refine lv_idiv hx hb dX8_goes_102 (by decide) ?_
          exact j103 Md x3 x4 x5 x6 (((Md 12 (x6).toNatClampNeg) * (Md 5 (x6).toNatClampNeg)) / (10 : Int32)) _ _ _ S (lv_sub hl [0, 1, 2, 3, 4, 5] rfl) hF
        · have hF := zs_t hF c37
          refine lv_iconst (v := (0 : Int32)) hx hb dX8_goes_84 (by decide) ?_
          refine lv_goto (tgt := 103) hx hb dX8_goes_85 (by decide) ?_
          exact j103 Md x3 x4 x5 x6 (0 : Int32) _ _ _ S (lv_sub hl [0, 1, 2, 3, 4, 5] rfl) hF
  have j62 : ∀ (Md : Ob) (x3 : Int32) (x4 : Int32) (x5 : Int32) (H : Heap) (locs : List Loc) (ls : Array Slot), zs_S G A s.heap H locs (wX8 G aMd Md mt) → lv_has ls 13 [(0, .ref (aMd 0)), (1, .ref (aMd 12)), (3, .int x3), (4, .int x4), (5, .int x5)] → F_X8_goes_row_62 Md x3 x4 x5 = some (rr, Md_) → W p l e RMX8_goes_row s m args below meth c H locs 0 0 (MQ below (zs_Qi G (wX8 G aMd Md_ mt) rr A) args s 0 0 A) (F0 m 62 ls []) := by
    intro Md x3 x4 x5 H locs ls S hl hF
    unfold F_X8_goes_row_62 at hF
    refine lv_iconst (v := (0 : Int32)) hx hb dX8_goes_62 (by decide) ?_
    refine lv_istore (lv' := [(6, .int (0 : Int32)), (0, .ref (aMd 0)), (1, .ref (aMd 12)), (3, .int x3), (4, .int x4), (5, .int x5)]) hx hb dX8_goes_63 hl (by decide) rfl (fun ls hl => ?_)
    exact j65 1000 Md x3 x4 x5 (0 : Int32) _ _ _ S (lv_sub hl [1, 2, 3, 4, 5, 0] rfl) hF
  have j6 : ∀ (n6 : Nat) (Md : Ob) (x2 : Int32) (x3 : Int32) (x4 : Int32) (x5 : Int32) (x6 : Int32) (H : Heap) (locs : List Loc) (ls : Array Slot), zs_S G A s.heap H locs (wX8 G aMd Md mt) → lv_has ls 13 [(0, .ref (aMd 0)), (1, .ref (aMd 12)), (2, .int x2), (3, .int x3), (4, .int x4), (5, .int x5), (6, .int x6)] → F_X8_goes_row_6 n6 Md x2 x3 x4 x5 x6 = some (rr, Md_) → W p l e RMX8_goes_row s m args below meth c H locs 0 0 (MQ below (zs_Qi G (wX8 G aMd Md_ mt) rr A) args s 0 0 A) (F0 m 6 ls []) := by
    intro n6
    induction n6 with
    | zero => intro Md x2 x3 x4 x5 x6 H locs ls _ _ hF; rw [F_X8_goes_row_6_z] at hF; cases hF
    | succ n6 ih6 =>
      have j54 : ∀ (Md : Ob) (x2 : Int32) (x3 : Int32) (x4 : Int32) (x5 : Int32) (x6 : Int32) (y0 : Int32) (y1 : Int32) (y2 : Int32) (H : Heap) (locs : List Loc) (ls : Array Slot), zs_S G A s.heap H locs (wX8 G aMd Md mt) → lv_has ls 13 [(0, .ref (aMd 0)), (1, .ref (aMd 12)), (2, .int x2), (3, .int x3), (4, .int x4), (5, .int x5), (6, .int x6)] → F_X8_goes_row_54 (F_X8_goes_row_6 n6) Md x2 x3 x4 x5 x6 y0 y1 y2 = some (rr, Md_) → W p l e RMX8_goes_row s m args below meth c H locs 0 0 (MQ below (zs_Qi G (wX8 G aMd Md_ mt) rr A) args s 0 0 A) (F0 m 54 ls [.int y0, .int y1, .int y2, .ref (aMd 10)]) := by
        intro Md x2 x3 x4 x5 x6 y0 y1 y2 H locs ls S hl hF
        unfold F_X8_goes_row_54 at hF
        refine lv_iadd hx hb dX8_goes_54 ?_
        obtain ⟨h40, hF⟩ := zs_ckS hF
        obtain ⟨Mdw41, e42⟩ : ∃ q : Ob, q = zs_up Md 10 (y2).toNatClampNeg (y1 + y0) := ⟨_, rfl⟩
        have hF := zs_letS hF e42
        refine zs_iast C hK S 10 (ws' := wX8 G aMd Mdw41 mt) rfl h40 (by rw [e42]; rfl) dX8_goes_55 (fun H locs S => ?_)
        obtain ⟨z43, e44⟩ : ∃ q : Int32, q = x6 + (1 : Int32) := ⟨_, rfl⟩
        have hF := zs_letS hF e44
        refine lv_iinc (v := z43) (lv' := [(6, .int z43), (0, .ref (aMd 0)), (1, .ref (aMd 12)), (2, .int x2), (3, .int x3), (4, .int x4), (5, .int x5)]) hx hb dX8_goes_56 hl (k := 6) rfl (by rw [e44]; rfl) (by decide) rfl (fun ls hl => ?_)
        refine lv_goto (tgt := 6) hx hb dX8_goes_59 (by decide) ?_
        exact ih6 Mdw41 x2 x3 x4 x5 z43 _ _ _ S (lv_sub hl [1, 2, 3, 4, 5, 6, 0] rfl) hF
      intro Md x2 x3 x4 x5 x6 H locs ls S hl hF
      rw [F_X8_goes_row_6_n] at hF
      unfold F_X8_goes_row_6_s at hF
      refine lv_iload hx hb dX8_goes_6 (lv_at hl 6 rfl) ?_
      refine lv_aload_n hx hb dX8_goes_8 rfl (lv_at hl 0 rfl) ?_
      refine zs_get C hK S 0 10 (Cn := RX8) (T := TX8) (N := 33) (ci := 8) rfl rfl (by decide) zn_X8_goes_X8 (List.mem_of_getElem? (i := 1) rfl) rfl dX8_goes_9 ?_
      refine lv_icmp_ge (tgt := 62) hx hb dX8_goes_12 (by decide) (fun c45 => ?_) (fun c45 => ?_)
      · have hF := zs_t hF c45
        exact j62 Md x3 x4 x5 _ _ _ S (lv_sub hl [0, 1, 3, 4, 5] rfl) hF
      · have hF := zs_f hF c45
        refine lv_aload_n hx hb dX8_goes_15 rfl (lv_at hl 0 rfl) ?_
        refine zs_get C hK S 0 22 (Cn := RX8) (T := TX8) (N := 33) (ci := 8) rfl rfl (by decide) zn_X8_goes_X8 (List.mem_of_getElem? (i := 2) rfl) rfl dX8_goes_16 ?_
        refine lv_iload hx hb dX8_goes_19 (lv_at hl 6 rfl) ?_
        refine lv_aload_n hx hb dX8_goes_21 rfl (lv_at hl 1 rfl) ?_
        refine lv_iload hx hb dX8_goes_22 (lv_at hl 6 rfl) ?_
        obtain ⟨h46, hF⟩ := zs_ckS hF
        refine zs_iald C hK S 12 rfl h46 dX8_goes_24 ?_
        refine lv_aload_n hx hb dX8_goes_25 rfl (lv_at hl 0 rfl) ?_
        refine zs_get C hK S 0 15 (Cn := RX8) (T := TX8) (N := 33) (ci := 8) rfl rfl (by decide) zn_X8_goes_X8 (List.mem_of_getElem? (i := 3) rfl) rfl dX8_goes_26 ?_
        refine lv_iload hx hb dX8_goes_29 (lv_at hl 6 rfl) ?_
        obtain ⟨h47, hF⟩ := zs_ckS hF
        refine zs_iald C hK S 7 rfl h47 dX8_goes_31 ?_
        refine lv_iload_n hx hb dX8_goes_32 rfl (lv_at hl 2 rfl) ?_
        refine lv_bipush (v := (8 : Int32)) hx hb dX8_goes_33 (by decide) ?_
        refine lv_irem hx hb dX8_goes_35 (by decide) ?_
        refine lv_ishr hx hb dX8_goes_36 ?_
        refine lv_iconst (v := (1 : Int32)) hx hb dX8_goes_37 (by decide) ?_
        refine lv_iand hx hb dX8_goes_38 ?_
        refine lv_iconst (v := (1 : Int32)) hx hb dX8_goes_39 (by decide) ?_
        refine lv_icmp_ne (tgt := 53) hx hb dX8_goes_40 (by decide) (fun c48 => ?_) (fun c48 => ?_)
        · have hF := zs_f hF c48
          refine lv_iconst (v := (0 : Int32)) hx hb dX8_goes_53 (by decide) ?_
          exact j54 Md x2 x3 x4 x5 x6 (0 : Int32) (Md 12 (x6).toNatClampNeg) x6 _ _ _ S (lv_sub hl [0, 1, 2, 3, 4, 5, 6] rfl) hF
        · have hF := zs_t hF c48
          refine lv_aload_n hx hb dX8_goes_43 rfl (lv_at hl 0 rfl) ?_
          refine zs_get C hK S 0 14 (Cn := RX8) (T := TX8) (N := 33) (ci := 8) rfl rfl (by decide) zn_X8_goes_X8 (List.mem_of_getElem? (i := 4) rfl) rfl dX8_goes_44 ?_
          refine lv_iload hx hb dX8_goes_47 (lv_at hl 6 rfl) ?_
          obtain ⟨h49, hF⟩ := zs_ckS hF
          refine zs_iald C hK S 6 rfl h49 dX8_goes_49 ?_
          refine lv_goto (tgt := 54) hx hb dX8_goes_50 (by decide) ?_
          exact j54 Md x2 x3 x4 x5 x6 (Md 6 (x6).toNatClampNeg) (Md 12 (x6).toNatClampNeg) x6 _ _ _ S (lv_sub hl [0, 1, 2, 3, 4, 5, 6] rfl) hF
  refine lv_iconst (v := (0 : Int32)) hx hb dX8_goes_0 (by decide) ?_
  refine lv_istore (lv' := [(5, .int (0 : Int32)), (0, .ref (aMd 0)), (1, .ref (aMd 12)), (2, .int u2), (3, .int u3), (4, .int u4)]) hx hb dX8_goes_1 hl (by decide) rfl (fun ls hl => ?_)
  refine lv_iconst (v := (0 : Int32)) hx hb dX8_goes_3 (by decide) ?_
  refine lv_istore (lv' := [(6, .int (0 : Int32)), (5, .int (0 : Int32)), (0, .ref (aMd 0)), (1, .ref (aMd 12)), (2, .int u2), (3, .int u3), (4, .int u4)]) hx hb dX8_goes_4 hl (by decide) rfl (fun ls hl => ?_)
  exact j6 1000 Md u2 u3 u4 (0 : Int32) (0 : Int32) _ _ _ S (lv_sub hl [2, 3, 4, 5, 6, 1, 0] rfl) hF

theorem zd_X8_goes : yX8_goes.cls = RX8 ∧ yX8_goes.cls ≠ "java/lang/invoke/MethodHandle" ∧ yX8_goes.cls ≠ "java/lang/invoke/VarHandle" ∧ (parseMethodDescriptor yX8_goes.desc).map (fun d => d.parameters.length) = some 4 := by decide +kernel
abbrev RMX8_hour : Room := { frames := 1, cells := 0, slots := 0, locals := 32 }
theorem zn_X8_hour_X8 : ∀ w ∈ wsX80, w ∈ wsX8_hour := zs_inl wsX80 [17, 18, 19, 20, 21, 22, 23, 24, 25, 26, 27, 28, 29, 30, 31, 32, 33, 34, 35, 36, 37, 38, 39, 40, 41, 42, 43, 44, 45, 46, 47, 48, 49] (by decide +kernel)
set_option maxRecDepth 100000 in
set_option maxHeartbeats 4000000 in
theorem c_X8_hour (l : Launch) (G : GG) (aMd : Ad) (Md : Ob) (mt : Int64) (sz : Nat) (rr : Int32) (Md_ : Ob) (hF : F_X8_hour Md = some (rr, Md_)) : Met l yX8_hour wsX8_hour RMX8_hour (va_Pc [.ref (aMd 0)] (zs_pre G (wX8 G aMd Md mt) sz)) (zs_Qi G (wX8 G aMd Md_ mt) rr (va_A (wX8 G aMd Md mt) sz)) 0 0 (va_A (wX8 G aMd Md mt) sz) := by
  refine zs_met (cc := cX8_hour) (maxL := 2) (ret := (some .int)) (own := RX8) (Qc := zs_Qi G (wX8 G aMd Md_ mt) rr) (by decide) rfl rfl (Nat.le_of_ble_eq_true rfl) ?_
  intro p e s m args below meth c C A hK hA S _ _ ls hl
  have hl : lv_has ls 2 [(0, .ref (aMd 0))] := hl
  have hx := C.1.1
  have hb := C.1.2.1
  unfold F_X8_hour at hF
  refine lv_aload_n hx hb dX8_hour_0 rfl (lv_at hl 0 rfl) ?_
  refine zs_get C hK S 0 18 (Cn := RX8) (T := TX8) (N := 33) (ci := 8) rfl rfl (by decide) zn_X8_hour_X8 (List.mem_of_getElem? (i := 1) rfl) rfl dX8_hour_1 ?_
  refine lv_sipush (v := (999 : Int32)) hx hb dX8_hour_4 (by decide) ?_
  refine lv_icmp_ne (tgt := 13) hx hb dX8_hour_7 (by decide) (fun c1 => ?_) (fun c1 => ?_)
  · have hF := zs_f hF c1
    refine lv_aload_n hx hb dX8_hour_13 rfl (lv_at hl 0 rfl) ?_
    refine lv_aload_n hx hb dX8_hour_14 rfl (lv_at hl 0 rfl) ?_
    refine zs_get C hK S 0 17 (Cn := RX8) (T := TX8) (N := 33) (ci := 8) rfl rfl (by decide) zn_X8_hour_X8 (List.mem_of_getElem? (i := 2) rfl) rfl dX8_hour_15 ?_
    refine lv_aload_n hx hb dX8_hour_18 rfl (lv_at hl 0 rfl) ?_
    refine zs_get C hK S 0 18 (Cn := RX8) (T := TX8) (N := 33) (ci := 8) rfl rfl (by decide) zn_X8_hour_X8 (List.mem_of_getElem? (i := 1) rfl) rfl dX8_hour_19 ?_
    refine lv_aload_n hx hb dX8_hour_22 rfl (lv_at hl 0 rfl) ?_
    refine zs_get C hK S 0 19 (Cn := RX8) (T := TX8) (N := 33) (ci := 8) rfl rfl (by decide) zn_X8_hour_X8 (List.mem_of_getElem? (i := 3) rfl) rfl dX8_hour_23 ?_
    refine lv_aload_n hx hb dX8_hour_26 rfl (lv_at hl 0 rfl) ?_
    refine zs_get C hK S 0 20 (Cn := RX8) (T := TX8) (N := 33) (ci := 8) rfl rfl (by decide) zn_X8_hour_X8 (List.mem_of_getElem? (i := 4) rfl) rfl dX8_hour_27 ?_
    obtain ⟨r2, Mdw3, f4, hF⟩ := zs_b2S hF
    refine zs_calli (wr := ([] : va_W)) (ws' := wX8 G aMd Mdw3 mt) S hA [0, 1, 2, 3, 4, 5, 6, 7, 8, 9, 10, 11, 12, 13, 14, 15, 16, 17] [] [0, 1, 2, 3, 4, 5, 6, 7, 8, 9, 10, 11, 12, 13, 14, 15, 16, 17] (zs_runV C hK hA S [.ref (aMd 9), .int (Md 0 18), .int (Md 0 19), .int (Md 0 20)] [] [0, 1, 2, 3, 4, 5, 6, 7, 8, 9, 10, 11, 12, 13, 14, 15, 16, 17] 0 4 (c_X8_goes_warm l G aMd Md mt ((Md 0 18)) ((Md 0 19)) ((Md 0 20)) s.heap.size r2 Mdw3 f4) gX8_hour_X8_goes rfl rfl rfl zd_X8_goes ⟨Nat.le_of_ble_eq_true rfl, Nat.le_of_ble_eq_true rfl⟩ rfl rfl rfl rfl rfl hl rfl (Nat.le_of_ble_eq_true rfl) dX8_hour_30 ⟨Nat.le_of_ble_eq_true rfl, Nat.le_of_ble_eq_true rfl⟩) rfl rfl rfl (by decide) rfl rfl (fun H locs S => ?_)
    refine lv_istore_n (lv' := [(1, .int r2), (0, .ref (aMd 0))]) hx hb dX8_hour_33 rfl hl (by decide) rfl (fun ls hl => ?_)
    refine lv_aload_n hx hb dX8_hour_34 rfl (lv_at hl 1 rfl) ?_
    refine lv_dup hx hb dX8_hour_35 rfl ?_
    refine zs_get C hK S 0 21 (Cn := RX8) (T := TX8) (N := 33) (ci := 8) rfl rfl (by decide) zn_X8_hour_X8 (List.mem_of_getElem? (i := 5) rfl) rfl dX8_hour_36 ?_
    refine lv_iload_n hx hb dX8_hour_39 rfl (lv_at hl 0 rfl) ?_
    refine lv_iadd hx hb dX8_hour_40 ?_
    obtain ⟨Mdw5, e6⟩ : ∃ q : Ob, q = zs_up Mdw3 0 21 ((Mdw3 0 21) + r2) := ⟨_, rfl⟩
    have hF := zs_letS hF e6
    refine zs_put C hK S 0 21 (ws' := wX8 G aMd Mdw5 mt) (Cn := RX8) (T := TX8) (N := 33) (ci := 8) rfl rfl (by decide) zn_X8_hour_X8 tyX8_ok nmX8 (List.mem_of_getElem? (i := 5) rfl) rfl rfl rfl (Nat.le_of_ble_eq_true rfl) (by rw [e6]; rfl) dX8_hour_41 (fun H locs S => ?_)
    refine lv_aload_n hx hb dX8_hour_44 rfl (lv_at hl 1 rfl) ?_
    refine lv_dup hx hb dX8_hour_45 rfl ?_
    refine zs_get C hK S 0 18 (Cn := RX8) (T := TX8) (N := 33) (ci := 8) rfl rfl (by decide) zn_X8_hour_X8 (List.mem_of_getElem? (i := 1) rfl) rfl dX8_hour_46 ?_
    refine lv_iconst (v := (1 : Int32)) hx hb dX8_hour_49 (by decide) ?_
    refine lv_iadd hx hb dX8_hour_50 ?_
    obtain ⟨Mdw7, e8⟩ : ∃ q : Ob, q = zs_up Mdw5 0 18 ((Mdw5 0 18) + (1 : Int32)) := ⟨_, rfl⟩
    have hF := zs_letS hF e8
    refine zs_put C hK S 0 18 (ws' := wX8 G aMd Mdw7 mt) (Cn := RX8) (T := TX8) (N := 33) (ci := 8) rfl rfl (by decide) zn_X8_hour_X8 tyX8_ok nmX8 (List.mem_of_getElem? (i := 1) rfl) rfl rfl rfl (Nat.le_of_ble_eq_true rfl) (by rw [e8]; rfl) dX8_hour_51 (fun H locs S => ?_)
    refine lv_iload_n hx hb dX8_hour_54 rfl (lv_at hl 0 rfl) ?_
    obtain ⟨e9, e10⟩ := zs_s2 hF
    exact zs_iretE C S e9 (by rw [e10]) dX8_hour_55
  · have hF := zs_t hF c1
    refine lv_bipush (v := (-2 : Int32)) hx hb dX8_hour_10 (by decide) ?_
    obtain ⟨e11, e12⟩ := zs_s2 hF
    exact zs_iretE C S e11 (by rw [e12]) dX8_hour_12

abbrev RMX8_notes : Room := { frames := 0, cells := 0, slots := 0, locals := 0 }
theorem zn_X8_notes_X8 : ∀ w ∈ wsX80, w ∈ wsX8_notes := zs_inl wsX80 [3, 4, 5, 6, 7, 8, 9, 10, 11, 12, 13, 14, 15, 16, 17, 18, 19, 20, 21, 22, 23, 24, 25, 26, 27, 28, 29, 30, 31, 32, 33, 34, 35] (by decide +kernel)
set_option maxRecDepth 100000 in
set_option maxHeartbeats 4000000 in
theorem c_X8_notes (l : Launch) (G : GG) (aMd : Ad) (Md : Ob) (mt : Int64) (u1 : Int32) (sz : Nat) (Md_ : Ob) (hF : F_X8_notes Md u1 = some Md_) : Met l yX8_notes wsX8_notes RMX8_notes (va_Pc [.ref (aMd 0), .int u1] (zs_pre G (wX8 G aMd Md mt) sz)) (zs_Qv G (wX8 G aMd Md_ mt) (va_A (wX8 G aMd Md mt) sz)) 0 0 (va_A (wX8 G aMd Md mt) sz) := by
  refine zs_met (cc := cX8_notes) (maxL := 3) (ret := none) (own := RX8) (Qc := zs_Qv G (wX8 G aMd Md_ mt)) (by decide) rfl rfl (Nat.le_of_ble_eq_true rfl) ?_
  intro p e s m args below meth c C A hK hA S _ _ ls hl
  have hl : lv_has ls 3 [(0, .ref (aMd 0)), (1, .int u1)] := hl
  have hx := C.1.1
  have hb := C.1.2.1
  unfold F_X8_notes at hF
  have j43 : ∀ (Md : Ob) (x1 : Int32) (H : Heap) (locs : List Loc) (ls : Array Slot), zs_S G A s.heap H locs (wX8 G aMd Md mt) → lv_has ls 3 [(0, .ref (aMd 0)), (1, .int x1)] → F_X8_notes_43 Md x1 = some Md_ → W p l e RMX8_notes s m args below meth c H locs 0 0 (MQ below (zs_Qv G (wX8 G aMd Md_ mt) A) args s 0 0 A) (F0 m 43 ls []) := by
    intro Md x1 H locs ls S hl hF
    unfold F_X8_notes_43 at hF
    refine lv_aload_n hx hb dX8_notes_43 rfl (lv_at hl 0 rfl) ?_
    refine zs_get C hK S 0 23 (Cn := RX8) (T := TX8) (N := 33) (ci := 8) rfl rfl (by decide) zn_X8_notes_X8 (List.mem_of_getElem? (i := 2) rfl) rfl dX8_notes_44 ?_
    refine lv_aload_n hx hb dX8_notes_47 rfl (lv_at hl 0 rfl) ?_
    refine zs_get C hK S 0 24 (Cn := RX8) (T := TX8) (N := 33) (ci := 8) rfl rfl (by decide) zn_X8_notes_X8 (List.mem_of_getElem? (i := 1) rfl) rfl dX8_notes_48 ?_
    refine lv_iload_n hx hb dX8_notes_51 rfl (lv_at hl 1 rfl) ?_
    obtain ⟨h1, hF⟩ := zs_ckS hF
    obtain ⟨Mdw2, e3⟩ : ∃ q : Ob, q = zs_up Md 11 ((Md 0 24)).toNatClampNeg x1 := ⟨_, rfl⟩
    have hF := zs_letS hF e3
    refine zs_iast C hK S 11 (ws' := wX8 G aMd Mdw2 mt) rfl h1 (by rw [e3]; rfl) dX8_notes_52 (fun H locs S => ?_)
    refine lv_aload_n hx hb dX8_notes_53 rfl (lv_at hl 0 rfl) ?_
    refine lv_dup hx hb dX8_notes_54 rfl ?_
    refine zs_get C hK S 0 24 (Cn := RX8) (T := TX8) (N := 33) (ci := 8) rfl rfl (by decide) zn_X8_notes_X8 (List.mem_of_getElem? (i := 1) rfl) rfl dX8_notes_55 ?_
    refine lv_iconst (v := (1 : Int32)) hx hb dX8_notes_58 (by decide) ?_
    refine lv_iadd hx hb dX8_notes_59 ?_
    obtain ⟨Mdw4, e5⟩ : ∃ q : Ob, q = zs_up Mdw2 0 24 ((Mdw2 0 24) + (1 : Int32)) := ⟨_, rfl⟩
    have hF := zs_letS hF e5
    refine zs_put C hK S 0 24 (ws' := wX8 G aMd Mdw4 mt) (Cn := RX8) (T := TX8) (N := 33) (ci := 8) rfl rfl (by decide) zn_X8_notes_X8 tyX8_ok nmX8 (List.mem_of_getElem? (i := 1) rfl) rfl rfl rfl (Nat.le_of_ble_eq_true rfl) (by rw [e5]; rfl) dX8_notes_60 (fun H locs S => ?_)
    have e6 := zs_s1 hF
    exact zs_vretE C S (by rw [e6]) dX8_notes_63
  have j37 : ∀ (Md : Ob) (x1 : Int32) (H : Heap) (locs : List Loc) (ls : Array Slot), zs_S G A s.heap H locs (wX8 G aMd Md mt) → lv_has ls 3 [(0, .ref (aMd 0)), (1, .int x1)] → F_X8_notes_37 Md x1 = some Md_ → W p l e RMX8_notes s m args below meth c H locs 0 0 (MQ below (zs_Qv G (wX8 G aMd Md_ mt) A) args s 0 0 A) (F0 m 37 ls []) := by
    intro Md x1 H locs ls S hl hF
    unfold F_X8_notes_37 at hF
    refine lv_aload_n hx hb dX8_notes_37 rfl (lv_at hl 0 rfl) ?_
    refine lv_bipush (v := (9 : Int32)) hx hb dX8_notes_38 (by decide) ?_
    obtain ⟨Mdw7, e8⟩ : ∃ q : Ob, q = zs_up Md 0 24 (9 : Int32) := ⟨_, rfl⟩
    have hF := zs_letS hF e8
    refine zs_put C hK S 0 24 (ws' := wX8 G aMd Mdw7 mt) (Cn := RX8) (T := TX8) (N := 33) (ci := 8) rfl rfl (by decide) zn_X8_notes_X8 tyX8_ok nmX8 (List.mem_of_getElem? (i := 1) rfl) rfl rfl rfl (Nat.le_of_ble_eq_true rfl) (by rw [e8]; rfl) dX8_notes_40 (fun H locs S => ?_)
    exact j43 Mdw7 x1 _ _ _ S (lv_sub hl [0, 1] rfl) hF
  have j11 : ∀ (n11 : Nat) (Md : Ob) (x1 : Int32) (x2 : Int32) (H : Heap) (locs : List Loc) (ls : Array Slot), zs_S G A s.heap H locs (wX8 G aMd Md mt) → lv_has ls 3 [(0, .ref (aMd 0)), (1, .int x1), (2, .int x2)] → F_X8_notes_11 n11 Md x1 x2 = some Md_ → W p l e RMX8_notes s m args below meth c H locs 0 0 (MQ below (zs_Qv G (wX8 G aMd Md_ mt) A) args s 0 0 A) (F0 m 11 ls []) := by
    intro n11
    induction n11 with
    | zero => intro Md x1 x2 H locs ls _ _ hF; rw [F_X8_notes_11_z] at hF; cases hF
    | succ n11 ih11 =>
      intro Md x1 x2 H locs ls S hl hF
      rw [F_X8_notes_11_n] at hF
      unfold F_X8_notes_11_s at hF
      refine lv_iload_n hx hb dX8_notes_11 rfl (lv_at hl 2 rfl) ?_
      refine lv_bipush (v := (10 : Int32)) hx hb dX8_notes_12 (by decide) ?_
      refine lv_icmp_ge (tgt := 37) hx hb dX8_notes_14 (by decide) (fun c9 => ?_) (fun c9 => ?_)
      · have hF := zs_t hF c9
        exact j37 Md x1 _ _ _ S (lv_sub hl [0, 1] rfl) hF
      · have hF := zs_f hF c9
        refine lv_aload_n hx hb dX8_notes_17 rfl (lv_at hl 0 rfl) ?_
        refine zs_get C hK S 0 23 (Cn := RX8) (T := TX8) (N := 33) (ci := 8) rfl rfl (by decide) zn_X8_notes_X8 (List.mem_of_getElem? (i := 2) rfl) rfl dX8_notes_18 ?_
        refine lv_iload_n hx hb dX8_notes_21 rfl (lv_at hl 2 rfl) ?_
        refine lv_iconst (v := (1 : Int32)) hx hb dX8_notes_22 (by decide) ?_
        refine lv_isub hx hb dX8_notes_23 ?_
        refine lv_aload_n hx hb dX8_notes_24 rfl (lv_at hl 0 rfl) ?_
        refine zs_get C hK S 0 23 (Cn := RX8) (T := TX8) (N := 33) (ci := 8) rfl rfl (by decide) zn_X8_notes_X8 (List.mem_of_getElem? (i := 2) rfl) rfl dX8_notes_25 ?_
        refine lv_iload_n hx hb dX8_notes_28 rfl (lv_at hl 2 rfl) ?_
        obtain ⟨h10, hF⟩ := zs_ckS hF
        refine zs_iald C hK S 11 rfl h10 dX8_notes_29 ?_
        obtain ⟨h11, hF⟩ := zs_ckS hF
        obtain ⟨Mdw12, e13⟩ : ∃ q : Ob, q = zs_up Md 11 ((x2 - (1 : Int32))).toNatClampNeg (Md 11 (x2).toNatClampNeg) := ⟨_, rfl⟩
        have hF := zs_letS hF e13
        refine zs_iast C hK S 11 (ws' := wX8 G aMd Mdw12 mt) rfl h11 (by rw [e13]; rfl) dX8_notes_30 (fun H locs S => ?_)
        obtain ⟨z14, e15⟩ : ∃ q : Int32, q = x2 + (1 : Int32) := ⟨_, rfl⟩
        have hF := zs_letS hF e15
        refine lv_iinc (v := z14) (lv' := [(2, .int z14), (0, .ref (aMd 0)), (1, .int x1)]) hx hb dX8_notes_31 hl (k := 2) rfl (by rw [e15]; rfl) (by decide) rfl (fun ls hl => ?_)
        refine lv_goto (tgt := 11) hx hb dX8_notes_34 (by decide) ?_
        exact ih11 Mdw12 x1 z14 _ _ _ S (lv_sub hl [1, 2, 0] rfl) hF
  refine lv_aload_n hx hb dX8_notes_0 rfl (lv_at hl 0 rfl) ?_
  refine zs_get C hK S 0 24 (Cn := RX8) (T := TX8) (N := 33) (ci := 8) rfl rfl (by decide) zn_X8_notes_X8 (List.mem_of_getElem? (i := 1) rfl) rfl dX8_notes_1 ?_
  refine lv_bipush (v := (10 : Int32)) hx hb dX8_notes_4 (by decide) ?_
  refine lv_icmp_ne (tgt := 43) hx hb dX8_notes_6 (by decide) (fun c16 => ?_) (fun c16 => ?_)
  · have hF := zs_f hF c16
    exact j43 Md u1 _ _ _ S (lv_sub hl [0, 1] rfl) hF
  · have hF := zs_t hF c16
    refine lv_iconst (v := (1 : Int32)) hx hb dX8_notes_9 (by decide) ?_
    refine lv_istore_n (lv' := [(2, .int (1 : Int32)), (0, .ref (aMd 0)), (1, .int u1)]) hx hb dX8_notes_10 rfl hl (by decide) rfl (fun ls hl => ?_)
    exact j11 1000 Md u1 (1 : Int32) _ _ _ S (lv_sub hl [1, 2, 0] rfl) hF

theorem zd_X8_many : yX8_many.cls ≠ "java/lang/invoke/MethodHandle" ∧ yX8_many.cls ≠ "java/lang/invoke/VarHandle" ∧ (parseMethodDescriptor yX8_many.desc).map (fun d => d.parameters.length) = some 1 := by decide +kernel
theorem zd_X8_notes : yX8_notes.cls = RX8 ∧ yX8_notes.cls ≠ "java/lang/invoke/MethodHandle" ∧ yX8_notes.cls ≠ "java/lang/invoke/VarHandle" ∧ (parseMethodDescriptor yX8_notes.desc).map (fun d => d.parameters.length) = some 1 := by decide +kernel
abbrev RMX8_shut : Room := { frames := 2, cells := 0, slots := 0, locals := 46 }
theorem zn_X8_shut_X8 : ∀ w ∈ wsX80, w ∈ wsX8_shut := zs_inl wsX80 [20, 21, 22, 23, 24, 25, 26, 27, 28, 29, 30, 31, 32, 33, 34, 35, 36, 37, 38, 39, 40, 41, 42, 43, 44, 45, 46, 47, 48, 49, 50, 51, 52] (by decide +kernel)
set_option maxRecDepth 100000 in
set_option maxHeartbeats 4000000 in
theorem c_X8_shut (l : Launch) (G : GG) (aMd : Ad) (Md : Ob) (mt : Int64) (u1 : Int32) (u2 : Int32) (sz : Nat) (rr : Int32) (Md_ : Ob) (hF : F_X8_shut Md u1 u2 = some (rr, Md_)) : Met l yX8_shut wsX8_shut RMX8_shut (va_Pc [.ref (aMd 0), .int u1, .int u2] (zs_pre G (wX8 G aMd Md mt) sz)) (zs_Qi G (wX8 G aMd Md_ mt) rr (va_A (wX8 G aMd Md mt) sz)) 0 0 (va_A (wX8 G aMd Md mt) sz) := by
  refine zs_met (cc := cX8_shut) (maxL := 3) (ret := (some .int)) (own := RX8) (Qc := zs_Qi G (wX8 G aMd Md_ mt) rr) (by decide) rfl rfl (Nat.le_of_ble_eq_true rfl) ?_
  intro p e s m args below meth c C A hK hA S _ _ ls hl
  have hl : lv_has ls 3 [(0, .ref (aMd 0)), (1, .int u1), (2, .int u2)] := hl
  have hx := C.1.1
  have hb := C.1.2.1
  unfold F_X8_shut at hF
  refine lv_aload_n hx hb dX8_shut_0 rfl (lv_at hl 0 rfl) ?_
  refine lv_iload_n hx hb dX8_shut_1 rfl (lv_at hl 1 rfl) ?_
  obtain ⟨r1, f2, hF⟩ := zs_bdS hF
  refine zs_calli (wr := ([] : va_W)) (ws' := wX8 G aMd Md mt) S hA [0, 1, 2, 3, 4, 5, 6, 7, 8, 9, 10, 11, 12, 13, 14, 15, 16, 17] [] [0, 1, 2, 3, 4, 5, 6, 7, 8, 9, 10, 11, 12, 13, 14, 15, 16, 17] (zs_runV C hK hA S [.int u1] [] [0, 1, 2, 3, 4, 5, 6, 7, 8, 9, 10, 11, 12, 13, 14, 15, 16, 17] 0 1 (c_X8_isWall l G aMd Md mt u1 s.heap.size r1 f2) gX8_shut_X8_isWall rfl rfl rfl zd_X8_isWall ⟨Nat.le_of_ble_eq_true rfl, Nat.le_of_ble_eq_true rfl⟩ rfl rfl rfl rfl rfl hl rfl (Nat.le_of_ble_eq_true rfl) dX8_shut_2 ⟨Nat.le_of_ble_eq_true rfl, Nat.le_of_ble_eq_true rfl⟩) rfl rfl rfl (by decide) rfl rfl (fun H locs S => ?_)
  refine lv_if_eq (tgt := 18) hx hb dX8_shut_5 (by decide) (fun c3 => ?_) (fun c3 => ?_)
  · have hF := zs_t hF c3
    refine lv_iconst (v := (-1 : Int32)) hx hb dX8_shut_18 (by decide) ?_
    obtain ⟨e4, e5⟩ := zs_s2 hF
    exact zs_iretE C S e4 (by rw [e5]) dX8_shut_19
  · have hF := zs_f hF c3
    refine lv_iload_n hx hb dX8_shut_8 rfl (lv_at hl 2 rfl) ?_
    refine lv_i2l (v := ((u2).toInt64)) hx hb dX8_shut_9 rfl ?_
    refine lv_lconst (v := (0 : Int64)) hx hb dX8_shut_10 rfl ?_
    refine lv_lconst (v := (1 : Int64)) hx hb dX8_shut_11 rfl ?_
    obtain ⟨r6, f7, hF⟩ := zs_bdS hF
    refine zs_calliP S hA (zs_runS C hK hA S [.long ((u2).toInt64), .long (0 : Int64), .long (1 : Int64)] [] [] 3 (c_X8_in l G (((u2).toInt64)) ((0 : Int64)) ((1 : Int64)) H.size r6 f7) gX8_shut_X8_in rfl rfl rfl zd_X8_in ⟨Nat.le_of_ble_eq_true rfl, Nat.le_of_ble_eq_true rfl⟩ rfl rfl rfl hl rfl (Nat.le_of_ble_eq_true rfl) dX8_shut_12 ⟨Nat.le_of_ble_eq_true rfl, Nat.le_of_ble_eq_true rfl⟩) (fun H locs S => ?_)
    refine lv_if_ne (tgt := 20) hx hb dX8_shut_15 (by decide) (fun c8 => ?_) (fun c8 => ?_)
    · have hF := zs_f hF c8
      refine lv_aload_n hx hb dX8_shut_20 rfl (lv_at hl 0 rfl) ?_
      refine zs_get C hK S 0 19 (Cn := RX8) (T := TX8) (N := 33) (ci := 8) rfl rfl (by decide) zn_X8_shut_X8 (List.mem_of_getElem? (i := 1) rfl) rfl dX8_shut_21 ?_
      refine lv_iload_n hx hb dX8_shut_24 rfl (lv_at hl 1 rfl) ?_
      refine lv_ishr hx hb dX8_shut_25 ?_
      refine lv_iconst (v := (1 : Int32)) hx hb dX8_shut_26 (by decide) ?_
      refine lv_iand hx hb dX8_shut_27 ?_
      refine lv_iload_n hx hb dX8_shut_28 rfl (lv_at hl 2 rfl) ?_
      refine lv_icmp_ne (tgt := 35) hx hb dX8_shut_29 (by decide) (fun c9 => ?_) (fun c9 => ?_)
      · have hF := zs_f hF c9
        refine lv_aload_n hx hb dX8_shut_35 rfl (lv_at hl 0 rfl) ?_
        refine lv_dup hx hb dX8_shut_36 rfl ?_
        refine zs_get C hK S 0 19 (Cn := RX8) (T := TX8) (N := 33) (ci := 8) rfl rfl (by decide) zn_X8_shut_X8 (List.mem_of_getElem? (i := 1) rfl) rfl dX8_shut_37 ?_
        refine lv_iconst (v := (1 : Int32)) hx hb dX8_shut_40 (by decide) ?_
        refine lv_iload_n hx hb dX8_shut_41 rfl (lv_at hl 1 rfl) ?_
        refine lv_ishl hx hb dX8_shut_42 ?_
        refine lv_ixor hx hb dX8_shut_43 ?_
        obtain ⟨Mdw10, e11⟩ : ∃ q : Ob, q = zs_up Md 0 19 ((Md 0 19) ^^^ ((1 : Int32) <<< (u1 &&& 31))) := ⟨_, rfl⟩
        have hF := zs_letS hF e11
        refine zs_put C hK S 0 19 (ws' := wX8 G aMd Mdw10 mt) (Cn := RX8) (T := TX8) (N := 33) (ci := 8) rfl rfl (by decide) zn_X8_shut_X8 tyX8_ok nmX8 (List.mem_of_getElem? (i := 1) rfl) rfl rfl rfl (Nat.le_of_ble_eq_true rfl) (by rw [e11]; rfl) dX8_shut_44 (fun H locs S => ?_)
        refine lv_aload_n hx hb dX8_shut_47 rfl (lv_at hl 0 rfl) ?_
        refine lv_iload_n hx hb dX8_shut_48 rfl (lv_at hl 1 rfl) ?_
        obtain ⟨Mdw12, f13, hF⟩ := zs_bdS hF
        refine zs_callv (wr := ([] : va_W)) (ws' := wX8 G aMd Mdw12 mt) S hA [0, 1, 2, 3, 4, 5, 6, 7, 8, 9, 10, 11, 12, 13, 14, 15, 16, 17] [] [0, 1, 2, 3, 4, 5, 6, 7, 8, 9, 10, 11, 12, 13, 14, 15, 16, 17] (zs_runV C hK hA S [.int u1] [] [0, 1, 2, 3, 4, 5, 6, 7, 8, 9, 10, 11, 12, 13, 14, 15, 16, 17] 0 1 (c_X8_notes l G aMd Mdw10 mt u1 H.size Mdw12 f13) gX8_shut_X8_notes rfl rfl rfl zd_X8_notes ⟨Nat.le_of_ble_eq_true rfl, Nat.le_of_ble_eq_true rfl⟩ rfl rfl rfl rfl rfl hl rfl (Nat.le_of_ble_eq_true rfl) dX8_shut_49 ⟨Nat.le_of_ble_eq_true rfl, Nat.le_of_ble_eq_true rfl⟩) rfl rfl rfl (by decide) rfl rfl (fun H locs S => ?_)
        refine lv_aload_n hx hb dX8_shut_52 rfl (lv_at hl 0 rfl) ?_
        refine zs_get C hK S 0 19 (Cn := RX8) (T := TX8) (N := 33) (ci := 8) rfl rfl (by decide) zn_X8_shut_X8 (List.mem_of_getElem? (i := 1) rfl) rfl dX8_shut_53 ?_
        obtain ⟨r14, f15, hF⟩ := zs_bdS hF
        refine zs_calliP S hA (zs_runS C hK hA S [.int (Mdw12 0 19)] [] [] 1 (c_X8_many l G ((Mdw12 0 19)) H.size r14 f15) gX8_shut_X8_many rfl rfl rfl zd_X8_many ⟨Nat.le_of_ble_eq_true rfl, Nat.le_of_ble_eq_true rfl⟩ rfl rfl rfl hl rfl (Nat.le_of_ble_eq_true rfl) dX8_shut_56 ⟨Nat.le_of_ble_eq_true rfl, Nat.le_of_ble_eq_true rfl⟩) (fun H locs S => ?_)
        obtain ⟨e16, e17⟩ := zs_s2 hF
        exact zs_iretE C S e16 (by rw [e17]) dX8_shut_59
      · have hF := zs_t hF c9
        refine lv_bipush (v := (-2 : Int32)) hx hb dX8_shut_32 (by decide) ?_
        obtain ⟨e18, e19⟩ := zs_s2 hF
        exact zs_iretE C S e18 (by rw [e19]) dX8_shut_34
    · have hF := zs_t hF c8
      refine lv_iconst (v := (-1 : Int32)) hx hb dX8_shut_18 (by decide) ?_
      obtain ⟨e20, e21⟩ := zs_s2 hF
      exact zs_iretE C S e20 (by rw [e21]) dX8_shut_19

abbrev RMX8_mirror : Room := { frames := 2, cells := 0, slots := 0, locals := 46 }
theorem zn_X8_mirror_X8 : ∀ w ∈ wsX80, w ∈ wsX8_mirror := zs_inl wsX80 [20, 21, 22, 23, 24, 25, 26, 27, 28, 29, 30, 31, 32, 33, 34, 35, 36, 37, 38, 39, 40, 41, 42, 43, 44, 45, 46, 47, 48, 49, 50, 51, 52] (by decide +kernel)
set_option maxRecDepth 100000 in
set_option maxHeartbeats 4000000 in
theorem c_X8_mirror (l : Launch) (G : GG) (aMd : Ad) (Md : Ob) (mt : Int64) (u1 : Int32) (u2 : Int32) (sz : Nat) (rr : Int32) (Md_ : Ob) (hF : F_X8_mirror Md u1 u2 = some (rr, Md_)) : Met l yX8_mirror wsX8_mirror RMX8_mirror (va_Pc [.ref (aMd 0), .int u1, .int u2] (zs_pre G (wX8 G aMd Md mt) sz)) (zs_Qi G (wX8 G aMd Md_ mt) rr (va_A (wX8 G aMd Md mt) sz)) 0 0 (va_A (wX8 G aMd Md mt) sz) := by
  refine zs_met (cc := cX8_mirror) (maxL := 3) (ret := (some .int)) (own := RX8) (Qc := zs_Qi G (wX8 G aMd Md_ mt) rr) (by decide) rfl rfl (Nat.le_of_ble_eq_true rfl) ?_
  intro p e s m args below meth c C A hK hA S _ _ ls hl
  have hl : lv_has ls 3 [(0, .ref (aMd 0)), (1, .int u1), (2, .int u2)] := hl
  have hx := C.1.1
  have hb := C.1.2.1
  unfold F_X8_mirror at hF
  refine lv_aload_n hx hb dX8_mirror_0 rfl (lv_at hl 0 rfl) ?_
  refine lv_iload_n hx hb dX8_mirror_1 rfl (lv_at hl 1 rfl) ?_
  obtain ⟨r1, f2, hF⟩ := zs_bdS hF
  refine zs_calli (wr := ([] : va_W)) (ws' := wX8 G aMd Md mt) S hA [0, 1, 2, 3, 4, 5, 6, 7, 8, 9, 10, 11, 12, 13, 14, 15, 16, 17] [] [0, 1, 2, 3, 4, 5, 6, 7, 8, 9, 10, 11, 12, 13, 14, 15, 16, 17] (zs_runV C hK hA S [.int u1] [] [0, 1, 2, 3, 4, 5, 6, 7, 8, 9, 10, 11, 12, 13, 14, 15, 16, 17] 0 1 (c_X8_isWall l G aMd Md mt u1 s.heap.size r1 f2) gX8_mirror_X8_isWall rfl rfl rfl zd_X8_isWall ⟨Nat.le_of_ble_eq_true rfl, Nat.le_of_ble_eq_true rfl⟩ rfl rfl rfl rfl rfl hl rfl (Nat.le_of_ble_eq_true rfl) dX8_mirror_2 ⟨Nat.le_of_ble_eq_true rfl, Nat.le_of_ble_eq_true rfl⟩) rfl rfl rfl (by decide) rfl rfl (fun H locs S => ?_)
  refine lv_if_eq (tgt := 18) hx hb dX8_mirror_5 (by decide) (fun c3 => ?_) (fun c3 => ?_)
  · have hF := zs_t hF c3
    refine lv_iconst (v := (-1 : Int32)) hx hb dX8_mirror_18 (by decide) ?_
    obtain ⟨e4, e5⟩ := zs_s2 hF
    exact zs_iretE C S e4 (by rw [e5]) dX8_mirror_19
  · have hF := zs_f hF c3
    refine lv_iload_n hx hb dX8_mirror_8 rfl (lv_at hl 2 rfl) ?_
    refine lv_i2l (v := ((u2).toInt64)) hx hb dX8_mirror_9 rfl ?_
    refine lv_lconst (v := (0 : Int64)) hx hb dX8_mirror_10 rfl ?_
    refine lv_lconst (v := (1 : Int64)) hx hb dX8_mirror_11 rfl ?_
    obtain ⟨r6, f7, hF⟩ := zs_bdS hF
    refine zs_calliP S hA (zs_runS C hK hA S [.long ((u2).toInt64), .long (0 : Int64), .long (1 : Int64)] [] [] 3 (c_X8_in l G (((u2).toInt64)) ((0 : Int64)) ((1 : Int64)) H.size r6 f7) gX8_mirror_X8_in rfl rfl rfl zd_X8_in ⟨Nat.le_of_ble_eq_true rfl, Nat.le_of_ble_eq_true rfl⟩ rfl rfl rfl hl rfl (Nat.le_of_ble_eq_true rfl) dX8_mirror_12 ⟨Nat.le_of_ble_eq_true rfl, Nat.le_of_ble_eq_true rfl⟩) (fun H locs S => ?_)
    refine lv_if_ne (tgt := 20) hx hb dX8_mirror_15 (by decide) (fun c8 => ?_) (fun c8 => ?_)
    · have hF := zs_f hF c8
      refine lv_aload_n hx hb dX8_mirror_20 rfl (lv_at hl 0 rfl) ?_
      refine zs_get C hK S 0 20 (Cn := RX8) (T := TX8) (N := 33) (ci := 8) rfl rfl (by decide) zn_X8_mirror_X8 (List.mem_of_getElem? (i := 1) rfl) rfl dX8_mirror_21 ?_
      refine lv_iload_n hx hb dX8_mirror_24 rfl (lv_at hl 1 rfl) ?_
      refine lv_ishr hx hb dX8_mirror_25 ?_
      refine lv_iconst (v := (1 : Int32)) hx hb dX8_mirror_26 (by decide) ?_
      refine lv_iand hx hb dX8_mirror_27 ?_
      refine lv_iload_n hx hb dX8_mirror_28 rfl (lv_at hl 2 rfl) ?_
      refine lv_icmp_ne (tgt := 35) hx hb dX8_mirror_29 (by decide) (fun c9 => ?_) (fun c9 => ?_)
      · have hF := zs_f hF c9
        refine lv_aload_n hx hb dX8_mirror_35 rfl (lv_at hl 0 rfl) ?_
        refine lv_dup hx hb dX8_mirror_36 rfl ?_
        refine zs_get C hK S 0 20 (Cn := RX8) (T := TX8) (N := 33) (ci := 8) rfl rfl (by decide) zn_X8_mirror_X8 (List.mem_of_getElem? (i := 1) rfl) rfl dX8_mirror_37 ?_
        refine lv_iconst (v := (1 : Int32)) hx hb dX8_mirror_40 (by decide) ?_
        refine lv_iload_n hx hb dX8_mirror_41 rfl (lv_at hl 1 rfl) ?_
        refine lv_ishl hx hb dX8_mirror_42 ?_
        refine lv_ixor hx hb dX8_mirror_43 ?_
        obtain ⟨Mdw10, e11⟩ : ∃ q : Ob, q = zs_up Md 0 20 ((Md 0 20) ^^^ ((1 : Int32) <<< (u1 &&& 31))) := ⟨_, rfl⟩
        have hF := zs_letS hF e11
        refine zs_put C hK S 0 20 (ws' := wX8 G aMd Mdw10 mt) (Cn := RX8) (T := TX8) (N := 33) (ci := 8) rfl rfl (by decide) zn_X8_mirror_X8 tyX8_ok nmX8 (List.mem_of_getElem? (i := 1) rfl) rfl rfl rfl (Nat.le_of_ble_eq_true rfl) (by rw [e11]; rfl) dX8_mirror_44 (fun H locs S => ?_)
        refine lv_aload_n hx hb dX8_mirror_47 rfl (lv_at hl 0 rfl) ?_
        refine lv_bipush (v := (8 : Int32)) hx hb dX8_mirror_48 (by decide) ?_
        refine lv_iload_n hx hb dX8_mirror_50 rfl (lv_at hl 1 rfl) ?_
        refine lv_iadd hx hb dX8_mirror_51 ?_
        obtain ⟨Mdw12, f13, hF⟩ := zs_bdS hF
        refine zs_callv (wr := ([] : va_W)) (ws' := wX8 G aMd Mdw12 mt) S hA [0, 1, 2, 3, 4, 5, 6, 7, 8, 9, 10, 11, 12, 13, 14, 15, 16, 17] [] [0, 1, 2, 3, 4, 5, 6, 7, 8, 9, 10, 11, 12, 13, 14, 15, 16, 17] (zs_runV C hK hA S [.int ((8 : Int32) + u1)] [] [0, 1, 2, 3, 4, 5, 6, 7, 8, 9, 10, 11, 12, 13, 14, 15, 16, 17] 0 1 (c_X8_notes l G aMd Mdw10 mt (((8 : Int32) + u1)) H.size Mdw12 f13) gX8_mirror_X8_notes rfl rfl rfl zd_X8_notes ⟨Nat.le_of_ble_eq_true rfl, Nat.le_of_ble_eq_true rfl⟩ rfl rfl rfl rfl rfl hl rfl (Nat.le_of_ble_eq_true rfl) dX8_mirror_52 ⟨Nat.le_of_ble_eq_true rfl, Nat.le_of_ble_eq_true rfl⟩) rfl rfl rfl (by decide) rfl rfl (fun H locs S => ?_)
        refine lv_aload_n hx hb dX8_mirror_55 rfl (lv_at hl 0 rfl) ?_
        refine zs_get C hK S 0 20 (Cn := RX8) (T := TX8) (N := 33) (ci := 8) rfl rfl (by decide) zn_X8_mirror_X8 (List.mem_of_getElem? (i := 1) rfl) rfl dX8_mirror_56 ?_
        obtain ⟨r14, f15, hF⟩ := zs_bdS hF
        refine zs_calliP S hA (zs_runS C hK hA S [.int (Mdw12 0 20)] [] [] 1 (c_X8_many l G ((Mdw12 0 20)) H.size r14 f15) gX8_mirror_X8_many rfl rfl rfl zd_X8_many ⟨Nat.le_of_ble_eq_true rfl, Nat.le_of_ble_eq_true rfl⟩ rfl rfl rfl hl rfl (Nat.le_of_ble_eq_true rfl) dX8_mirror_59 ⟨Nat.le_of_ble_eq_true rfl, Nat.le_of_ble_eq_true rfl⟩) (fun H locs S => ?_)
        obtain ⟨e16, e17⟩ := zs_s2 hF
        exact zs_iretE C S e16 (by rw [e17]) dX8_mirror_62
      · have hF := zs_t hF c9
        refine lv_bipush (v := (-2 : Int32)) hx hb dX8_mirror_32 (by decide) ?_
        obtain ⟨e18, e19⟩ := zs_s2 hF
        exact zs_iretE C S e18 (by rw [e19]) dX8_mirror_34
    · have hF := zs_t hF c8
      refine lv_iconst (v := (-1 : Int32)) hx hb dX8_mirror_18 (by decide) ?_
      obtain ⟨e20, e21⟩ := zs_s2 hF
      exact zs_iretE C S e20 (by rw [e21]) dX8_mirror_19

abbrev RMX8_undo : Room := { frames := 0, cells := 0, slots := 0, locals := 0 }
theorem zn_X8_undo_X8 : ∀ w ∈ wsX80, w ∈ wsX8_undo := zs_inl wsX80 [5, 6, 7, 8, 9, 10, 11, 12, 13, 14, 15, 16, 17, 18, 19, 20, 21, 22, 23, 24, 25, 26, 27, 28, 29, 30, 31, 32, 33, 34, 35, 36, 37] (by decide +kernel)
set_option maxRecDepth 100000 in
set_option maxHeartbeats 4000000 in
theorem c_X8_undo (l : Launch) (G : GG) (aMd : Ad) (Md : Ob) (mt : Int64) (sz : Nat) (rr : Int32) (Md_ : Ob) (hF : F_X8_undo Md = some (rr, Md_)) : Met l yX8_undo wsX8_undo RMX8_undo (va_Pc [.ref (aMd 0)] (zs_pre G (wX8 G aMd Md mt) sz)) (zs_Qi G (wX8 G aMd Md_ mt) rr (va_A (wX8 G aMd Md mt) sz)) 0 0 (va_A (wX8 G aMd Md mt) sz) := by
  refine zs_met (cc := cX8_undo) (maxL := 2) (ret := (some .int)) (own := RX8) (Qc := zs_Qi G (wX8 G aMd Md_ mt) rr) (by decide) rfl rfl (Nat.le_of_ble_eq_true rfl) ?_
  intro p e s m args below meth c C A hK hA S _ _ ls hl
  have hl : lv_has ls 2 [(0, .ref (aMd 0))] := hl
  have hx := C.1.1
  have hb := C.1.2.1
  unfold F_X8_undo at hF
  have j73 : ∀ (Md : Ob) (y0 : Int32) (y1 : Int32) (H : Heap) (locs : List Loc) (ls : Array Slot), zs_S G A s.heap H locs (wX8 G aMd Md mt) → lv_has ls 2 [(0, .ref (aMd 0))] → F_X8_undo_73 Md y0 y1 = some (rr, Md_) → W p l e RMX8_undo s m args below meth c H locs 0 0 (MQ below (zs_Qi G (wX8 G aMd Md_ mt) rr A) args s 0 0 A) (F0 m 73 ls [.int y0, .int y1, .ref (aMd 0)]) := by
    intro Md y0 y1 H locs ls S hl hF
    unfold F_X8_undo_73 at hF
    refine lv_ixor hx hb dX8_undo_73 ?_
    obtain ⟨Mdw1, e2⟩ : ∃ q : Ob, q = zs_up Md 0 20 (y1 ^^^ y0) := ⟨_, rfl⟩
    have hF := zs_letS hF e2
    refine zs_put C hK S 0 20 (ws' := wX8 G aMd Mdw1 mt) (Cn := RX8) (T := TX8) (N := 33) (ci := 8) rfl rfl (by decide) zn_X8_undo_X8 tyX8_ok nmX8 (List.mem_of_getElem? (i := 4) rfl) rfl rfl rfl (Nat.le_of_ble_eq_true rfl) (by rw [e2]; rfl) dX8_undo_74 (fun H locs S => ?_)
    refine lv_aload_n hx hb dX8_undo_77 rfl (lv_at hl 0 rfl) ?_
    refine zs_get C hK S 0 24 (Cn := RX8) (T := TX8) (N := 33) (ci := 8) rfl rfl (by decide) zn_X8_undo_X8 (List.mem_of_getElem? (i := 1) rfl) rfl dX8_undo_78 ?_
    obtain ⟨e3, e4⟩ := zs_s2 hF
    exact zs_iretE C S e3 (by rw [e4]) dX8_undo_81
  have j48 : ∀ (Md : Ob) (x1 : Int32) (y0 : Int32) (y1 : Int32) (H : Heap) (locs : List Loc) (ls : Array Slot), zs_S G A s.heap H locs (wX8 G aMd Md mt) → lv_has ls 2 [(0, .ref (aMd 0)), (1, .int x1)] → F_X8_undo_48 Md x1 y0 y1 = some (rr, Md_) → W p l e RMX8_undo s m args below meth c H locs 0 0 (MQ below (zs_Qi G (wX8 G aMd Md_ mt) rr A) args s 0 0 A) (F0 m 48 ls [.int y0, .int y1, .ref (aMd 0)]) := by
    intro Md x1 y0 y1 H locs ls S hl hF
    unfold F_X8_undo_48 at hF
    refine lv_ixor hx hb dX8_undo_48 ?_
    obtain ⟨Mdw5, e6⟩ : ∃ q : Ob, q = zs_up Md 0 19 (y1 ^^^ y0) := ⟨_, rfl⟩
    have hF := zs_letS hF e6
    refine zs_put C hK S 0 19 (ws' := wX8 G aMd Mdw5 mt) (Cn := RX8) (T := TX8) (N := 33) (ci := 8) rfl rfl (by decide) zn_X8_undo_X8 tyX8_ok nmX8 (List.mem_of_getElem? (i := 3) rfl) rfl rfl rfl (Nat.le_of_ble_eq_true rfl) (by rw [e6]; rfl) dX8_undo_49 (fun H locs S => ?_)
    refine lv_aload_n hx hb dX8_undo_52 rfl (lv_at hl 0 rfl) ?_
    refine lv_dup hx hb dX8_undo_53 rfl ?_
    refine zs_get C hK S 0 20 (Cn := RX8) (T := TX8) (N := 33) (ci := 8) rfl rfl (by decide) zn_X8_undo_X8 (List.mem_of_getElem? (i := 4) rfl) rfl dX8_undo_54 ?_
    refine lv_iload_n hx hb dX8_undo_57 rfl (lv_at hl 1 rfl) ?_
    refine lv_bipush (v := (8 : Int32)) hx hb dX8_undo_58 (by decide) ?_
    refine lv_icmp_ge (tgt := 67) hx hb dX8_undo_60 (by decide) (fun c7 => ?_) (fun c7 => ?_)
    · have hF := zs_t hF c7
      refine lv_iconst (v := (1 : Int32)) hx hb dX8_undo_67 (by decide) ?_
      refine lv_iload_n hx hb dX8_undo_68 rfl (lv_at hl 1 rfl) ?_
      refine lv_bipush (v := (8 : Int32)) hx hb dX8_undo_69 (by decide) ?_
      refine lv_isub hx hb dX8_undo_71 ?_
      refine lv_ishl hx hb dX8_undo_72 ?_
      exact j73 Mdw5 ((1 : Int32) <<< ((x1 - (8 : Int32)) &&& 31)) (Mdw5 0 20) _ _ _ S (lv_sub hl [0] rfl) hF
    · have hF := zs_f hF c7
      refine lv_iconst (v := (0 : Int32)) hx hb dX8_undo_63 (by decide) ?_
      refine lv_goto (tgt := 73) hx hb dX8_undo_64 (by decide) ?_
      exact j73 Mdw5 (0 : Int32) (Mdw5 0 20) _ _ _ S (lv_sub hl [0] rfl) hF
  refine lv_aload_n hx hb dX8_undo_0 rfl (lv_at hl 0 rfl) ?_
  refine zs_get C hK S 0 24 (Cn := RX8) (T := TX8) (N := 33) (ci := 8) rfl rfl (by decide) zn_X8_undo_X8 (List.mem_of_getElem? (i := 1) rfl) rfl dX8_undo_1 ?_
  refine lv_if_ne (tgt := 10) hx hb dX8_undo_4 (by decide) (fun c8 => ?_) (fun c8 => ?_)
  · have hF := zs_f hF c8
    refine lv_aload_n hx hb dX8_undo_10 rfl (lv_at hl 0 rfl) ?_
    refine lv_dup hx hb dX8_undo_11 rfl ?_
    refine zs_get C hK S 0 24 (Cn := RX8) (T := TX8) (N := 33) (ci := 8) rfl rfl (by decide) zn_X8_undo_X8 (List.mem_of_getElem? (i := 1) rfl) rfl dX8_undo_12 ?_
    refine lv_iconst (v := (1 : Int32)) hx hb dX8_undo_15 (by decide) ?_
    refine lv_isub hx hb dX8_undo_16 ?_
    obtain ⟨Mdw9, e10⟩ : ∃ q : Ob, q = zs_up Md 0 24 ((Md 0 24) - (1 : Int32)) := ⟨_, rfl⟩
    have hF := zs_letS hF e10
    refine zs_put C hK S 0 24 (ws' := wX8 G aMd Mdw9 mt) (Cn := RX8) (T := TX8) (N := 33) (ci := 8) rfl rfl (by decide) zn_X8_undo_X8 tyX8_ok nmX8 (List.mem_of_getElem? (i := 1) rfl) rfl rfl rfl (Nat.le_of_ble_eq_true rfl) (by rw [e10]; rfl) dX8_undo_17 (fun H locs S => ?_)
    refine lv_aload_n hx hb dX8_undo_20 rfl (lv_at hl 0 rfl) ?_
    refine zs_get C hK S 0 23 (Cn := RX8) (T := TX8) (N := 33) (ci := 8) rfl rfl (by decide) zn_X8_undo_X8 (List.mem_of_getElem? (i := 2) rfl) rfl dX8_undo_21 ?_
    refine lv_aload_n hx hb dX8_undo_24 rfl (lv_at hl 0 rfl) ?_
    refine zs_get C hK S 0 24 (Cn := RX8) (T := TX8) (N := 33) (ci := 8) rfl rfl (by decide) zn_X8_undo_X8 (List.mem_of_getElem? (i := 1) rfl) rfl dX8_undo_25 ?_
    obtain ⟨h11, hF⟩ := zs_ckS hF
    refine zs_iald C hK S 11 rfl h11 dX8_undo_28 ?_
    refine lv_topi (fun z12 e13 => ?_)
    have hF := zs_letS hF e13
    refine lv_istore_n (lv' := [(1, .int z12), (0, .ref (aMd 0))]) hx hb dX8_undo_29 rfl hl (by decide) rfl (fun ls hl => ?_)
    refine lv_aload_n hx hb dX8_undo_30 rfl (lv_at hl 1 rfl) ?_
    refine lv_dup hx hb dX8_undo_31 rfl ?_
    refine zs_get C hK S 0 19 (Cn := RX8) (T := TX8) (N := 33) (ci := 8) rfl rfl (by decide) zn_X8_undo_X8 (List.mem_of_getElem? (i := 3) rfl) rfl dX8_undo_32 ?_
    refine lv_iload_n hx hb dX8_undo_35 rfl (lv_at hl 0 rfl) ?_
    refine lv_bipush (v := (8 : Int32)) hx hb dX8_undo_36 (by decide) ?_
    refine lv_icmp_ge (tgt := 47) hx hb dX8_undo_38 (by decide) (fun c14 => ?_) (fun c14 => ?_)
    · have hF := zs_t hF c14
      refine lv_iconst (v := (0 : Int32)) hx hb dX8_undo_47 (by decide) ?_
      exact j48 Mdw9 z12 (0 : Int32) (Mdw9 0 19) _ _ _ S (lv_sub hl [1, 0] rfl) hF
    · have hF := zs_f hF c14
      refine lv_iconst (v := (1 : Int32)) hx hb dX8_undo_41 (by decide) ?_
      refine lv_iload_n hx hb dX8_undo_42 rfl (lv_at hl 0 rfl) ?_
      refine lv_ishl hx hb dX8_undo_43 ?_
      refine lv_goto (tgt := 48) hx hb dX8_undo_44 (by decide) ?_
      exact j48 Mdw9 z12 ((1 : Int32) <<< (z12 &&& 31)) (Mdw9 0 19) _ _ _ S (lv_sub hl [1, 0] rfl) hF
  · have hF := zs_t hF c8
    refine lv_bipush (v := (-2 : Int32)) hx hb dX8_undo_7 (by decide) ?_
    obtain ⟨e15, e16⟩ := zs_s2 hF
    exact zs_iretE C S e15 (by rw [e16]) dX8_undo_9

abbrev RMX8_now : Room := { frames := 0, cells := 0, slots := 0, locals := 0 }
theorem zn_X8_now_X8 : ∀ w ∈ wsX80, w ∈ wsX8_now := zs_inl wsX80 [6, 7, 8, 9, 10, 11, 12, 13, 14, 15, 16, 17, 18, 19, 20, 21, 22, 23, 24, 25, 26, 27, 28, 29, 30, 31, 32, 33, 34, 35, 36, 37, 38] (by decide +kernel)
set_option maxRecDepth 100000 in
set_option maxHeartbeats 4000000 in
theorem c_X8_now (l : Launch) (G : GG) (aMd : Ad) (Md : Ob) (mt : Int64) (u1 : Int32) (sz : Nat) (rr : Int32) (hF : F_X8_now Md u1 = some rr) : Met l yX8_now wsX8_now RMX8_now (va_Pc [.ref (aMd 0), .int u1] (zs_pre G (wX8 G aMd Md mt) sz)) (zs_Qi G (wX8 G aMd Md mt) rr (va_A (wX8 G aMd Md mt) sz)) 0 0 (va_A (wX8 G aMd Md mt) sz) := by
  refine zs_met (cc := cX8_now) (maxL := 6) (ret := (some .int)) (own := RX8) (Qc := zs_Qi G (wX8 G aMd Md mt) rr) (by decide) rfl rfl (Nat.le_of_ble_eq_true rfl) ?_
  intro p e s m args below meth c C A hK hA S _ _ ls hl
  have hl : lv_has ls 6 [(0, .ref (aMd 0)), (1, .int u1)] := hl
  have hx := C.1.1
  have hb := C.1.2.1
  unfold F_X8_now at hF
  have j94 : ∀ (x1 : Int32) (x2 : Int32) (x3 : Int32) (x4 : Int32) (H : Heap) (locs : List Loc) (ls : Array Slot), zs_S G A s.heap H locs (wX8 G aMd Md mt) → lv_has ls 6 [(0, .ref (aMd 0)), (1, .int x1), (2, .int x2), (3, .int x3), (4, .int x4)] → F_X8_now_94 Md x1 x2 x3 x4 = some rr → W p l e RMX8_now s m args below meth c H locs 0 0 (MQ below (zs_Qi G (wX8 G aMd Md mt) rr A) args s 0 0 A) (F0 m 94 ls []) := by
    intro x1 x2 x3 x4 H locs ls S hl hF
    unfold F_X8_now_94 at hF
    refine lv_iload_n hx hb dX8_now_94 rfl (lv_at hl 1 rfl) ?_
    by_cases c1 : x1 = (0 : Int32)
    · have hF := zs_t hF c1
      refine lv_tableIn (off := 33) (tgt := 128) hx hb dX8_now_95 (by rw [c1]; decide) (by rw [c1]; decide) (by rw [c1]; rfl) (by decide) ?_
      refine lv_aload_n hx hb dX8_now_128 rfl (lv_at hl 0 rfl) ?_
      refine zs_get C hK S 0 18 (Cn := RX8) (T := TX8) (N := 33) (ci := 8) rfl rfl (by decide) zn_X8_now_X8 (List.mem_of_getElem? (i := 4) rfl) rfl dX8_now_129 ?_
      have e2 := zs_s1 hF
      exact zs_iretE C S e2 rfl dX8_now_132
    · have hF := zs_f hF c1
      by_cases c3 : x1 = (1 : Int32)
      · have hF := zs_t hF c3
        refine lv_tableIn (off := 38) (tgt := 133) hx hb dX8_now_95 (by rw [c3]; decide) (by rw [c3]; decide) (by rw [c3]; rfl) (by decide) ?_
        refine lv_iload_n hx hb dX8_now_133 rfl (lv_at hl 2 rfl) ?_
        have e4 := zs_s1 hF
        exact zs_iretE C S e4 rfl dX8_now_134
      · have hF := zs_f hF c3
        by_cases c5 : x1 = (2 : Int32)
        · have hF := zs_t hF c5
          refine lv_tableIn (off := 40) (tgt := 135) hx hb dX8_now_95 (by rw [c5]; decide) (by rw [c5]; decide) (by rw [c5]; rfl) (by decide) ?_
          refine lv_aload_n hx hb dX8_now_135 rfl (lv_at hl 0 rfl) ?_
          refine zs_get C hK S 0 21 (Cn := RX8) (T := TX8) (N := 33) (ci := 8) rfl rfl (by decide) zn_X8_now_X8 (List.mem_of_getElem? (i := 5) rfl) rfl dX8_now_136 ?_
          have e6 := zs_s1 hF
          exact zs_iretE C S e6 rfl dX8_now_139
        · have hF := zs_f hF c5
          by_cases c7 : x1 = (3 : Int32)
          · have hF := zs_t hF c7
            refine lv_tableIn (off := 45) (tgt := 140) hx hb dX8_now_95 (by rw [c7]; decide) (by rw [c7]; decide) (by rw [c7]; rfl) (by decide) ?_
            refine lv_iload_n hx hb dX8_now_140 rfl (lv_at hl 3 rfl) ?_
            have e8 := zs_s1 hF
            exact zs_iretE C S e8 rfl dX8_now_141
          · have hF := zs_f hF c7
            by_cases c9 : x1 = (4 : Int32)
            · have hF := zs_t hF c9
              refine lv_tableIn (off := 47) (tgt := 142) hx hb dX8_now_95 (by rw [c9]; decide) (by rw [c9]; decide) (by rw [c9]; rfl) (by decide) ?_
              refine lv_iload hx hb dX8_now_142 (lv_at hl 4 rfl) ?_
              have e10 := zs_s1 hF
              exact zs_iretE C S e10 rfl dX8_now_144
            · have hF := zs_f hF c9
              refine lv_tableOut (tgt := 145) hx hb dX8_now_95 (zs_sw5 c1 c3 c5 c7 c9) (by decide) ?_
              refine lv_iconst (v := (-1 : Int32)) hx hb dX8_now_145 (by decide) ?_
              have e11 := zs_s1 hF
              exact zs_iretE C S e11 rfl dX8_now_146
  have j11 : ∀ (n11 : Nat) (x1 : Int32) (x2 : Int32) (x3 : Int32) (x4 : Int32) (x5 : Int32) (H : Heap) (locs : List Loc) (ls : Array Slot), zs_S G A s.heap H locs (wX8 G aMd Md mt) → lv_has ls 6 [(0, .ref (aMd 0)), (1, .int x1), (2, .int x2), (3, .int x3), (4, .int x4), (5, .int x5)] → F_X8_now_11 Md n11 x1 x2 x3 x4 x5 = some rr → W p l e RMX8_now s m args below meth c H locs 0 0 (MQ below (zs_Qi G (wX8 G aMd Md mt) rr A) args s 0 0 A) (F0 m 11 ls []) := by
    intro n11
    induction n11 with
    | zero => intro x1 x2 x3 x4 x5 H locs ls _ _ hF; rw [F_X8_now_11_z] at hF; cases hF
    | succ n11 ih11 =>
      have j86 : ∀ (x1 : Int32) (x2 : Int32) (x3 : Int32) (x5 : Int32) (y0 : Int32) (H : Heap) (locs : List Loc) (ls : Array Slot), zs_S G A s.heap H locs (wX8 G aMd Md mt) → lv_has ls 6 [(0, .ref (aMd 0)), (1, .int x1), (2, .int x2), (3, .int x3), (5, .int x5)] → F_X8_now_86 Md (F_X8_now_11 Md n11) x1 x2 x3 x5 y0 = some rr → W p l e RMX8_now s m args below meth c H locs 0 0 (MQ below (zs_Qi G (wX8 G aMd Md mt) rr A) args s 0 0 A) (F0 m 86 ls [.int y0]) := by
        intro x1 x2 x3 x5 y0 H locs ls S hl hF
        unfold F_X8_now_86 at hF
        refine lv_istore (lv' := [(4, .int y0), (0, .ref (aMd 0)), (1, .int x1), (2, .int x2), (3, .int x3), (5, .int x5)]) hx hb dX8_now_86 hl (by decide) rfl (fun ls hl => ?_)
        obtain ⟨z12, e13⟩ : ∃ q : Int32, q = x5 + (1 : Int32) := ⟨_, rfl⟩
        have hF := zs_letS hF e13
        refine lv_iinc (v := z12) (lv' := [(5, .int z12), (4, .int y0), (0, .ref (aMd 0)), (1, .int x1), (2, .int x2), (3, .int x3)]) hx hb dX8_now_88 hl (k := 5) rfl (by rw [e13]; rfl) (by decide) rfl (fun ls hl => ?_)
        refine lv_goto (tgt := 11) hx hb dX8_now_91 (by decide) ?_
        exact ih11 x1 x2 x3 y0 z12 _ _ _ S (lv_sub hl [2, 3, 4, 5, 1, 0] rfl) hF
      have j79 : ∀ (x1 : Int32) (x2 : Int32) (x3 : Int32) (x5 : Int32) (H : Heap) (locs : List Loc) (ls : Array Slot), zs_S G A s.heap H locs (wX8 G aMd Md mt) → lv_has ls 6 [(0, .ref (aMd 0)), (1, .int x1), (2, .int x2), (3, .int x3), (5, .int x5)] → F_X8_now_79 Md (F_X8_now_11 Md n11) x1 x2 x3 x5 = some rr → W p l e RMX8_now s m args below meth c H locs 0 0 (MQ below (zs_Qi G (wX8 G aMd Md mt) rr A) args s 0 0 A) (F0 m 79 ls []) := by
        intro x1 x2 x3 x5 H locs ls S hl hF
        unfold F_X8_now_79 at hF
        refine lv_iload hx hb dX8_now_79 (lv_at hl 4 rfl) ?_
        refine lv_goto (tgt := 86) hx hb dX8_now_81 (by decide) ?_
        exact j86 x1 x2 x3 x5 x5 _ _ _ S (lv_sub hl [0, 1, 2, 3, 4] rfl) hF
      have j53 : ∀ (x1 : Int32) (x2 : Int32) (x4 : Int32) (x5 : Int32) (y0 : Int32) (y1 : Int32) (H : Heap) (locs : List Loc) (ls : Array Slot), zs_S G A s.heap H locs (wX8 G aMd Md mt) → lv_has ls 6 [(0, .ref (aMd 0)), (1, .int x1), (2, .int x2), (4, .int x4), (5, .int x5)] → F_X8_now_53 Md (F_X8_now_11 Md n11) x1 x2 x4 x5 y0 y1 = some rr → W p l e RMX8_now s m args below meth c H locs 0 0 (MQ below (zs_Qi G (wX8 G aMd Md mt) rr A) args s 0 0 A) (F0 m 53 ls [.int y0, .int y1]) := by
        intro x1 x2 x4 x5 y0 y1 H locs ls S hl hF
        unfold F_X8_now_53 at hF
        refine lv_ior hx hb dX8_now_53 ?_
        refine lv_topi (fun z14 e15 => ?_)
        have hF := zs_letS hF e15
        refine lv_istore_n (lv' := [(3, .int z14), (0, .ref (aMd 0)), (1, .int x1), (2, .int x2), (4, .int x4), (5, .int x5)]) hx hb dX8_now_54 rfl hl (by decide) rfl (fun ls hl => ?_)
        refine lv_iload hx hb dX8_now_55 (lv_at hl 4 rfl) ?_
        refine lv_bipush (v := (-9 : Int32)) hx hb dX8_now_57 (by decide) ?_
        refine lv_icmp_eq (tgt := 79) hx hb dX8_now_59 (by decide) (fun c16 => ?_) (fun c16 => ?_)
        · have hF := zs_t hF c16
          exact j79 x1 x2 z14 x5 _ _ _ S (lv_sub hl [1, 2, 3, 0, 5] rfl) hF
        · have hF := zs_f hF c16
          refine lv_aload_n hx hb dX8_now_62 rfl (lv_at hl 1 rfl) ?_
          refine zs_get C hK S 0 17 (Cn := RX8) (T := TX8) (N := 33) (ci := 8) rfl rfl (by decide) zn_X8_now_X8 (List.mem_of_getElem? (i := 2) rfl) rfl dX8_now_63 ?_
          refine lv_iload hx hb dX8_now_66 (lv_at hl 5 rfl) ?_
          obtain ⟨h17, hF⟩ := zs_ckS hF
          refine zs_iald C hK S 9 rfl h17 dX8_now_68 ?_
          refine lv_aload_n hx hb dX8_now_69 rfl (lv_at hl 1 rfl) ?_
          refine zs_get C hK S 0 17 (Cn := RX8) (T := TX8) (N := 33) (ci := 8) rfl rfl (by decide) zn_X8_now_X8 (List.mem_of_getElem? (i := 2) rfl) rfl dX8_now_70 ?_
          refine lv_iload hx hb dX8_now_73 (lv_at hl 4 rfl) ?_
          obtain ⟨h18, hF⟩ := zs_ckS hF
          refine zs_iald C hK S 9 rfl h18 dX8_now_75 ?_
          refine lv_icmp_le (tgt := 84) hx hb dX8_now_76 (by decide) (fun c19 => ?_) (fun c19 => ?_)
          · have hF := zs_t hF c19
            refine lv_iload hx hb dX8_now_84 (lv_at hl 4 rfl) ?_
            exact j86 x1 x2 z14 x5 x4 _ _ _ S (lv_sub hl [1, 2, 3, 0, 5] rfl) hF
          · have hF := zs_f hF c19
            exact j79 x1 x2 z14 x5 _ _ _ S (lv_sub hl [1, 2, 3, 0, 5] rfl) hF
      intro x1 x2 x3 x4 x5 H locs ls S hl hF
      rw [F_X8_now_11_n] at hF
      unfold F_X8_now_11_s at hF
      refine lv_iload hx hb dX8_now_11 (lv_at hl 5 rfl) ?_
      refine lv_aload_n hx hb dX8_now_13 rfl (lv_at hl 0 rfl) ?_
      refine zs_get C hK S 0 10 (Cn := RX8) (T := TX8) (N := 33) (ci := 8) rfl rfl (by decide) zn_X8_now_X8 (List.mem_of_getElem? (i := 1) rfl) rfl dX8_now_14 ?_
      refine lv_icmp_ge (tgt := 94) hx hb dX8_now_17 (by decide) (fun c20 => ?_) (fun c20 => ?_)
      · have hF := zs_t hF c20
        exact j94 x1 x2 x3 x4 _ _ _ S (lv_sub hl [0, 1, 2, 3, 4] rfl) hF
      · have hF := zs_f hF c20
        refine lv_iload_n hx hb dX8_now_20 rfl (lv_at hl 2 rfl) ?_
        refine lv_aload_n hx hb dX8_now_21 rfl (lv_at hl 0 rfl) ?_
        refine zs_get C hK S 0 17 (Cn := RX8) (T := TX8) (N := 33) (ci := 8) rfl rfl (by decide) zn_X8_now_X8 (List.mem_of_getElem? (i := 2) rfl) rfl dX8_now_22 ?_
        refine lv_iload hx hb dX8_now_25 (lv_at hl 5 rfl) ?_
        obtain ⟨h21, hF⟩ := zs_ckS hF
        refine zs_iald C hK S 9 rfl h21 dX8_now_27 ?_
        refine lv_iadd hx hb dX8_now_28 ?_
        refine lv_topi (fun z22 e23 => ?_)
        have hF := zs_letS hF e23
        refine lv_istore_n (lv' := [(2, .int z22), (0, .ref (aMd 0)), (1, .int x1), (3, .int x3), (4, .int x4), (5, .int x5)]) hx hb dX8_now_29 rfl hl (by decide) rfl (fun ls hl => ?_)
        refine lv_iload_n hx hb dX8_now_30 rfl (lv_at hl 3 rfl) ?_
        refine lv_aload_n hx hb dX8_now_31 rfl (lv_at hl 1 rfl) ?_
        refine zs_get C hK S 0 17 (Cn := RX8) (T := TX8) (N := 33) (ci := 8) rfl rfl (by decide) zn_X8_now_X8 (List.mem_of_getElem? (i := 2) rfl) rfl dX8_now_32 ?_
        refine lv_iload hx hb dX8_now_35 (lv_at hl 5 rfl) ?_
        obtain ⟨h24, hF⟩ := zs_ckS hF
        refine zs_iald C hK S 9 rfl h24 dX8_now_37 ?_
        refine lv_aload_n hx hb dX8_now_38 rfl (lv_at hl 1 rfl) ?_
        refine zs_get C hK S 0 11 (Cn := RX8) (T := TX8) (N := 33) (ci := 8) rfl rfl (by decide) zn_X8_now_X8 (List.mem_of_getElem? (i := 3) rfl) rfl dX8_now_39 ?_
        refine lv_icmp_le (tgt := 52) hx hb dX8_now_42 (by decide) (fun c25 => ?_) (fun c25 => ?_)
        · have hF := zs_t hF c25
          refine lv_iconst (v := (0 : Int32)) hx hb dX8_now_52 (by decide) ?_
          exact j53 x1 z22 x4 x5 (0 : Int32) x3 _ _ _ S (lv_sub hl [1, 2, 0, 4, 5] rfl) hF
        · have hF := zs_f hF c25
          refine lv_iconst (v := (1 : Int32)) hx hb dX8_now_45 (by decide) ?_
          refine lv_iload hx hb dX8_now_46 (lv_at hl 5 rfl) ?_
          refine lv_ishl hx hb dX8_now_48 ?_
          refine lv_goto (tgt := 53) hx hb dX8_now_49 (by decide) ?_
          exact j53 x1 z22 x4 x5 ((1 : Int32) <<< (x5 &&& 31)) x3 _ _ _ S (lv_sub hl [1, 2, 0, 4, 5] rfl) hF
  refine lv_iconst (v := (0 : Int32)) hx hb dX8_now_0 (by decide) ?_
  refine lv_istore_n (lv' := [(2, .int (0 : Int32)), (0, .ref (aMd 0)), (1, .int u1)]) hx hb dX8_now_1 rfl hl (by decide) rfl (fun ls hl => ?_)
  refine lv_iconst (v := (0 : Int32)) hx hb dX8_now_2 (by decide) ?_
  refine lv_istore_n (lv' := [(3, .int (0 : Int32)), (2, .int (0 : Int32)), (0, .ref (aMd 0)), (1, .int u1)]) hx hb dX8_now_3 rfl hl (by decide) rfl (fun ls hl => ?_)
  refine lv_bipush (v := (-9 : Int32)) hx hb dX8_now_4 (by decide) ?_
  refine lv_istore (lv' := [(4, .int (-9 : Int32)), (3, .int (0 : Int32)), (2, .int (0 : Int32)), (0, .ref (aMd 0)), (1, .int u1)]) hx hb dX8_now_6 hl (by decide) rfl (fun ls hl => ?_)
  refine lv_iconst (v := (0 : Int32)) hx hb dX8_now_8 (by decide) ?_
  refine lv_istore (lv' := [(5, .int (0 : Int32)), (4, .int (-9 : Int32)), (3, .int (0 : Int32)), (2, .int (0 : Int32)), (0, .ref (aMd 0)), (1, .int u1)]) hx hb dX8_now_9 hl (by decide) rfl (fun ls hl => ?_)
  exact j11 1000 u1 (0 : Int32) (0 : Int32) (-9 : Int32) (0 : Int32) _ _ _ S (lv_sub hl [4, 5, 3, 2, 1, 0] rfl) hF

abbrev RMX8_begins : Room := { frames := 0, cells := 0, slots := 0, locals := 0 }
theorem zn_X8_begins_X8 : ∀ w ∈ wsX80, w ∈ wsX8_begins := zs_inl wsX80 [4, 5, 6, 7, 8, 9, 10, 11, 12, 13, 14, 15, 16, 17, 18, 19, 20, 21, 22, 23, 24, 25, 26, 27, 28, 29, 30, 31, 32, 33, 34, 35, 36] (by decide +kernel)
set_option maxRecDepth 100000 in
set_option maxHeartbeats 4000000 in
theorem c_X8_begins (l : Launch) (G : GG) (aMd : Ad) (Md : Ob) (mt : Int64) (sz : Nat) (Md_ : Ob) (hF : F_X8_begins Md = some Md_) : Met l yX8_begins wsX8_begins RMX8_begins (va_Pc [.ref (aMd 0)] (zs_pre G (wX8 G aMd Md mt) sz)) (zs_Qv G (wX8 G aMd Md_ mt) (va_A (wX8 G aMd Md mt) sz)) 0 0 (va_A (wX8 G aMd Md mt) sz) := by
  refine zs_met (cc := cX8_begins) (maxL := 2) (ret := none) (own := RX8) (Qc := zs_Qv G (wX8 G aMd Md_ mt)) (by decide) rfl rfl (Nat.le_of_ble_eq_true rfl) ?_
  intro p e s m args below meth c C A hK hA S _ _ ls hl
  have hl : lv_has ls 2 [(0, .ref (aMd 0))] := hl
  have hx := C.1.1
  have hb := C.1.2.1
  unfold F_X8_begins at hF
  have j2 : ∀ (n2 : Nat) (Md : Ob) (x1 : Int32) (H : Heap) (locs : List Loc) (ls : Array Slot), zs_S G A s.heap H locs (wX8 G aMd Md mt) → lv_has ls 2 [(0, .ref (aMd 0)), (1, .int x1)] → F_X8_begins_2 n2 Md x1 = some Md_ → W p l e RMX8_begins s m args below meth c H locs 0 0 (MQ below (zs_Qv G (wX8 G aMd Md_ mt) A) args s 0 0 A) (F0 m 2 ls []) := by
    intro n2
    induction n2 with
    | zero => intro Md x1 H locs ls _ _ hF; rw [F_X8_begins_2_z] at hF; cases hF
    | succ n2 ih2 =>
      intro Md x1 H locs ls S hl hF
      rw [F_X8_begins_2_n] at hF
      unfold F_X8_begins_2_s at hF
      refine lv_iload_n hx hb dX8_begins_2 rfl (lv_at hl 1 rfl) ?_
      refine lv_aload_n hx hb dX8_begins_3 rfl (lv_at hl 0 rfl) ?_
      refine zs_get C hK S 0 10 (Cn := RX8) (T := TX8) (N := 33) (ci := 8) rfl rfl (by decide) zn_X8_begins_X8 (List.mem_of_getElem? (i := 1) rfl) rfl dX8_begins_4 ?_
      refine lv_icmp_ge (tgt := 28) hx hb dX8_begins_7 (by decide) (fun c1 => ?_) (fun c1 => ?_)
      · have hF := zs_t hF c1
        have e2 := zs_s1 hF
        exact zs_vretE C S (by rw [e2]) dX8_begins_28
      · have hF := zs_f hF c1
        refine lv_aload_n hx hb dX8_begins_10 rfl (lv_at hl 0 rfl) ?_
        refine zs_get C hK S 0 25 (Cn := RX8) (T := TX8) (N := 33) (ci := 8) rfl rfl (by decide) zn_X8_begins_X8 (List.mem_of_getElem? (i := 2) rfl) rfl dX8_begins_11 ?_
        refine lv_iload_n hx hb dX8_begins_14 rfl (lv_at hl 1 rfl) ?_
        refine lv_aload_n hx hb dX8_begins_15 rfl (lv_at hl 0 rfl) ?_
        refine zs_get C hK S 0 17 (Cn := RX8) (T := TX8) (N := 33) (ci := 8) rfl rfl (by decide) zn_X8_begins_X8 (List.mem_of_getElem? (i := 3) rfl) rfl dX8_begins_16 ?_
        refine lv_iload_n hx hb dX8_begins_19 rfl (lv_at hl 1 rfl) ?_
        obtain ⟨h3, hF⟩ := zs_ckS hF
        refine zs_iald C hK S 9 rfl h3 dX8_begins_20 ?_
        obtain ⟨h4, hF⟩ := zs_ckS hF
        obtain ⟨Mdw5, e6⟩ : ∃ q : Ob, q = zs_up Md 12 (x1).toNatClampNeg (Md 9 (x1).toNatClampNeg) := ⟨_, rfl⟩
        have hF := zs_letS hF e6
        refine zs_iast C hK S 12 (ws' := wX8 G aMd Mdw5 mt) rfl h4 (by rw [e6]; rfl) dX8_begins_21 (fun H locs S => ?_)
        obtain ⟨z7, e8⟩ : ∃ q : Int32, q = x1 + (1 : Int32) := ⟨_, rfl⟩
        have hF := zs_letS hF e8
        refine lv_iinc (v := z7) (lv' := [(1, .int z7), (0, .ref (aMd 0))]) hx hb dX8_begins_22 hl (k := 1) rfl (by rw [e8]; rfl) (by decide) rfl (fun ls hl => ?_)
        refine lv_goto (tgt := 2) hx hb dX8_begins_25 (by decide) ?_
        exact ih2 Mdw5 z7 _ _ _ S (lv_sub hl [1, 0] rfl) hF
  refine lv_iconst (v := (0 : Int32)) hx hb dX8_begins_0 (by decide) ?_
  refine lv_istore_n (lv' := [(1, .int (0 : Int32)), (0, .ref (aMd 0))]) hx hb dX8_begins_1 rfl hl (by decide) rfl (fun ls hl => ?_)
  exact j2 1000 Md (0 : Int32) _ _ _ S (lv_sub hl [1, 0] rfl) hF

abbrev RMX8_passes : Room := { frames := 1, cells := 0, slots := 0, locals := 32 }
theorem zn_X8_passes_X8 : ∀ w ∈ wsX80, w ∈ wsX8_passes := zs_inl wsX80 [14, 15, 16, 17, 18, 19, 20, 21, 22, 23, 24, 25, 26, 27, 28, 29, 30, 31, 32, 33, 34, 35, 36, 37, 38, 39, 40, 41, 42, 43, 44, 45, 46] (by decide +kernel)
set_option maxRecDepth 100000 in
set_option maxHeartbeats 4000000 in
theorem c_X8_passes (l : Launch) (G : GG) (aMd : Ad) (Md : Ob) (mt : Int64) (u1 : Int32) (u2 : Int32) (u3 : Int32) (sz : Nat) (Md_ : Ob) (hF : F_X8_passes Md u1 u2 u3 = some Md_) : Met l yX8_passes wsX8_passes RMX8_passes (va_Pc [.ref (aMd 0), .int u1, .int u2, .int u3] (zs_pre G (wX8 G aMd Md mt) sz)) (zs_Qv G (wX8 G aMd Md_ mt) (va_A (wX8 G aMd Md mt) sz)) 0 0 (va_A (wX8 G aMd Md mt) sz) := by
  refine zs_met (cc := cX8_passes) (maxL := 5) (ret := none) (own := RX8) (Qc := zs_Qv G (wX8 G aMd Md_ mt)) (by decide) rfl rfl (Nat.le_of_ble_eq_true rfl) ?_
  intro p e s m args below meth c C A hK hA S _ _ ls hl
  have hl : lv_has ls 5 [(0, .ref (aMd 0)), (1, .int u1), (2, .int u2), (3, .int u3)] := hl
  have hx := C.1.1
  have hb := C.1.2.1
  unfold F_X8_passes at hF
  have j3 : ∀ (n3 : Nat) (Md : Ob) (x1 : Int32) (x2 : Int32) (x3 : Int32) (x4 : Int32) (H : Heap) (locs : List Loc) (ls : Array Slot), zs_S G A s.heap H locs (wX8 G aMd Md mt) → lv_has ls 5 [(0, .ref (aMd 0)), (1, .int x1), (2, .int x2), (3, .int x3), (4, .int x4)] → F_X8_passes_3 n3 Md x1 x2 x3 x4 = some Md_ → W p l e RMX8_passes s m args below meth c H locs 0 0 (MQ below (zs_Qv G (wX8 G aMd Md_ mt) A) args s 0 0 A) (F0 m 3 ls []) := by
    intro n3
    induction n3 with
    | zero => intro Md x1 x2 x3 x4 H locs ls _ _ hF; rw [F_X8_passes_3_z] at hF; cases hF
    | succ n3 ih3 =>
      intro Md x1 x2 x3 x4 H locs ls S hl hF
      rw [F_X8_passes_3_n] at hF
      unfold F_X8_passes_3_s at hF
      refine lv_iload hx hb dX8_passes_3 (lv_at hl 4 rfl) ?_
      refine lv_iload_n hx hb dX8_passes_5 rfl (lv_at hl 1 rfl) ?_
      refine lv_icmp_ge (tgt := 33) hx hb dX8_passes_6 (by decide) (fun c1 => ?_) (fun c1 => ?_)
      · have hF := zs_t hF c1
        have e2 := zs_s1 hF
        exact zs_vretE C S (by rw [e2]) dX8_passes_33
      · have hF := zs_f hF c1
        refine lv_aload_n hx hb dX8_passes_9 rfl (lv_at hl 0 rfl) ?_
        refine lv_aload_n hx hb dX8_passes_10 rfl (lv_at hl 0 rfl) ?_
        refine zs_get C hK S 0 25 (Cn := RX8) (T := TX8) (N := 33) (ci := 8) rfl rfl (by decide) zn_X8_passes_X8 (List.mem_of_getElem? (i := 1) rfl) rfl dX8_passes_11 ?_
        refine lv_aload_n hx hb dX8_passes_14 rfl (lv_at hl 0 rfl) ?_
        refine zs_get C hK S 0 18 (Cn := RX8) (T := TX8) (N := 33) (ci := 8) rfl rfl (by decide) zn_X8_passes_X8 (List.mem_of_getElem? (i := 2) rfl) rfl dX8_passes_15 ?_
        refine lv_iload hx hb dX8_passes_18 (lv_at hl 4 rfl) ?_
        refine lv_iadd hx hb dX8_passes_20 ?_
        refine lv_iload_n hx hb dX8_passes_21 rfl (lv_at hl 2 rfl) ?_
        refine lv_iload_n hx hb dX8_passes_22 rfl (lv_at hl 3 rfl) ?_
        obtain ⟨r3, Mdw4, f5, hF⟩ := zs_b2S hF
        refine zs_calli (wr := ([] : va_W)) (ws' := wX8 G aMd Mdw4 mt) S hA [0, 1, 2, 3, 4, 5, 6, 7, 8, 9, 10, 11, 12, 13, 14, 15, 16, 17] [] [0, 1, 2, 3, 4, 5, 6, 7, 8, 9, 10, 11, 12, 13, 14, 15, 16, 17] (zs_runV C hK hA S [.ref (aMd 12), .int ((Md 0 18) + x4), .int x2, .int x3] [] [0, 1, 2, 3, 4, 5, 6, 7, 8, 9, 10, 11, 12, 13, 14, 15, 16, 17] 0 4 (c_X8_goes_row l G aMd Md mt (((Md 0 18) + x4)) x2 x3 H.size r3 Mdw4 f5) gX8_passes_X8_goes rfl rfl rfl zd_X8_goes ⟨Nat.le_of_ble_eq_true rfl, Nat.le_of_ble_eq_true rfl⟩ rfl rfl rfl rfl rfl hl rfl (Nat.le_of_ble_eq_true rfl) dX8_passes_23 ⟨Nat.le_of_ble_eq_true rfl, Nat.le_of_ble_eq_true rfl⟩) rfl rfl rfl (by decide) rfl rfl (fun H locs S => ?_)
        refine lv_pop hx hb dX8_passes_26 rfl ?_
        obtain ⟨z6, e7⟩ : ∃ q : Int32, q = x4 + (1 : Int32) := ⟨_, rfl⟩
        have hF := zs_letS hF e7
        refine lv_iinc (v := z6) (lv' := [(4, .int z6), (0, .ref (aMd 0)), (1, .int x1), (2, .int x2), (3, .int x3)]) hx hb dX8_passes_27 hl (k := 4) rfl (by rw [e7]; rfl) (by decide) rfl (fun ls hl => ?_)
        refine lv_goto (tgt := 3) hx hb dX8_passes_30 (by decide) ?_
        exact ih3 Mdw4 x1 x2 x3 z6 _ _ _ S (lv_sub hl [1, 2, 3, 4, 0] rfl) hF
  refine lv_iconst (v := (0 : Int32)) hx hb dX8_passes_0 (by decide) ?_
  refine lv_istore (lv' := [(4, .int (0 : Int32)), (0, .ref (aMd 0)), (1, .int u1), (2, .int u2), (3, .int u3)]) hx hb dX8_passes_1 hl (by decide) rfl (fun ls hl => ?_)
  exact j3 1000 Md u1 u2 u3 (0 : Int32) _ _ _ S (lv_sub hl [1, 2, 3, 4, 0] rfl) hF

theorem zd_X8_begins : yX8_begins.cls = RX8 ∧ yX8_begins.cls ≠ "java/lang/invoke/MethodHandle" ∧ yX8_begins.cls ≠ "java/lang/invoke/VarHandle" ∧ (parseMethodDescriptor yX8_begins.desc).map (fun d => d.parameters.length) = some 0 := by decide +kernel
theorem zd_X8_passes : yX8_passes.cls = RX8 ∧ yX8_passes.cls ≠ "java/lang/invoke/MethodHandle" ∧ yX8_passes.cls ≠ "java/lang/invoke/VarHandle" ∧ (parseMethodDescriptor yX8_passes.desc).map (fun d => d.parameters.length) = some 3 := by decide +kernel
abbrev RMX8_behind : Room := { frames := 2, cells := 0, slots := 0, locals := 56 }
theorem zn_X8_behind_X8 : ∀ w ∈ wsX80, w ∈ wsX8_behind := zs_inl wsX80 [33, 34, 35, 36, 37, 38, 39, 40, 41, 42, 43, 44, 45, 46, 47, 48, 49, 50, 51, 52, 53, 54, 55, 56, 57, 58, 59, 60, 61, 62, 63, 64, 65] (by decide +kernel)
set_option maxRecDepth 100000 in
set_option maxHeartbeats 4000000 in
theorem c_X8_behind (l : Launch) (G : GG) (aMd : Ad) (Md : Ob) (mt : Int64) (u1 : Int32) (u2 : Int32) (sz : Nat) (rr : Int32) (Md_ : Ob) (hF : F_X8_behind Md u1 u2 = some (rr, Md_)) : Met l yX8_behind wsX8_behind RMX8_behind (va_Pc [.ref (aMd 0), .int u1, .int u2] (zs_pre G (wX8 G aMd Md mt) sz)) (zs_Qi G (wX8 G aMd Md_ mt) rr (va_A (wX8 G aMd Md mt) sz)) 0 0 (va_A (wX8 G aMd Md mt) sz) := by
  refine zs_met (cc := cX8_behind) (maxL := 3) (ret := (some .int)) (own := RX8) (Qc := zs_Qi G (wX8 G aMd Md_ mt) rr) (by decide) rfl rfl (Nat.le_of_ble_eq_true rfl) ?_
  intro p e s m args below meth c C A hK hA S _ _ ls hl
  have hl : lv_has ls 3 [(0, .ref (aMd 0)), (1, .int u1), (2, .int u2)] := hl
  have hx := C.1.1
  have hb := C.1.2.1
  unfold F_X8_behind at hF
  refine lv_iload_n hx hb dX8_behind_0 rfl (lv_at hl 1 rfl) ?_
  refine lv_i2l (v := ((u1).toInt64)) hx hb dX8_behind_1 rfl ?_
  refine lv_lconst (v := (0 : Int64)) hx hb dX8_behind_2 rfl ?_
  refine lv_ldc2 (v := (50 : Int64)) hx hb C.1.2.2.2.1 (C.1.2.2.2.2 (.constantLong RX8 190 (50 : Int64)) (List.mem_of_getElem? (i := 1) rfl)) dX8_behind_3 ?_
  obtain ⟨r1, f2, hF⟩ := zs_bdS hF
  refine zs_calliP S hA (zs_runS C hK hA S [.long ((u1).toInt64), .long (0 : Int64), .long (50 : Int64)] [] [] 3 (c_X8_in l G (((u1).toInt64)) ((0 : Int64)) ((50 : Int64)) s.heap.size r1 f2) gX8_behind_X8_in rfl rfl rfl zd_X8_in ⟨Nat.le_of_ble_eq_true rfl, Nat.le_of_ble_eq_true rfl⟩ rfl rfl rfl hl rfl (Nat.le_of_ble_eq_true rfl) dX8_behind_6 ⟨Nat.le_of_ble_eq_true rfl, Nat.le_of_ble_eq_true rfl⟩) (fun H locs S => ?_)
  refine lv_if_eq (tgt := 20) hx hb dX8_behind_9 (by decide) (fun c3 => ?_) (fun c3 => ?_)
  · have hF := zs_t hF c3
    refine lv_iconst (v := (-1 : Int32)) hx hb dX8_behind_20 (by decide) ?_
    obtain ⟨e4, e5⟩ := zs_s2 hF
    exact zs_iretE C S e4 (by rw [e5]) dX8_behind_21
  · have hF := zs_f hF c3
    refine lv_aload_n hx hb dX8_behind_12 rfl (lv_at hl 0 rfl) ?_
    refine lv_iload_n hx hb dX8_behind_13 rfl (lv_at hl 2 rfl) ?_
    obtain ⟨r6, f7, hF⟩ := zs_bdS hF
    refine zs_calli (wr := ([] : va_W)) (ws' := wX8 G aMd Md mt) S hA [0, 1, 2, 3, 4, 5, 6, 7, 8, 9, 10, 11, 12, 13, 14, 15, 16, 17] [] [0, 1, 2, 3, 4, 5, 6, 7, 8, 9, 10, 11, 12, 13, 14, 15, 16, 17] (zs_runV C hK hA S [.int u2] [] [0, 1, 2, 3, 4, 5, 6, 7, 8, 9, 10, 11, 12, 13, 14, 15, 16, 17] 0 1 (c_X8_isWall l G aMd Md mt u2 H.size r6 f7) gX8_behind_X8_isWall rfl rfl rfl zd_X8_isWall ⟨Nat.le_of_ble_eq_true rfl, Nat.le_of_ble_eq_true rfl⟩ rfl rfl rfl rfl rfl hl rfl (Nat.le_of_ble_eq_true rfl) dX8_behind_14 ⟨Nat.le_of_ble_eq_true rfl, Nat.le_of_ble_eq_true rfl⟩) rfl rfl rfl (by decide) rfl rfl (fun H locs S => ?_)
    refine lv_if_ne (tgt := 22) hx hb dX8_behind_17 (by decide) (fun c8 => ?_) (fun c8 => ?_)
    · have hF := zs_f hF c8
      refine lv_aload_n hx hb dX8_behind_22 rfl (lv_at hl 0 rfl) ?_
      obtain ⟨Mdw9, f10, hF⟩ := zs_bdS hF
      refine zs_callv (wr := ([] : va_W)) (ws' := wX8 G aMd Mdw9 mt) S hA [0, 1, 2, 3, 4, 5, 6, 7, 8, 9, 10, 11, 12, 13, 14, 15, 16, 17] [] [0, 1, 2, 3, 4, 5, 6, 7, 8, 9, 10, 11, 12, 13, 14, 15, 16, 17] (zs_runV C hK hA S [] [] [0, 1, 2, 3, 4, 5, 6, 7, 8, 9, 10, 11, 12, 13, 14, 15, 16, 17] 0 0 (c_X8_begins l G aMd Md mt H.size Mdw9 f10) gX8_behind_X8_begins rfl rfl rfl zd_X8_begins ⟨Nat.le_of_ble_eq_true rfl, Nat.le_of_ble_eq_true rfl⟩ rfl rfl rfl rfl rfl hl rfl (Nat.le_of_ble_eq_true rfl) dX8_behind_23 ⟨Nat.le_of_ble_eq_true rfl, Nat.le_of_ble_eq_true rfl⟩) rfl rfl rfl (by decide) rfl rfl (fun H locs S => ?_)
      refine lv_aload_n hx hb dX8_behind_26 rfl (lv_at hl 0 rfl) ?_
      refine lv_iload_n hx hb dX8_behind_27 rfl (lv_at hl 1 rfl) ?_
      refine lv_aload_n hx hb dX8_behind_28 rfl (lv_at hl 0 rfl) ?_
      refine zs_get C hK S 0 19 (Cn := RX8) (T := TX8) (N := 33) (ci := 8) rfl rfl (by decide) zn_X8_behind_X8 (List.mem_of_getElem? (i := 2) rfl) rfl dX8_behind_29 ?_
      refine lv_aload_n hx hb dX8_behind_32 rfl (lv_at hl 0 rfl) ?_
      refine zs_get C hK S 0 20 (Cn := RX8) (T := TX8) (N := 33) (ci := 8) rfl rfl (by decide) zn_X8_behind_X8 (List.mem_of_getElem? (i := 3) rfl) rfl dX8_behind_33 ?_
      obtain ⟨Mdw11, f12, hF⟩ := zs_bdS hF
      refine zs_callv (wr := ([] : va_W)) (ws' := wX8 G aMd Mdw11 mt) S hA [0, 1, 2, 3, 4, 5, 6, 7, 8, 9, 10, 11, 12, 13, 14, 15, 16, 17] [] [0, 1, 2, 3, 4, 5, 6, 7, 8, 9, 10, 11, 12, 13, 14, 15, 16, 17] (zs_runV C hK hA S [.int u1, .int (Mdw9 0 19), .int (Mdw9 0 20)] [] [0, 1, 2, 3, 4, 5, 6, 7, 8, 9, 10, 11, 12, 13, 14, 15, 16, 17] 0 3 (c_X8_passes l G aMd Mdw9 mt u1 ((Mdw9 0 19)) ((Mdw9 0 20)) H.size Mdw11 f12) gX8_behind_X8_passes rfl rfl rfl zd_X8_passes ⟨Nat.le_of_ble_eq_true rfl, Nat.le_of_ble_eq_true rfl⟩ rfl rfl rfl rfl rfl hl rfl (Nat.le_of_ble_eq_true rfl) dX8_behind_36 ⟨Nat.le_of_ble_eq_true rfl, Nat.le_of_ble_eq_true rfl⟩) rfl rfl rfl (by decide) rfl rfl (fun H locs S => ?_)
      refine lv_aload_n hx hb dX8_behind_39 rfl (lv_at hl 0 rfl) ?_
      refine zs_get C hK S 0 25 (Cn := RX8) (T := TX8) (N := 33) (ci := 8) rfl rfl (by decide) zn_X8_behind_X8 (List.mem_of_getElem? (i := 4) rfl) rfl dX8_behind_40 ?_
      refine lv_iload_n hx hb dX8_behind_43 rfl (lv_at hl 2 rfl) ?_
      obtain ⟨h13, hF⟩ := zs_ckS hF
      refine zs_iald C hK S 12 rfl h13 dX8_behind_44 ?_
      obtain ⟨e14, e15⟩ := zs_s2 hF
      exact zs_iretE C S e14 (by rw [e15]) dX8_behind_45
    · have hF := zs_t hF c8
      refine lv_iconst (v := (-1 : Int32)) hx hb dX8_behind_20 (by decide) ?_
      obtain ⟨e16, e17⟩ := zs_s2 hF
      exact zs_iretE C S e16 (by rw [e17]) dX8_behind_21

abbrev RMX8_tooWarm : Room := { frames := 0, cells := 0, slots := 0, locals := 0 }
theorem zn_X8_tooWarm_X8 : ∀ w ∈ wsX80, w ∈ wsX8_tooWarm := zs_inl wsX80 [4, 5, 6, 7, 8, 9, 10, 11, 12, 13, 14, 15, 16, 17, 18, 19, 20, 21, 22, 23, 24, 25, 26, 27, 28, 29, 30, 31, 32, 33, 34, 35, 36] (by decide +kernel)
set_option maxRecDepth 100000 in
set_option maxHeartbeats 4000000 in
theorem c_X8_tooWarm (l : Launch) (G : GG) (aMd : Ad) (Md : Ob) (mt : Int64) (sz : Nat) (rr : Int32) (hF : F_X8_tooWarm Md = some rr) : Met l yX8_tooWarm wsX8_tooWarm RMX8_tooWarm (va_Pc [.ref (aMd 0)] (zs_pre G (wX8 G aMd Md mt) sz)) (zs_Qi G (wX8 G aMd Md mt) rr (va_A (wX8 G aMd Md mt) sz)) 0 0 (va_A (wX8 G aMd Md mt) sz) := by
  refine zs_met (cc := cX8_tooWarm) (maxL := 2) (ret := (some .int)) (own := RX8) (Qc := zs_Qi G (wX8 G aMd Md mt) rr) (by decide) rfl rfl (Nat.le_of_ble_eq_true rfl) ?_
  intro p e s m args below meth c C A hK hA S _ _ ls hl
  have hl : lv_has ls 2 [(0, .ref (aMd 0))] := hl
  have hx := C.1.1
  have hb := C.1.2.1
  unfold F_X8_tooWarm at hF
  have j2 : ∀ (n2 : Nat) (x1 : Int32) (H : Heap) (locs : List Loc) (ls : Array Slot), zs_S G A s.heap H locs (wX8 G aMd Md mt) → lv_has ls 2 [(0, .ref (aMd 0)), (1, .int x1)] → F_X8_tooWarm_2 Md n2 x1 = some rr → W p l e RMX8_tooWarm s m args below meth c H locs 0 0 (MQ below (zs_Qi G (wX8 G aMd Md mt) rr A) args s 0 0 A) (F0 m 2 ls []) := by
    intro n2
    induction n2 with
    | zero => intro x1 H locs ls _ _ hF; rw [F_X8_tooWarm_2_z] at hF; cases hF
    | succ n2 ih2 =>
      intro x1 H locs ls S hl hF
      rw [F_X8_tooWarm_2_n] at hF
      unfold F_X8_tooWarm_2_s at hF
      refine lv_iload_n hx hb dX8_tooWarm_2 rfl (lv_at hl 1 rfl) ?_
      refine lv_aload_n hx hb dX8_tooWarm_3 rfl (lv_at hl 0 rfl) ?_
      refine zs_get C hK S 0 10 (Cn := RX8) (T := TX8) (N := 33) (ci := 8) rfl rfl (by decide) zn_X8_tooWarm_X8 (List.mem_of_getElem? (i := 1) rfl) rfl dX8_tooWarm_4 ?_
      refine lv_icmp_ge (tgt := 31) hx hb dX8_tooWarm_7 (by decide) (fun c1 => ?_) (fun c1 => ?_)
      · have hF := zs_t hF c1
        refine lv_bipush (v := (-9 : Int32)) hx hb dX8_tooWarm_31 (by decide) ?_
        have e2 := zs_s1 hF
        exact zs_iretE C S e2 rfl dX8_tooWarm_33
      · have hF := zs_f hF c1
        refine lv_aload_n hx hb dX8_tooWarm_10 rfl (lv_at hl 0 rfl) ?_
        refine zs_get C hK S 0 25 (Cn := RX8) (T := TX8) (N := 33) (ci := 8) rfl rfl (by decide) zn_X8_tooWarm_X8 (List.mem_of_getElem? (i := 2) rfl) rfl dX8_tooWarm_11 ?_
        refine lv_iload_n hx hb dX8_tooWarm_14 rfl (lv_at hl 1 rfl) ?_
        obtain ⟨h3, hF⟩ := zs_ckS hF
        refine zs_iald C hK S 12 rfl h3 dX8_tooWarm_15 ?_
        refine lv_aload_n hx hb dX8_tooWarm_16 rfl (lv_at hl 0 rfl) ?_
        refine zs_get C hK S 0 11 (Cn := RX8) (T := TX8) (N := 33) (ci := 8) rfl rfl (by decide) zn_X8_tooWarm_X8 (List.mem_of_getElem? (i := 3) rfl) rfl dX8_tooWarm_17 ?_
        refine lv_icmp_le (tgt := 25) hx hb dX8_tooWarm_20 (by decide) (fun c4 => ?_) (fun c4 => ?_)
        · have hF := zs_t hF c4
          obtain ⟨z5, e6⟩ : ∃ q : Int32, q = x1 + (1 : Int32) := ⟨_, rfl⟩
          have hF := zs_letS hF e6
          refine lv_iinc (v := z5) (lv' := [(1, .int z5), (0, .ref (aMd 0))]) hx hb dX8_tooWarm_25 hl (k := 1) rfl (by rw [e6]; rfl) (by decide) rfl (fun ls hl => ?_)
          refine lv_goto (tgt := 2) hx hb dX8_tooWarm_28 (by decide) ?_
          exact ih2 z5 _ _ _ S (lv_sub hl [1, 0] rfl) hF
        · have hF := zs_f hF c4
          refine lv_iload_n hx hb dX8_tooWarm_23 rfl (lv_at hl 1 rfl) ?_
          have e7 := zs_s1 hF
          exact zs_iretE C S e7 rfl dX8_tooWarm_24
  refine lv_iconst (v := (0 : Int32)) hx hb dX8_tooWarm_0 (by decide) ?_
  refine lv_istore_n (lv' := [(1, .int (0 : Int32)), (0, .ref (aMd 0))]) hx hb dX8_tooWarm_1 rfl hl (by decide) rfl (fun ls hl => ?_)
  exact j2 1000 (0 : Int32) _ _ _ S (lv_sub hl [1, 0] rfl) hF

theorem zd_X8_tooWarm : yX8_tooWarm.cls = RX8 ∧ yX8_tooWarm.cls ≠ "java/lang/invoke/MethodHandle" ∧ yX8_tooWarm.cls ≠ "java/lang/invoke/VarHandle" ∧ (parseMethodDescriptor yX8_tooWarm.desc).map (fun d => d.parameters.length) = some 0 := by decide +kernel
abbrev RMX8_first : Room := { frames := 1, cells := 0, slots := 0, locals := 32 }
theorem zn_X8_first_X8 : ∀ w ∈ wsX80, w ∈ wsX8_first := zs_inl wsX80 [29, 30, 31, 32, 33, 34, 35, 36, 37, 38, 39, 40, 41, 42, 43, 44, 45, 46, 47, 48, 49, 50, 51, 52, 53, 54, 55, 56, 57, 58, 59, 60, 61] (by decide +kernel)
set_option maxRecDepth 100000 in
set_option maxHeartbeats 4000000 in
theorem c_X8_first (l : Launch) (G : GG) (aMd : Ad) (Md : Ob) (mt : Int64) (u1 : Int32) (sz : Nat) (rr : Int32) (Md_ : Ob) (hF : F_X8_first Md u1 = some (rr, Md_)) : Met l yX8_first wsX8_first RMX8_first (va_Pc [.ref (aMd 0), .int u1] (zs_pre G (wX8 G aMd Md mt) sz)) (zs_Qi G (wX8 G aMd Md_ mt) rr (va_A (wX8 G aMd Md mt) sz)) 0 0 (va_A (wX8 G aMd Md mt) sz) := by
  refine zs_met (cc := cX8_first) (maxL := 4) (ret := (some .int)) (own := RX8) (Qc := zs_Qi G (wX8 G aMd Md_ mt) rr) (by decide) rfl rfl (Nat.le_of_ble_eq_true rfl) ?_
  intro p e s m args below meth c C A hK hA S _ _ ls hl
  have hl : lv_has ls 4 [(0, .ref (aMd 0)), (1, .int u1)] := hl
  have hx := C.1.1
  have hb := C.1.2.1
  unfold F_X8_first at hF
  have j35 : ∀ (Md : Ob) (x1 : Int32) (x2 : Int32) (x3 : Int32) (H : Heap) (locs : List Loc) (ls : Array Slot), zs_S G A s.heap H locs (wX8 G aMd Md mt) → lv_has ls 4 [(1, .int x1), (2, .int x2), (3, .int x3)] → F_X8_first_35 Md x1 x2 x3 = some (rr, Md_) → W p l e RMX8_first s m args below meth c H locs 0 0 (MQ below (zs_Qi G (wX8 G aMd Md_ mt) rr A) args s 0 0 A) (F0 m 35 ls []) := by
    intro Md x1 x2 x3 H locs ls S hl hF
    unfold F_X8_first_35 at hF
    refine lv_iload_n hx hb dX8_first_35 rfl (lv_at hl 0 rfl) ?_
    refine lv_if_ne (tgt := 43) hx hb dX8_first_36 (by decide) (fun c1 => ?_) (fun c1 => ?_)
    · have hF := zs_f hF c1
      refine lv_iload_n hx hb dX8_first_43 rfl (lv_at hl 2 rfl) ?_
      obtain ⟨e2, e3⟩ := zs_s2 hF
      exact zs_iretE C S e2 (by rw [e3]) dX8_first_44
    · have hF := zs_t hF c1
      refine lv_iload_n hx hb dX8_first_39 rfl (lv_at hl 1 rfl) ?_
      refine lv_goto (tgt := 44) hx hb dX8_first_40 (by decide) ?_
      obtain ⟨e4, e5⟩ := zs_s2 hF
      exact zs_iretE C S e4 (by rw [e5]) dX8_first_44
  have j18 : ∀ (n18 : Nat) (Md : Ob) (x1 : Int32) (x2 : Int32) (H : Heap) (locs : List Loc) (ls : Array Slot), zs_S G A s.heap H locs (wX8 G aMd Md mt) → lv_has ls 4 [(0, .ref (aMd 0)), (1, .int x1), (2, .int x2)] → F_X8_first_18 n18 Md x1 x2 = some (rr, Md_) → W p l e RMX8_first s m args below meth c H locs 0 0 (MQ below (zs_Qi G (wX8 G aMd Md_ mt) rr A) args s 0 0 A) (F0 m 18 ls []) := by
    intro n18
    induction n18 with
    | zero => intro Md x1 x2 H locs ls _ _ hF; rw [F_X8_first_18_z] at hF; cases hF
    | succ n18 ih18 =>
      intro Md x1 x2 H locs ls S hl hF
      rw [F_X8_first_18_n] at hF
      unfold F_X8_first_18_s at hF
      refine lv_iload_n hx hb dX8_first_18 rfl (lv_at hl 2 rfl) ?_
      refine lv_bipush (v := (50 : Int32)) hx hb dX8_first_19 (by decide) ?_
      refine lv_icmp_gt (tgt := 74) hx hb dX8_first_21 (by decide) (fun c6 => ?_) (fun c6 => ?_)
      · have hF := zs_t hF c6
        refine lv_bipush (v := (-9 : Int32)) hx hb dX8_first_74 (by decide) ?_
        obtain ⟨e7, e8⟩ := zs_s2 hF
        exact zs_iretE C S e7 (by rw [e8]) dX8_first_76
      · have hF := zs_f hF c6
        refine lv_aload_n hx hb dX8_first_24 rfl (lv_at hl 0 rfl) ?_
        obtain ⟨r9, f10, hF⟩ := zs_bdS hF
        refine zs_calli (wr := ([] : va_W)) (ws' := wX8 G aMd Md mt) S hA [0, 1, 2, 3, 4, 5, 6, 7, 8, 9, 10, 11, 12, 13, 14, 15, 16, 17] [] [0, 1, 2, 3, 4, 5, 6, 7, 8, 9, 10, 11, 12, 13, 14, 15, 16, 17] (zs_runV C hK hA S [] [] [0, 1, 2, 3, 4, 5, 6, 7, 8, 9, 10, 11, 12, 13, 14, 15, 16, 17] 0 0 (c_X8_tooWarm l G aMd Md mt H.size r9 f10) gX8_first_X8_tooWarm rfl rfl rfl zd_X8_tooWarm ⟨Nat.le_of_ble_eq_true rfl, Nat.le_of_ble_eq_true rfl⟩ rfl rfl rfl rfl rfl hl rfl (Nat.le_of_ble_eq_true rfl) dX8_first_25 ⟨Nat.le_of_ble_eq_true rfl, Nat.le_of_ble_eq_true rfl⟩) rfl rfl rfl (by decide) rfl rfl (fun H locs S => ?_)
        refine lv_istore_n (lv' := [(3, .int r9), (0, .ref (aMd 0)), (1, .int x1), (2, .int x2)]) hx hb dX8_first_28 rfl hl (by decide) rfl (fun ls hl => ?_)
        refine lv_iload_n hx hb dX8_first_29 rfl (lv_at hl 0 rfl) ?_
        refine lv_bipush (v := (-9 : Int32)) hx hb dX8_first_30 (by decide) ?_
        refine lv_icmp_eq (tgt := 45) hx hb dX8_first_32 (by decide) (fun c11 => ?_) (fun c11 => ?_)
        · have hF := zs_t hF c11
          refine lv_aload_n hx hb dX8_first_45 rfl (lv_at hl 1 rfl) ?_
          refine lv_aload_n hx hb dX8_first_46 rfl (lv_at hl 1 rfl) ?_
          refine zs_get C hK S 0 25 (Cn := RX8) (T := TX8) (N := 33) (ci := 8) rfl rfl (by decide) zn_X8_first_X8 (List.mem_of_getElem? (i := 1) rfl) rfl dX8_first_47 ?_
          refine lv_aload_n hx hb dX8_first_50 rfl (lv_at hl 1 rfl) ?_
          refine zs_get C hK S 0 18 (Cn := RX8) (T := TX8) (N := 33) (ci := 8) rfl rfl (by decide) zn_X8_first_X8 (List.mem_of_getElem? (i := 2) rfl) rfl dX8_first_51 ?_
          refine lv_iload_n hx hb dX8_first_54 rfl (lv_at hl 3 rfl) ?_
          refine lv_iadd hx hb dX8_first_55 ?_
          refine lv_aload_n hx hb dX8_first_56 rfl (lv_at hl 1 rfl) ?_
          refine zs_get C hK S 0 19 (Cn := RX8) (T := TX8) (N := 33) (ci := 8) rfl rfl (by decide) zn_X8_first_X8 (List.mem_of_getElem? (i := 3) rfl) rfl dX8_first_57 ?_
          refine lv_aload_n hx hb dX8_first_60 rfl (lv_at hl 1 rfl) ?_
          refine zs_get C hK S 0 20 (Cn := RX8) (T := TX8) (N := 33) (ci := 8) rfl rfl (by decide) zn_X8_first_X8 (List.mem_of_getElem? (i := 4) rfl) rfl dX8_first_61 ?_
          obtain ⟨r12, Mdw13, f14, hF⟩ := zs_b2S hF
          refine zs_calli (wr := ([] : va_W)) (ws' := wX8 G aMd Mdw13 mt) S hA [0, 1, 2, 3, 4, 5, 6, 7, 8, 9, 10, 11, 12, 13, 14, 15, 16, 17] [] [0, 1, 2, 3, 4, 5, 6, 7, 8, 9, 10, 11, 12, 13, 14, 15, 16, 17] (zs_runV C hK hA S [.ref (aMd 12), .int ((Md 0 18) + x2), .int (Md 0 19), .int (Md 0 20)] [] [0, 1, 2, 3, 4, 5, 6, 7, 8, 9, 10, 11, 12, 13, 14, 15, 16, 17] 0 4 (c_X8_goes_row l G aMd Md mt (((Md 0 18) + x2)) ((Md 0 19)) ((Md 0 20)) H.size r12 Mdw13 f14) gX8_first_X8_goes rfl rfl rfl zd_X8_goes ⟨Nat.le_of_ble_eq_true rfl, Nat.le_of_ble_eq_true rfl⟩ rfl rfl rfl rfl rfl hl rfl (Nat.le_of_ble_eq_true rfl) dX8_first_64 ⟨Nat.le_of_ble_eq_true rfl, Nat.le_of_ble_eq_true rfl⟩) rfl rfl rfl (by decide) rfl rfl (fun H locs S => ?_)
          refine lv_pop hx hb dX8_first_67 rfl ?_
          obtain ⟨z15, e16⟩ : ∃ q : Int32, q = x2 + (1 : Int32) := ⟨_, rfl⟩
          have hF := zs_letS hF e16
          refine lv_iinc (v := z15) (lv' := [(2, .int z15), (3, .int r9), (0, .ref (aMd 0)), (1, .int x1)]) hx hb dX8_first_68 hl (k := 3) rfl (by rw [e16]; rfl) (by decide) rfl (fun ls hl => ?_)
          refine lv_goto (tgt := 18) hx hb dX8_first_71 (by decide) ?_
          exact ih18 Mdw13 x1 z15 _ _ _ S (lv_sub hl [2, 3, 0] rfl) hF
        · have hF := zs_f hF c11
          exact j35 Md x1 x2 r9 _ _ _ S (lv_sub hl [2, 3, 0] rfl) hF
  refine lv_iload_n hx hb dX8_first_0 rfl (lv_at hl 1 rfl) ?_
  refine lv_i2l (v := ((u1).toInt64)) hx hb dX8_first_1 rfl ?_
  refine lv_lconst (v := (0 : Int64)) hx hb dX8_first_2 rfl ?_
  refine lv_lconst (v := (1 : Int64)) hx hb dX8_first_3 rfl ?_
  obtain ⟨r17, f18, hF⟩ := zs_bdS hF
  refine zs_calliP S hA (zs_runS C hK hA S [.long ((u1).toInt64), .long (0 : Int64), .long (1 : Int64)] [] [] 3 (c_X8_in l G (((u1).toInt64)) ((0 : Int64)) ((1 : Int64)) s.heap.size r17 f18) gX8_first_X8_in rfl rfl rfl zd_X8_in ⟨Nat.le_of_ble_eq_true rfl, Nat.le_of_ble_eq_true rfl⟩ rfl rfl rfl hl rfl (Nat.le_of_ble_eq_true rfl) dX8_first_4 ⟨Nat.le_of_ble_eq_true rfl, Nat.le_of_ble_eq_true rfl⟩) (fun H locs S => ?_)
  refine lv_if_ne (tgt := 12) hx hb dX8_first_7 (by decide) (fun c19 => ?_) (fun c19 => ?_)
  · have hF := zs_f hF c19
    refine lv_aload_n hx hb dX8_first_12 rfl (lv_at hl 0 rfl) ?_
    obtain ⟨Mdw20, f21, hF⟩ := zs_bdS hF
    refine zs_callv (wr := ([] : va_W)) (ws' := wX8 G aMd Mdw20 mt) S hA [0, 1, 2, 3, 4, 5, 6, 7, 8, 9, 10, 11, 12, 13, 14, 15, 16, 17] [] [0, 1, 2, 3, 4, 5, 6, 7, 8, 9, 10, 11, 12, 13, 14, 15, 16, 17] (zs_runV C hK hA S [] [] [0, 1, 2, 3, 4, 5, 6, 7, 8, 9, 10, 11, 12, 13, 14, 15, 16, 17] 0 0 (c_X8_begins l G aMd Md mt H.size Mdw20 f21) gX8_first_X8_begins rfl rfl rfl zd_X8_begins ⟨Nat.le_of_ble_eq_true rfl, Nat.le_of_ble_eq_true rfl⟩ rfl rfl rfl rfl rfl hl rfl (Nat.le_of_ble_eq_true rfl) dX8_first_13 ⟨Nat.le_of_ble_eq_true rfl, Nat.le_of_ble_eq_true rfl⟩) rfl rfl rfl (by decide) rfl rfl (fun H locs S => ?_)
    refine lv_iconst (v := (0 : Int32)) hx hb dX8_first_16 (by decide) ?_
    refine lv_istore_n (lv' := [(2, .int (0 : Int32)), (0, .ref (aMd 0)), (1, .int u1)]) hx hb dX8_first_17 rfl hl (by decide) rfl (fun ls hl => ?_)
    exact j18 1000 Mdw20 u1 (0 : Int32) _ _ _ S (lv_sub hl [1, 2, 0] rfl) hF
  · have hF := zs_t hF c19
    refine lv_iconst (v := (-1 : Int32)) hx hb dX8_first_10 (by decide) ?_
    obtain ⟨e22, e23⟩ := zs_s2 hF
    exact zs_iretE C S e22 (by rw [e23]) dX8_first_11

abbrev RMX8_rest : Room := { frames := 2, cells := 0, slots := 0, locals := 56 }
theorem zn_X8_rest_X8 : ∀ w ∈ wsX80, w ∈ wsX8_rest := zs_inl wsX80 [26, 27, 28, 29, 30, 31, 32, 33, 34, 35, 36, 37, 38, 39, 40, 41, 42, 43, 44, 45, 46, 47, 48, 49, 50, 51, 52, 53, 54, 55, 56, 57, 58] (by decide +kernel)
set_option maxRecDepth 100000 in
set_option maxHeartbeats 4000000 in
theorem c_X8_rest (l : Launch) (G : GG) (aMd : Ad) (Md : Ob) (mt : Int64) (sz : Nat) (rr : Int32) (Md_ : Ob) (hF : F_X8_rest Md = some (rr, Md_)) : Met l yX8_rest wsX8_rest RMX8_rest (va_Pc [.ref (aMd 0)] (zs_pre G (wX8 G aMd Md mt) sz)) (zs_Qi G (wX8 G aMd Md_ mt) rr (va_A (wX8 G aMd Md mt) sz)) 0 0 (va_A (wX8 G aMd Md mt) sz) := by
  refine zs_met (cc := cX8_rest) (maxL := 4) (ret := (some .int)) (own := RX8) (Qc := zs_Qi G (wX8 G aMd Md_ mt) rr) (by decide) rfl rfl (Nat.le_of_ble_eq_true rfl) ?_
  intro p e s m args below meth c C A hK hA S _ _ ls hl
  have hl : lv_has ls 4 [(0, .ref (aMd 0))] := hl
  have hx := C.1.1
  have hb := C.1.2.1
  unfold F_X8_rest at hF
  have j2 : ∀ (n2 : Nat) (Md : Ob) (x1 : Int32) (H : Heap) (locs : List Loc) (ls : Array Slot), zs_S G A s.heap H locs (wX8 G aMd Md mt) → lv_has ls 4 [(0, .ref (aMd 0)), (1, .int x1)] → F_X8_rest_2 n2 Md x1 = some (rr, Md_) → W p l e RMX8_rest s m args below meth c H locs 0 0 (MQ below (zs_Qi G (wX8 G aMd Md_ mt) rr A) args s 0 0 A) (F0 m 2 ls []) := by
    intro n2
    induction n2 with
    | zero => intro Md x1 H locs ls _ _ hF; rw [F_X8_rest_2_z] at hF; cases hF
    | succ n2 ih2 =>
      have j136 : ∀ (Md : Ob) (x1 : Int32) (x2 : Int32) (H : Heap) (locs : List Loc) (ls : Array Slot), zs_S G A s.heap H locs (wX8 G aMd Md mt) → lv_has ls 4 [(0, .ref (aMd 0)), (1, .int x1), (2, .int x2)] → F_X8_rest_136 (F_X8_rest_2 n2) Md x1 x2 = some (rr, Md_) → W p l e RMX8_rest s m args below meth c H locs 0 0 (MQ below (zs_Qi G (wX8 G aMd Md_ mt) rr A) args s 0 0 A) (F0 m 136 ls []) := by
        intro Md x1 x2 H locs ls S hl hF
        unfold F_X8_rest_136 at hF
        refine lv_iload_n hx hb dX8_rest_136 rfl (lv_at hl 2 rfl) ?_
        refine lv_if_eq (tgt := 142) hx hb dX8_rest_137 (by decide) (fun c1 => ?_) (fun c1 => ?_)
        · have hF := zs_t hF c1
          obtain ⟨z2, e3⟩ : ∃ q : Int32, q = x1 + (1 : Int32) := ⟨_, rfl⟩
          have hF := zs_letS hF e3
          refine lv_iinc (v := z2) (lv' := [(1, .int z2), (0, .ref (aMd 0)), (2, .int x2)]) hx hb dX8_rest_142 hl (k := 1) rfl (by rw [e3]; rfl) (by decide) rfl (fun ls hl => ?_)
          refine lv_goto (tgt := 2) hx hb dX8_rest_145 (by decide) ?_
          exact ih2 Md z2 _ _ _ S (lv_sub hl [1, 0] rfl) hF
        · have hF := zs_f hF c1
          refine lv_iload_n hx hb dX8_rest_140 rfl (lv_at hl 1 rfl) ?_
          obtain ⟨e4, e5⟩ := zs_s2 hF
          exact zs_iretE C S e4 (by rw [e5]) dX8_rest_141
      have j97 : ∀ (n97 : Nat) (Md : Ob) (x1 : Int32) (x2 : Int32) (x3 : Int32) (H : Heap) (locs : List Loc) (ls : Array Slot), zs_S G A s.heap H locs (wX8 G aMd Md mt) → lv_has ls 4 [(0, .ref (aMd 0)), (1, .int x1), (2, .int x2), (3, .int x3)] → F_X8_rest_97 (F_X8_rest_2 n2) n97 Md x1 x2 x3 = some (rr, Md_) → W p l e RMX8_rest s m args below meth c H locs 0 0 (MQ below (zs_Qi G (wX8 G aMd Md_ mt) rr A) args s 0 0 A) (F0 m 97 ls []) := by
        intro n97
        induction n97 with
        | zero => intro Md x1 x2 x3 H locs ls _ _ hF; rw [F_X8_rest_97_z] at hF; cases hF
        | succ n97 ih97 =>
          have j129 : ∀ (Md : Ob) (x1 : Int32) (x3 : Int32) (y0 : Int32) (H : Heap) (locs : List Loc) (ls : Array Slot), zs_S G A s.heap H locs (wX8 G aMd Md mt) → lv_has ls 4 [(0, .ref (aMd 0)), (1, .int x1), (3, .int x3)] → F_X8_rest_129 (F_X8_rest_2 n2) (F_X8_rest_97 (F_X8_rest_2 n2) n97) Md x1 x3 y0 = some (rr, Md_) → W p l e RMX8_rest s m args below meth c H locs 0 0 (MQ below (zs_Qi G (wX8 G aMd Md_ mt) rr A) args s 0 0 A) (F0 m 129 ls [.int y0]) := by
            intro Md x1 x3 y0 H locs ls S hl hF
            unfold F_X8_rest_129 at hF
            refine lv_istore_n (lv' := [(2, .int y0), (0, .ref (aMd 0)), (1, .int x1), (3, .int x3)]) hx hb dX8_rest_129 rfl hl (by decide) rfl (fun ls hl => ?_)
            obtain ⟨z6, e7⟩ : ∃ q : Int32, q = x3 + (1 : Int32) := ⟨_, rfl⟩
            have hF := zs_letS hF e7
            refine lv_iinc (v := z6) (lv' := [(3, .int z6), (2, .int y0), (0, .ref (aMd 0)), (1, .int x1)]) hx hb dX8_rest_130 hl (k := 3) rfl (by rw [e7]; rfl) (by decide) rfl (fun ls hl => ?_)
            refine lv_goto (tgt := 97) hx hb dX8_rest_133 (by decide) ?_
            exact ih97 Md x1 y0 z6 _ _ _ S (lv_sub hl [2, 3, 1, 0] rfl) hF
          have j128 : ∀ (Md : Ob) (x1 : Int32) (x3 : Int32) (H : Heap) (locs : List Loc) (ls : Array Slot), zs_S G A s.heap H locs (wX8 G aMd Md mt) → lv_has ls 4 [(0, .ref (aMd 0)), (1, .int x1), (3, .int x3)] → F_X8_rest_128 (F_X8_rest_2 n2) (F_X8_rest_97 (F_X8_rest_2 n2) n97) Md x1 x3 = some (rr, Md_) → W p l e RMX8_rest s m args below meth c H locs 0 0 (MQ below (zs_Qi G (wX8 G aMd Md_ mt) rr A) args s 0 0 A) (F0 m 128 ls []) := by
            intro Md x1 x3 H locs ls S hl hF
            unfold F_X8_rest_128 at hF
            refine lv_iconst (v := (0 : Int32)) hx hb dX8_rest_128 (by decide) ?_
            exact j129 Md x1 x3 (0 : Int32) _ _ _ S (lv_sub hl [0, 1, 2] rfl) hF
          intro Md x1 x2 x3 H locs ls S hl hF
          rw [F_X8_rest_97_n] at hF
          unfold F_X8_rest_97_s at hF
          refine lv_iload_n hx hb dX8_rest_97 rfl (lv_at hl 3 rfl) ?_
          refine lv_aload_n hx hb dX8_rest_98 rfl (lv_at hl 0 rfl) ?_
          refine zs_get C hK S 0 10 (Cn := RX8) (T := TX8) (N := 33) (ci := 8) rfl rfl (by decide) zn_X8_rest_X8 (List.mem_of_getElem? (i := 3) rfl) rfl dX8_rest_99 ?_
          refine lv_icmp_ge (tgt := 136) hx hb dX8_rest_102 (by decide) (fun c8 => ?_) (fun c8 => ?_)
          · have hF := zs_t hF c8
            exact j136 Md x1 x2 _ _ _ S (lv_sub hl [0, 1, 2] rfl) hF
          · have hF := zs_f hF c8
            refine lv_iload_n hx hb dX8_rest_105 rfl (lv_at hl 2 rfl) ?_
            refine lv_if_eq (tgt := 128) hx hb dX8_rest_106 (by decide) (fun c9 => ?_) (fun c9 => ?_)
            · have hF := zs_t hF c9
              exact j128 Md x1 x3 _ _ _ S (lv_sub hl [0, 1, 3] rfl) hF
            · have hF := zs_f hF c9
              refine lv_aload_n hx hb dX8_rest_109 rfl (lv_at hl 0 rfl) ?_
              refine zs_get C hK S 0 25 (Cn := RX8) (T := TX8) (N := 33) (ci := 8) rfl rfl (by decide) zn_X8_rest_X8 (List.mem_of_getElem? (i := 5) rfl) rfl dX8_rest_110 ?_
              refine lv_iload_n hx hb dX8_rest_113 rfl (lv_at hl 3 rfl) ?_
              obtain ⟨h10, hF⟩ := zs_ckS hF
              refine zs_iald C hK S 12 rfl h10 dX8_rest_114 ?_
              refine lv_aload_n hx hb dX8_rest_115 rfl (lv_at hl 0 rfl) ?_
              refine zs_get C hK S 0 26 (Cn := RX8) (T := TX8) (N := 33) (ci := 8) rfl rfl (by decide) zn_X8_rest_X8 (List.mem_of_getElem? (i := 4) rfl) rfl dX8_rest_116 ?_
              refine lv_iload_n hx hb dX8_rest_119 rfl (lv_at hl 3 rfl) ?_
              obtain ⟨h11, hF⟩ := zs_ckS hF
              refine zs_iald C hK S 13 rfl h11 dX8_rest_120 ?_
              refine lv_icmp_ne (tgt := 128) hx hb dX8_rest_121 (by decide) (fun c12 => ?_) (fun c12 => ?_)
              · have hF := zs_f hF c12
                exact j128 Md x1 x3 _ _ _ S (lv_sub hl [0, 1, 3] rfl) hF
              · have hF := zs_t hF c12
                refine lv_iconst (v := (1 : Int32)) hx hb dX8_rest_124 (by decide) ?_
                refine lv_goto (tgt := 129) hx hb dX8_rest_125 (by decide) ?_
                exact j129 Md x1 x3 (1 : Int32) _ _ _ S (lv_sub hl [0, 1, 3] rfl) hF
      have j93 : ∀ (Md : Ob) (x1 : Int32) (H : Heap) (locs : List Loc) (ls : Array Slot), zs_S G A s.heap H locs (wX8 G aMd Md mt) → lv_has ls 4 [(0, .ref (aMd 0)), (1, .int x1)] → F_X8_rest_93 (F_X8_rest_2 n2) Md x1 = some (rr, Md_) → W p l e RMX8_rest s m args below meth c H locs 0 0 (MQ below (zs_Qi G (wX8 G aMd Md_ mt) rr A) args s 0 0 A) (F0 m 93 ls []) := by
        intro Md x1 H locs ls S hl hF
        unfold F_X8_rest_93 at hF
        refine lv_iconst (v := (1 : Int32)) hx hb dX8_rest_93 (by decide) ?_
        refine lv_istore_n (lv' := [(2, .int (1 : Int32)), (0, .ref (aMd 0)), (1, .int x1)]) hx hb dX8_rest_94 rfl hl (by decide) rfl (fun ls hl => ?_)
        refine lv_iconst (v := (0 : Int32)) hx hb dX8_rest_95 (by decide) ?_
        refine lv_istore_n (lv' := [(3, .int (0 : Int32)), (2, .int (1 : Int32)), (0, .ref (aMd 0)), (1, .int x1)]) hx hb dX8_rest_96 rfl hl (by decide) rfl (fun ls hl => ?_)
        exact j97 1000 Md x1 (1 : Int32) (0 : Int32) _ _ _ S (lv_sub hl [2, 3, 1, 0] rfl) hF
      have j56 : ∀ (n56 : Nat) (Md : Ob) (x1 : Int32) (x2 : Int32) (H : Heap) (locs : List Loc) (ls : Array Slot), zs_S G A s.heap H locs (wX8 G aMd Md mt) → lv_has ls 4 [(0, .ref (aMd 0)), (1, .int x1), (2, .int x2)] → F_X8_rest_56 (F_X8_rest_2 n2) n56 Md x1 x2 = some (rr, Md_) → W p l e RMX8_rest s m args below meth c H locs 0 0 (MQ below (zs_Qi G (wX8 G aMd Md_ mt) rr A) args s 0 0 A) (F0 m 56 ls []) := by
        intro n56
        induction n56 with
        | zero => intro Md x1 x2 H locs ls _ _ hF; rw [F_X8_rest_56_z] at hF; cases hF
        | succ n56 ih56 =>
          intro Md x1 x2 H locs ls S hl hF
          rw [F_X8_rest_56_n] at hF
          unfold F_X8_rest_56_s at hF
          refine lv_iload_n hx hb dX8_rest_56 rfl (lv_at hl 2 rfl) ?_
          refine lv_bipush (v := (8 : Int32)) hx hb dX8_rest_57 (by decide) ?_
          refine lv_icmp_ge (tgt := 93) hx hb dX8_rest_59 (by decide) (fun c13 => ?_) (fun c13 => ?_)
          · have hF := zs_t hF c13
            exact j93 Md x1 _ _ _ S (lv_sub hl [0, 1] rfl) hF
          · have hF := zs_f hF c13
            refine lv_aload_n hx hb dX8_rest_62 rfl (lv_at hl 0 rfl) ?_
            refine lv_aload_n hx hb dX8_rest_63 rfl (lv_at hl 0 rfl) ?_
            refine zs_get C hK S 0 25 (Cn := RX8) (T := TX8) (N := 33) (ci := 8) rfl rfl (by decide) zn_X8_rest_X8 (List.mem_of_getElem? (i := 5) rfl) rfl dX8_rest_64 ?_
            refine lv_aload_n hx hb dX8_rest_67 rfl (lv_at hl 0 rfl) ?_
            refine zs_get C hK S 0 18 (Cn := RX8) (T := TX8) (N := 33) (ci := 8) rfl rfl (by decide) zn_X8_rest_X8 (List.mem_of_getElem? (i := 6) rfl) rfl dX8_rest_68 ?_
            refine lv_iload_n hx hb dX8_rest_71 rfl (lv_at hl 1 rfl) ?_
            refine lv_iadd hx hb dX8_rest_72 ?_
            refine lv_iload_n hx hb dX8_rest_73 rfl (lv_at hl 2 rfl) ?_
            refine lv_iadd hx hb dX8_rest_74 ?_
            refine lv_aload_n hx hb dX8_rest_75 rfl (lv_at hl 0 rfl) ?_
            refine zs_get C hK S 0 19 (Cn := RX8) (T := TX8) (N := 33) (ci := 8) rfl rfl (by decide) zn_X8_rest_X8 (List.mem_of_getElem? (i := 1) rfl) rfl dX8_rest_76 ?_
            refine lv_aload_n hx hb dX8_rest_79 rfl (lv_at hl 0 rfl) ?_
            refine zs_get C hK S 0 20 (Cn := RX8) (T := TX8) (N := 33) (ci := 8) rfl rfl (by decide) zn_X8_rest_X8 (List.mem_of_getElem? (i := 2) rfl) rfl dX8_rest_80 ?_
            obtain ⟨r14, Mdw15, f16, hF⟩ := zs_b2S hF
            refine zs_calli (wr := ([] : va_W)) (ws' := wX8 G aMd Mdw15 mt) S hA [0, 1, 2, 3, 4, 5, 6, 7, 8, 9, 10, 11, 12, 13, 14, 15, 16, 17] [] [0, 1, 2, 3, 4, 5, 6, 7, 8, 9, 10, 11, 12, 13, 14, 15, 16, 17] (zs_runV C hK hA S [.ref (aMd 12), .int (((Md 0 18) + x1) + x2), .int (Md 0 19), .int (Md 0 20)] [] [0, 1, 2, 3, 4, 5, 6, 7, 8, 9, 10, 11, 12, 13, 14, 15, 16, 17] 0 4 (c_X8_goes_row l G aMd Md mt ((((Md 0 18) + x1) + x2)) ((Md 0 19)) ((Md 0 20)) H.size r14 Mdw15 f16) gX8_rest_X8_goes rfl rfl rfl zd_X8_goes ⟨Nat.le_of_ble_eq_true rfl, Nat.le_of_ble_eq_true rfl⟩ rfl rfl rfl rfl rfl hl rfl (Nat.le_of_ble_eq_true rfl) dX8_rest_83 ⟨Nat.le_of_ble_eq_true rfl, Nat.le_of_ble_eq_true rfl⟩) rfl rfl rfl (by decide) rfl rfl (fun H locs S => ?_)
            refine lv_pop hx hb dX8_rest_86 rfl ?_
            obtain ⟨z17, e18⟩ : ∃ q : Int32, q = x2 + (1 : Int32) := ⟨_, rfl⟩
            have hF := zs_letS hF e18
            refine lv_iinc (v := z17) (lv' := [(2, .int z17), (0, .ref (aMd 0)), (1, .int x1)]) hx hb dX8_rest_87 hl (k := 2) rfl (by rw [e18]; rfl) (by decide) rfl (fun ls hl => ?_)
            refine lv_goto (tgt := 56) hx hb dX8_rest_90 (by decide) ?_
            exact ih56 Mdw15 x1 z17 _ _ _ S (lv_sub hl [1, 2, 0] rfl) hF
      have j54 : ∀ (Md : Ob) (x1 : Int32) (H : Heap) (locs : List Loc) (ls : Array Slot), zs_S G A s.heap H locs (wX8 G aMd Md mt) → lv_has ls 4 [(0, .ref (aMd 0)), (1, .int x1)] → F_X8_rest_54 (F_X8_rest_2 n2) Md x1 = some (rr, Md_) → W p l e RMX8_rest s m args below meth c H locs 0 0 (MQ below (zs_Qi G (wX8 G aMd Md_ mt) rr A) args s 0 0 A) (F0 m 54 ls []) := by
        intro Md x1 H locs ls S hl hF
        unfold F_X8_rest_54 at hF
        refine lv_iconst (v := (0 : Int32)) hx hb dX8_rest_54 (by decide) ?_
        refine lv_istore_n (lv' := [(2, .int (0 : Int32)), (0, .ref (aMd 0)), (1, .int x1)]) hx hb dX8_rest_55 rfl hl (by decide) rfl (fun ls hl => ?_)
        exact j56 1000 Md x1 (0 : Int32) _ _ _ S (lv_sub hl [1, 2, 0] rfl) hF
      have j28 : ∀ (n28 : Nat) (Md : Ob) (x1 : Int32) (x2 : Int32) (H : Heap) (locs : List Loc) (ls : Array Slot), zs_S G A s.heap H locs (wX8 G aMd Md mt) → lv_has ls 4 [(0, .ref (aMd 0)), (1, .int x1), (2, .int x2)] → F_X8_rest_28 (F_X8_rest_2 n2) n28 Md x1 x2 = some (rr, Md_) → W p l e RMX8_rest s m args below meth c H locs 0 0 (MQ below (zs_Qi G (wX8 G aMd Md_ mt) rr A) args s 0 0 A) (F0 m 28 ls []) := by
        intro n28
        induction n28 with
        | zero => intro Md x1 x2 H locs ls _ _ hF; rw [F_X8_rest_28_z] at hF; cases hF
        | succ n28 ih28 =>
          intro Md x1 x2 H locs ls S hl hF
          rw [F_X8_rest_28_n] at hF
          unfold F_X8_rest_28_s at hF
          refine lv_iload_n hx hb dX8_rest_28 rfl (lv_at hl 2 rfl) ?_
          refine lv_aload_n hx hb dX8_rest_29 rfl (lv_at hl 0 rfl) ?_
          refine zs_get C hK S 0 10 (Cn := RX8) (T := TX8) (N := 33) (ci := 8) rfl rfl (by decide) zn_X8_rest_X8 (List.mem_of_getElem? (i := 3) rfl) rfl dX8_rest_30 ?_
          refine lv_icmp_ge (tgt := 54) hx hb dX8_rest_33 (by decide) (fun c19 => ?_) (fun c19 => ?_)
          · have hF := zs_t hF c19
            exact j54 Md x1 _ _ _ S (lv_sub hl [0, 1] rfl) hF
          · have hF := zs_f hF c19
            refine lv_aload_n hx hb dX8_rest_36 rfl (lv_at hl 0 rfl) ?_
            refine zs_get C hK S 0 26 (Cn := RX8) (T := TX8) (N := 33) (ci := 8) rfl rfl (by decide) zn_X8_rest_X8 (List.mem_of_getElem? (i := 4) rfl) rfl dX8_rest_37 ?_
            refine lv_iload_n hx hb dX8_rest_40 rfl (lv_at hl 2 rfl) ?_
            refine lv_aload_n hx hb dX8_rest_41 rfl (lv_at hl 0 rfl) ?_
            refine zs_get C hK S 0 25 (Cn := RX8) (T := TX8) (N := 33) (ci := 8) rfl rfl (by decide) zn_X8_rest_X8 (List.mem_of_getElem? (i := 5) rfl) rfl dX8_rest_42 ?_
            refine lv_iload_n hx hb dX8_rest_45 rfl (lv_at hl 2 rfl) ?_
            obtain ⟨h20, hF⟩ := zs_ckS hF
            refine zs_iald C hK S 12 rfl h20 dX8_rest_46 ?_
            obtain ⟨h21, hF⟩ := zs_ckS hF
            obtain ⟨Mdw22, e23⟩ : ∃ q : Ob, q = zs_up Md 13 (x2).toNatClampNeg (Md 12 (x2).toNatClampNeg) := ⟨_, rfl⟩
            have hF := zs_letS hF e23
            refine zs_iast C hK S 13 (ws' := wX8 G aMd Mdw22 mt) rfl h21 (by rw [e23]; rfl) dX8_rest_47 (fun H locs S => ?_)
            obtain ⟨z24, e25⟩ : ∃ q : Int32, q = x2 + (1 : Int32) := ⟨_, rfl⟩
            have hF := zs_letS hF e25
            refine lv_iinc (v := z24) (lv' := [(2, .int z24), (0, .ref (aMd 0)), (1, .int x1)]) hx hb dX8_rest_48 hl (k := 2) rfl (by rw [e25]; rfl) (by decide) rfl (fun ls hl => ?_)
            refine lv_goto (tgt := 28) hx hb dX8_rest_51 (by decide) ?_
            exact ih28 Mdw22 x1 z24 _ _ _ S (lv_sub hl [1, 2, 0] rfl) hF
      intro Md x1 H locs ls S hl hF
      rw [F_X8_rest_2_n] at hF
      unfold F_X8_rest_2_s at hF
      refine lv_iload_n hx hb dX8_rest_2 rfl (lv_at hl 1 rfl) ?_
      refine lv_sipush (v := (200 : Int32)) hx hb dX8_rest_3 (by decide) ?_
      refine lv_icmp_gt (tgt := 148) hx hb dX8_rest_6 (by decide) (fun c26 => ?_) (fun c26 => ?_)
      · have hF := zs_t hF c26
        refine lv_bipush (v := (-9 : Int32)) hx hb dX8_rest_148 (by decide) ?_
        obtain ⟨e27, e28⟩ := zs_s2 hF
        exact zs_iretE C S e27 (by rw [e28]) dX8_rest_150
      · have hF := zs_f hF c26
        refine lv_aload_n hx hb dX8_rest_9 rfl (lv_at hl 0 rfl) ?_
        obtain ⟨Mdw29, f30, hF⟩ := zs_bdS hF
        refine zs_callv (wr := ([] : va_W)) (ws' := wX8 G aMd Mdw29 mt) S hA [0, 1, 2, 3, 4, 5, 6, 7, 8, 9, 10, 11, 12, 13, 14, 15, 16, 17] [] [0, 1, 2, 3, 4, 5, 6, 7, 8, 9, 10, 11, 12, 13, 14, 15, 16, 17] (zs_runV C hK hA S [] [] [0, 1, 2, 3, 4, 5, 6, 7, 8, 9, 10, 11, 12, 13, 14, 15, 16, 17] 0 0 (c_X8_begins l G aMd Md mt H.size Mdw29 f30) gX8_rest_X8_begins rfl rfl rfl zd_X8_begins ⟨Nat.le_of_ble_eq_true rfl, Nat.le_of_ble_eq_true rfl⟩ rfl rfl rfl rfl rfl hl rfl (Nat.le_of_ble_eq_true rfl) dX8_rest_10 ⟨Nat.le_of_ble_eq_true rfl, Nat.le_of_ble_eq_true rfl⟩) rfl rfl rfl (by decide) rfl rfl (fun H locs S => ?_)
        refine lv_aload_n hx hb dX8_rest_13 rfl (lv_at hl 0 rfl) ?_
        refine lv_iload_n hx hb dX8_rest_14 rfl (lv_at hl 1 rfl) ?_
        refine lv_aload_n hx hb dX8_rest_15 rfl (lv_at hl 0 rfl) ?_
        refine zs_get C hK S 0 19 (Cn := RX8) (T := TX8) (N := 33) (ci := 8) rfl rfl (by decide) zn_X8_rest_X8 (List.mem_of_getElem? (i := 1) rfl) rfl dX8_rest_16 ?_
        refine lv_aload_n hx hb dX8_rest_19 rfl (lv_at hl 0 rfl) ?_
        refine zs_get C hK S 0 20 (Cn := RX8) (T := TX8) (N := 33) (ci := 8) rfl rfl (by decide) zn_X8_rest_X8 (List.mem_of_getElem? (i := 2) rfl) rfl dX8_rest_20 ?_
        obtain ⟨Mdw31, f32, hF⟩ := zs_bdS hF
        refine zs_callv (wr := ([] : va_W)) (ws' := wX8 G aMd Mdw31 mt) S hA [0, 1, 2, 3, 4, 5, 6, 7, 8, 9, 10, 11, 12, 13, 14, 15, 16, 17] [] [0, 1, 2, 3, 4, 5, 6, 7, 8, 9, 10, 11, 12, 13, 14, 15, 16, 17] (zs_runV C hK hA S [.int x1, .int (Mdw29 0 19), .int (Mdw29 0 20)] [] [0, 1, 2, 3, 4, 5, 6, 7, 8, 9, 10, 11, 12, 13, 14, 15, 16, 17] 0 3 (c_X8_passes l G aMd Mdw29 mt x1 ((Mdw29 0 19)) ((Mdw29 0 20)) H.size Mdw31 f32) gX8_rest_X8_passes rfl rfl rfl zd_X8_passes ⟨Nat.le_of_ble_eq_true rfl, Nat.le_of_ble_eq_true rfl⟩ rfl rfl rfl rfl rfl hl rfl (Nat.le_of_ble_eq_true rfl) dX8_rest_23 ⟨Nat.le_of_ble_eq_true rfl, Nat.le_of_ble_eq_true rfl⟩) rfl rfl rfl (by decide) rfl rfl (fun H locs S => ?_)
        refine lv_iconst (v := (0 : Int32)) hx hb dX8_rest_26 (by decide) ?_
        refine lv_istore_n (lv' := [(2, .int (0 : Int32)), (0, .ref (aMd 0)), (1, .int x1)]) hx hb dX8_rest_27 rfl hl (by decide) rfl (fun ls hl => ?_)
        exact j28 1000 Mdw31 x1 (0 : Int32) _ _ _ S (lv_sub hl [1, 2, 0] rfl) hF
  refine lv_iconst (v := (0 : Int32)) hx hb dX8_rest_0 (by decide) ?_
  refine lv_istore_n (lv' := [(1, .int (0 : Int32)), (0, .ref (aMd 0))]) hx hb dX8_rest_1 rfl hl (by decide) rfl (fun ls hl => ?_)
  exact j2 1000 Md (0 : Int32) _ _ _ S (lv_sub hl [1, 0] rfl) hF

abbrev RMX8_saw : Room := { frames := 2, cells := 0, slots := 0, locals := 46 }
theorem zn_X8_saw_X8 : ∀ w ∈ wsX80, w ∈ wsX8_saw := zs_inl wsX80 [16, 17, 18, 19, 20, 21, 22, 23, 24, 25, 26, 27, 28, 29, 30, 31, 32, 33, 34, 35, 36, 37, 38, 39, 40, 41, 42, 43, 44, 45, 46, 47, 48] (by decide +kernel)
set_option maxRecDepth 100000 in
set_option maxHeartbeats 4000000 in
theorem c_X8_saw (l : Launch) (G : GG) (aMd : Ad) (Md : Ob) (mt : Int64) (u1 : Int32) (u2 : Int32) (u3 : Int32) (sz : Nat) (rr : Int32) (Md_ : Ob) (hF : F_X8_saw Md u1 u2 u3 = some (rr, Md_)) : Met l yX8_saw wsX8_saw RMX8_saw (va_Pc [.ref (aMd 0), .int u1, .int u2, .int u3] (zs_pre G (wX8 G aMd Md mt) sz)) (zs_Qi G (wX8 G aMd Md_ mt) rr (va_A (wX8 G aMd Md mt) sz)) 0 0 (va_A (wX8 G aMd Md mt) sz) := by
  refine zs_met (cc := cX8_saw) (maxL := 4) (ret := (some .int)) (own := RX8) (Qc := zs_Qi G (wX8 G aMd Md_ mt) rr) (by decide) rfl rfl (Nat.le_of_ble_eq_true rfl) ?_
  intro p e s m args below meth c C A hK hA S _ _ ls hl
  have hl : lv_has ls 4 [(0, .ref (aMd 0)), (1, .int u1), (2, .int u2), (3, .int u3)] := hl
  have hx := C.1.1
  have hb := C.1.2.1
  unfold F_X8_saw at hF
  refine lv_iload_n hx hb dX8_saw_0 rfl (lv_at hl 1 rfl) ?_
  refine lv_i2l (v := ((u1).toInt64)) hx hb dX8_saw_1 rfl ?_
  refine lv_lconst (v := (0 : Int64)) hx hb dX8_saw_2 rfl ?_
  refine lv_ldc2 (v := (20 : Int64)) hx hb C.1.2.2.2.1 (C.1.2.2.2.2 (.constantLong RX8 203 (20 : Int64)) (List.mem_of_getElem? (i := 1) rfl)) dX8_saw_3 ?_
  obtain ⟨r1, f2, hF⟩ := zs_bdS hF
  refine zs_calliP S hA (zs_runS C hK hA S [.long ((u1).toInt64), .long (0 : Int64), .long (20 : Int64)] [] [] 3 (c_X8_in l G (((u1).toInt64)) ((0 : Int64)) ((20 : Int64)) s.heap.size r1 f2) gX8_saw_X8_in rfl rfl rfl zd_X8_in ⟨Nat.le_of_ble_eq_true rfl, Nat.le_of_ble_eq_true rfl⟩ rfl rfl rfl hl rfl (Nat.le_of_ble_eq_true rfl) dX8_saw_6 ⟨Nat.le_of_ble_eq_true rfl, Nat.le_of_ble_eq_true rfl⟩) (fun H locs S => ?_)
  refine lv_if_eq (tgt := 32) hx hb dX8_saw_9 (by decide) (fun c3 => ?_) (fun c3 => ?_)
  · have hF := zs_t hF c3
    refine lv_iconst (v := (-1 : Int32)) hx hb dX8_saw_32 (by decide) ?_
    obtain ⟨e4, e5⟩ := zs_s2 hF
    exact zs_iretE C S e4 (by rw [e5]) dX8_saw_33
  · have hF := zs_f hF c3
    refine lv_aload_n hx hb dX8_saw_12 rfl (lv_at hl 0 rfl) ?_
    refine lv_iload_n hx hb dX8_saw_13 rfl (lv_at hl 2 rfl) ?_
    obtain ⟨r6, f7, hF⟩ := zs_bdS hF
    refine zs_calli (wr := ([] : va_W)) (ws' := wX8 G aMd Md mt) S hA [0, 1, 2, 3, 4, 5, 6, 7, 8, 9, 10, 11, 12, 13, 14, 15, 16, 17] [] [0, 1, 2, 3, 4, 5, 6, 7, 8, 9, 10, 11, 12, 13, 14, 15, 16, 17] (zs_runV C hK hA S [.int u2] [] [0, 1, 2, 3, 4, 5, 6, 7, 8, 9, 10, 11, 12, 13, 14, 15, 16, 17] 0 1 (c_X8_isWall l G aMd Md mt u2 H.size r6 f7) gX8_saw_X8_isWall rfl rfl rfl zd_X8_isWall ⟨Nat.le_of_ble_eq_true rfl, Nat.le_of_ble_eq_true rfl⟩ rfl rfl rfl rfl rfl hl rfl (Nat.le_of_ble_eq_true rfl) dX8_saw_14 ⟨Nat.le_of_ble_eq_true rfl, Nat.le_of_ble_eq_true rfl⟩) rfl rfl rfl (by decide) rfl rfl (fun H locs S => ?_)
    refine lv_if_eq (tgt := 32) hx hb dX8_saw_17 (by decide) (fun c8 => ?_) (fun c8 => ?_)
    · have hF := zs_t hF c8
      refine lv_iconst (v := (-1 : Int32)) hx hb dX8_saw_32 (by decide) ?_
      obtain ⟨e9, e10⟩ := zs_s2 hF
      exact zs_iretE C S e9 (by rw [e10]) dX8_saw_33
    · have hF := zs_f hF c8
      refine lv_iload_n hx hb dX8_saw_20 rfl (lv_at hl 3 rfl) ?_
      refine lv_i2l (v := ((u3).toInt64)) hx hb dX8_saw_21 rfl ?_
      refine lv_lconst (v := (0 : Int64)) hx hb dX8_saw_22 rfl ?_
      refine lv_ldc2 (v := (9999 : Int64)) hx hb C.1.2.2.2.1 (C.1.2.2.2.2 (.constantLong RX8 211 (9999 : Int64)) (List.mem_of_getElem? (i := 2) rfl)) dX8_saw_23 ?_
      obtain ⟨r11, f12, hF⟩ := zs_bdS hF
      refine zs_calliP S hA (zs_runS C hK hA S [.long ((u3).toInt64), .long (0 : Int64), .long (9999 : Int64)] [] [] 3 (c_X8_in l G (((u3).toInt64)) ((0 : Int64)) ((9999 : Int64)) H.size r11 f12) gX8_saw_X8_in rfl rfl rfl zd_X8_in ⟨Nat.le_of_ble_eq_true rfl, Nat.le_of_ble_eq_true rfl⟩ rfl rfl rfl hl rfl (Nat.le_of_ble_eq_true rfl) dX8_saw_26 ⟨Nat.le_of_ble_eq_true rfl, Nat.le_of_ble_eq_true rfl⟩) (fun H locs S => ?_)
      refine lv_if_ne (tgt := 34) hx hb dX8_saw_29 (by decide) (fun c13 => ?_) (fun c13 => ?_)
      · have hF := zs_f hF c13
        refine lv_aload_n hx hb dX8_saw_34 rfl (lv_at hl 0 rfl) ?_
        refine zs_get C hK S 0 27 (Cn := RX8) (T := TX8) (N := 33) (ci := 8) rfl rfl (by decide) zn_X8_saw_X8 (List.mem_of_getElem? (i := 3) rfl) rfl dX8_saw_35 ?_
        refine lv_bipush (v := (8 : Int32)) hx hb dX8_saw_38 (by decide) ?_
        refine lv_icmp_ne (tgt := 46) hx hb dX8_saw_40 (by decide) (fun c14 => ?_) (fun c14 => ?_)
        · have hF := zs_f hF c14
          refine lv_aload_n hx hb dX8_saw_46 rfl (lv_at hl 0 rfl) ?_
          refine zs_get C hK S 0 28 (Cn := RX8) (T := TX8) (N := 33) (ci := 8) rfl rfl (by decide) zn_X8_saw_X8 (List.mem_of_getElem? (i := 4) rfl) rfl dX8_saw_47 ?_
          refine lv_aload_n hx hb dX8_saw_50 rfl (lv_at hl 0 rfl) ?_
          refine zs_get C hK S 0 27 (Cn := RX8) (T := TX8) (N := 33) (ci := 8) rfl rfl (by decide) zn_X8_saw_X8 (List.mem_of_getElem? (i := 3) rfl) rfl dX8_saw_51 ?_
          refine lv_iload_n hx hb dX8_saw_54 rfl (lv_at hl 1 rfl) ?_
          obtain ⟨h15, hF⟩ := zs_ckS hF
          obtain ⟨Mdw16, e17⟩ : ∃ q : Ob, q = zs_up Md 14 ((Md 0 27)).toNatClampNeg u1 := ⟨_, rfl⟩
          have hF := zs_letS hF e17
          refine zs_iast C hK S 14 (ws' := wX8 G aMd Mdw16 mt) rfl h15 (by rw [e17]; rfl) dX8_saw_55 (fun H locs S => ?_)
          refine lv_aload_n hx hb dX8_saw_56 rfl (lv_at hl 0 rfl) ?_
          refine zs_get C hK S 0 29 (Cn := RX8) (T := TX8) (N := 33) (ci := 8) rfl rfl (by decide) zn_X8_saw_X8 (List.mem_of_getElem? (i := 5) rfl) rfl dX8_saw_57 ?_
          refine lv_aload_n hx hb dX8_saw_60 rfl (lv_at hl 0 rfl) ?_
          refine zs_get C hK S 0 27 (Cn := RX8) (T := TX8) (N := 33) (ci := 8) rfl rfl (by decide) zn_X8_saw_X8 (List.mem_of_getElem? (i := 3) rfl) rfl dX8_saw_61 ?_
          refine lv_iload_n hx hb dX8_saw_64 rfl (lv_at hl 2 rfl) ?_
          obtain ⟨h18, hF⟩ := zs_ckS hF
          obtain ⟨Mdw19, e20⟩ : ∃ q : Ob, q = zs_up Mdw16 15 ((Mdw16 0 27)).toNatClampNeg u2 := ⟨_, rfl⟩
          have hF := zs_letS hF e20
          refine zs_iast C hK S 15 (ws' := wX8 G aMd Mdw19 mt) rfl h18 (by rw [e20]; rfl) dX8_saw_65 (fun H locs S => ?_)
          refine lv_aload_n hx hb dX8_saw_66 rfl (lv_at hl 0 rfl) ?_
          refine zs_get C hK S 0 30 (Cn := RX8) (T := TX8) (N := 33) (ci := 8) rfl rfl (by decide) zn_X8_saw_X8 (List.mem_of_getElem? (i := 6) rfl) rfl dX8_saw_67 ?_
          refine lv_aload_n hx hb dX8_saw_70 rfl (lv_at hl 0 rfl) ?_
          refine zs_get C hK S 0 27 (Cn := RX8) (T := TX8) (N := 33) (ci := 8) rfl rfl (by decide) zn_X8_saw_X8 (List.mem_of_getElem? (i := 3) rfl) rfl dX8_saw_71 ?_
          refine lv_iload_n hx hb dX8_saw_74 rfl (lv_at hl 3 rfl) ?_
          obtain ⟨h21, hF⟩ := zs_ckS hF
          obtain ⟨Mdw22, e23⟩ : ∃ q : Ob, q = zs_up Mdw19 16 ((Mdw19 0 27)).toNatClampNeg u3 := ⟨_, rfl⟩
          have hF := zs_letS hF e23
          refine zs_iast C hK S 16 (ws' := wX8 G aMd Mdw22 mt) rfl h21 (by rw [e23]; rfl) dX8_saw_75 (fun H locs S => ?_)
          refine lv_aload_n hx hb dX8_saw_76 rfl (lv_at hl 0 rfl) ?_
          refine lv_dup hx hb dX8_saw_77 rfl ?_
          refine zs_get C hK S 0 27 (Cn := RX8) (T := TX8) (N := 33) (ci := 8) rfl rfl (by decide) zn_X8_saw_X8 (List.mem_of_getElem? (i := 3) rfl) rfl dX8_saw_78 ?_
          refine lv_iconst (v := (1 : Int32)) hx hb dX8_saw_81 (by decide) ?_
          refine lv_iadd hx hb dX8_saw_82 ?_
          obtain ⟨Mdw24, e25⟩ : ∃ q : Ob, q = zs_up Mdw22 0 27 ((Mdw22 0 27) + (1 : Int32)) := ⟨_, rfl⟩
          have hF := zs_letS hF e25
          refine zs_put C hK S 0 27 (ws' := wX8 G aMd Mdw24 mt) (Cn := RX8) (T := TX8) (N := 33) (ci := 8) rfl rfl (by decide) zn_X8_saw_X8 tyX8_ok nmX8 (List.mem_of_getElem? (i := 3) rfl) rfl rfl rfl (Nat.le_of_ble_eq_true rfl) (by rw [e25]; rfl) dX8_saw_83 (fun H locs S => ?_)
          refine lv_aload_n hx hb dX8_saw_86 rfl (lv_at hl 0 rfl) ?_
          refine zs_get C hK S 0 27 (Cn := RX8) (T := TX8) (N := 33) (ci := 8) rfl rfl (by decide) zn_X8_saw_X8 (List.mem_of_getElem? (i := 3) rfl) rfl dX8_saw_87 ?_
          obtain ⟨e26, e27⟩ := zs_s2 hF
          exact zs_iretE C S e26 (by rw [e27]) dX8_saw_90
        · have hF := zs_t hF c14
          refine lv_bipush (v := (-3 : Int32)) hx hb dX8_saw_43 (by decide) ?_
          obtain ⟨e28, e29⟩ := zs_s2 hF
          exact zs_iretE C S e28 (by rw [e29]) dX8_saw_45
      · have hF := zs_t hF c13
        refine lv_iconst (v := (-1 : Int32)) hx hb dX8_saw_32 (by decide) ?_
        obtain ⟨e30, e31⟩ := zs_s2 hF
        exact zs_iretE C S e30 (by rw [e31]) dX8_saw_33

abbrev RMX8_forget : Room := { frames := 0, cells := 0, slots := 0, locals := 0 }
theorem zn_X8_forget_X8 : ∀ w ∈ wsX80, w ∈ wsX8_forget := zs_inl wsX80 [2, 3, 4, 5, 6, 7, 8, 9, 10, 11, 12, 13, 14, 15, 16, 17, 18, 19, 20, 21, 22, 23, 24, 25, 26, 27, 28, 29, 30, 31, 32, 33, 34] (by decide +kernel)
set_option maxRecDepth 100000 in
set_option maxHeartbeats 4000000 in
theorem c_X8_forget (l : Launch) (G : GG) (aMd : Ad) (Md : Ob) (mt : Int64) (sz : Nat) (rr : Int32) (Md_ : Ob) (hF : F_X8_forget Md = some (rr, Md_)) : Met l yX8_forget wsX8_forget RMX8_forget (va_Pc [.ref (aMd 0)] (zs_pre G (wX8 G aMd Md mt) sz)) (zs_Qi G (wX8 G aMd Md_ mt) rr (va_A (wX8 G aMd Md mt) sz)) 0 0 (va_A (wX8 G aMd Md mt) sz) := by
  refine zs_met (cc := cX8_forget) (maxL := 2) (ret := (some .int)) (own := RX8) (Qc := zs_Qi G (wX8 G aMd Md_ mt) rr) (by decide) rfl rfl (Nat.le_of_ble_eq_true rfl) ?_
  intro p e s m args below meth c C A hK hA S _ _ ls hl
  have hl : lv_has ls 2 [(0, .ref (aMd 0))] := hl
  have hx := C.1.1
  have hb := C.1.2.1
  unfold F_X8_forget at hF
  refine lv_aload_n hx hb dX8_forget_0 rfl (lv_at hl 0 rfl) ?_
  refine zs_get C hK S 0 27 (Cn := RX8) (T := TX8) (N := 33) (ci := 8) rfl rfl (by decide) zn_X8_forget_X8 (List.mem_of_getElem? (i := 1) rfl) rfl dX8_forget_1 ?_
  refine lv_topi (fun z1 e2 => ?_)
  have hF := zs_letS hF e2
  refine lv_istore_n (lv' := [(1, .int z1), (0, .ref (aMd 0))]) hx hb dX8_forget_4 rfl hl (by decide) rfl (fun ls hl => ?_)
  refine lv_aload_n hx hb dX8_forget_5 rfl (lv_at hl 1 rfl) ?_
  refine lv_iconst (v := (0 : Int32)) hx hb dX8_forget_6 (by decide) ?_
  obtain ⟨Mdw3, e4⟩ : ∃ q : Ob, q = zs_up Md 0 27 (0 : Int32) := ⟨_, rfl⟩
  have hF := zs_letS hF e4
  refine zs_put C hK S 0 27 (ws' := wX8 G aMd Mdw3 mt) (Cn := RX8) (T := TX8) (N := 33) (ci := 8) rfl rfl (by decide) zn_X8_forget_X8 tyX8_ok nmX8 (List.mem_of_getElem? (i := 1) rfl) rfl rfl rfl (Nat.le_of_ble_eq_true rfl) (by rw [e4]; rfl) dX8_forget_7 (fun H locs S => ?_)
  refine lv_iload_n hx hb dX8_forget_10 rfl (lv_at hl 0 rfl) ?_
  obtain ⟨e5, e6⟩ := zs_s2 hF
  exact zs_iretE C S e5 (by rw [e6]) dX8_forget_11

abbrev RMX8_mark : Room := { frames := 2, cells := 0, slots := 0, locals := 46 }
theorem zn_X8_mark_X8 : ∀ w ∈ wsX80, w ∈ wsX8_mark := zs_inl wsX80 [26, 27, 28, 29, 30, 31, 32, 33, 34, 35, 36, 37, 38, 39, 40, 41, 42, 43, 44, 45, 46, 47, 48, 49, 50, 51, 52, 53, 54, 55, 56, 57, 58] (by decide +kernel)
set_option maxRecDepth 100000 in
set_option maxHeartbeats 4000000 in
theorem c_X8_mark (l : Launch) (G : GG) (aMd : Ad) (Md : Ob) (mt : Int64) (u1 : Int32) (u2 : Int32) (sz : Nat) (rr : Int32) (mt_ : Int64) (hF : F_X8_mark Md mt u1 u2 = some (rr, mt_)) : Met l yX8_mark wsX8_mark RMX8_mark (va_Pc [.ref (aMd 0), .int u1, .int u2] (zs_pre G (wX8 G aMd Md mt) sz)) (zs_Qi G (wX8 G aMd Md mt_) rr (va_A (wX8 G aMd Md mt) sz)) 0 0 (va_A (wX8 G aMd Md mt) sz) := by
  refine zs_met (cc := cX8_mark) (maxL := 4) (ret := (some .int)) (own := RX8) (Qc := zs_Qi G (wX8 G aMd Md mt_) rr) (by decide) rfl rfl (Nat.le_of_ble_eq_true rfl) ?_
  intro p e s m args below meth c C A hK hA S _ _ ls hl
  have hl : lv_has ls 4 [(0, .ref (aMd 0)), (1, .int u1), (2, .int u2)] := hl
  have hx := C.1.1
  have hb := C.1.2.1
  unfold F_X8_mark at hF
  have j83 : ∀ (mt : Int64) (x1 : Int32) (x2 : Int32) (y0 : Int64) (y1 : Int64) (H : Heap) (locs : List Loc) (ls : Array Slot), zs_S G A s.heap H locs (wX8 G aMd Md mt) → lv_has ls 4 [(0, .ref (aMd 0)), (1, .int x1), (2, .int x2)] → F_X8_mark_83 Md mt x1 x2 y0 y1 = some (rr, mt_) → W p l e RMX8_mark s m args below meth c H locs 0 0 (MQ below (zs_Qi G (wX8 G aMd Md mt_) rr A) args s 0 0 A) (F0 m 83 ls [.long y0, .long y1, .ref (aMd 0)]) := by
    intro mt x1 x2 y0 y1 H locs ls S hl hF
    unfold F_X8_mark_83 at hF
    refine lv_ladd hx hb dX8_mark_83 ?_
    obtain ⟨mtw1, e2⟩ : ∃ q : Int64, q = (y1 + y0) := ⟨_, rfl⟩
    have hF := zs_letS hF e2
    refine zs_put C hK S 0 31 (ws' := wX8 G aMd Md mtw1) (Cn := RX8) (T := TX8) (N := 33) (ci := 8) rfl rfl (by decide) zn_X8_mark_X8 tyX8_ok nmX8 (List.mem_of_getElem? (i := 3) rfl) rfl rfl rfl (Nat.le_of_ble_eq_true rfl) (by rw [e2]; rfl) dX8_mark_84 (fun H locs S => ?_)
    refine lv_bipush (v := (10 : Int32)) hx hb dX8_mark_87 (by decide) ?_
    refine lv_aload_n hx hb dX8_mark_89 rfl (lv_at hl 0 rfl) ?_
    refine lv_aload_n hx hb dX8_mark_90 rfl (lv_at hl 0 rfl) ?_
    refine zs_get C hK S 0 16 (Cn := RX8) (T := TX8) (N := 33) (ci := 8) rfl rfl (by decide) zn_X8_mark_X8 (List.mem_of_getElem? (i := 9) rfl) rfl dX8_mark_91 ?_
    refine lv_iload_n hx hb dX8_mark_94 rfl (lv_at hl 2 rfl) ?_
    obtain ⟨r3, f4, hF⟩ := zs_bdS hF
    refine zs_calli (wr := ([] : va_W)) (ws' := wX8 G aMd Md mtw1) S hA [0, 1, 2, 3, 4, 5, 6, 7, 8, 9, 10, 11, 12, 13, 14, 15, 16, 17] [] [0, 1, 2, 3, 4, 5, 6, 7, 8, 9, 10, 11, 12, 13, 14, 15, 16, 17] (zs_runV C hK hA S [.ref (aMd 8), .int x2] [.int (10 : Int32)] [0, 1, 2, 3, 4, 5, 6, 7, 8, 9, 10, 11, 12, 13, 14, 15, 16, 17] 0 2 (c_X8_seen_parts l G aMd Md mtw1 x2 H.size r3 f4) gX8_mark_X8_seen rfl rfl rfl zd_X8_seen ⟨Nat.le_of_ble_eq_true rfl, Nat.le_of_ble_eq_true rfl⟩ rfl rfl rfl rfl rfl hl rfl (Nat.le_of_ble_eq_true rfl) dX8_mark_95 ⟨Nat.le_of_ble_eq_true rfl, Nat.le_of_ble_eq_true rfl⟩) rfl rfl rfl (by decide) rfl rfl (fun H locs S => ?_)
    refine lv_isub hx hb dX8_mark_98 ?_
    refine lv_topi (fun z5 e6 => ?_)
    have hF := zs_letS hF e6
    refine lv_istore_n (lv' := [(3, .int z5), (0, .ref (aMd 0)), (1, .int x1), (2, .int x2)]) hx hb dX8_mark_99 rfl hl (by decide) rfl (fun ls hl => ?_)
    refine lv_iload_n hx hb dX8_mark_100 rfl (lv_at hl 2 rfl) ?_
    by_cases c7 : x1 = (0 : Int32)
    · have hF := zs_t hF c7
      refine lv_tableIn (off := 35) (tgt := 136) hx hb dX8_mark_101 (by rw [c7]; decide) (by rw [c7]; decide) (by rw [c7]; rfl) (by decide) ?_
      refine lv_aload_n hx hb dX8_mark_136 rfl (lv_at hl 1 rfl) ?_
      refine zs_get C hK S 0 17 (Cn := RX8) (T := TX8) (N := 33) (ci := 8) rfl rfl (by decide) zn_X8_mark_X8 (List.mem_of_getElem? (i := 10) rfl) rfl dX8_mark_137 ?_
      refine lv_iload_n hx hb dX8_mark_140 rfl (lv_at hl 3 rfl) ?_
      obtain ⟨h8, hF⟩ := zs_ckS hF
      refine zs_iald C hK S 9 rfl h8 dX8_mark_141 ?_
      obtain ⟨e9, e10⟩ := zs_s2 hF
      exact zs_iretE C S e9 (by rw [e10]) dX8_mark_142
    · have hF := zs_f hF c7
      by_cases c11 : x1 = (1 : Int32)
      · have hF := zs_t hF c11
        refine lv_tableIn (off := 42) (tgt := 143) hx hb dX8_mark_101 (by rw [c11]; decide) (by rw [c11]; decide) (by rw [c11]; rfl) (by decide) ?_
        refine lv_aload_n hx hb dX8_mark_143 rfl (lv_at hl 1 rfl) ?_
        refine zs_get C hK S 0 17 (Cn := RX8) (T := TX8) (N := 33) (ci := 8) rfl rfl (by decide) zn_X8_mark_X8 (List.mem_of_getElem? (i := 10) rfl) rfl dX8_mark_144 ?_
        refine lv_iload_n hx hb dX8_mark_147 rfl (lv_at hl 3 rfl) ?_
        obtain ⟨h12, hF⟩ := zs_ckS hF
        refine zs_iald C hK S 9 rfl h12 dX8_mark_148 ?_
        refine lv_aload_n hx hb dX8_mark_149 rfl (lv_at hl 1 rfl) ?_
        refine zs_get C hK S 0 13 (Cn := RX8) (T := TX8) (N := 33) (ci := 8) rfl rfl (by decide) zn_X8_mark_X8 (List.mem_of_getElem? (i := 11) rfl) rfl dX8_mark_150 ?_
        refine lv_iload_n hx hb dX8_mark_153 rfl (lv_at hl 3 rfl) ?_
        obtain ⟨h13, hF⟩ := zs_ckS hF
        refine zs_iald C hK S 5 rfl h13 dX8_mark_154 ?_
        refine lv_iadd hx hb dX8_mark_155 ?_
        obtain ⟨e14, e15⟩ := zs_s2 hF
        exact zs_iretE C S e14 (by rw [e15]) dX8_mark_156
      · have hF := zs_f hF c11
        by_cases c16 : x1 = (2 : Int32)
        · have hF := zs_t hF c16
          refine lv_tableIn (off := 56) (tgt := 157) hx hb dX8_mark_101 (by rw [c16]; decide) (by rw [c16]; decide) (by rw [c16]; rfl) (by decide) ?_
          refine lv_aload_n hx hb dX8_mark_157 rfl (lv_at hl 1 rfl) ?_
          refine zs_get C hK S 0 17 (Cn := RX8) (T := TX8) (N := 33) (ci := 8) rfl rfl (by decide) zn_X8_mark_X8 (List.mem_of_getElem? (i := 10) rfl) rfl dX8_mark_158 ?_
          refine lv_iload_n hx hb dX8_mark_161 rfl (lv_at hl 3 rfl) ?_
          obtain ⟨h17, hF⟩ := zs_ckS hF
          refine zs_iald C hK S 9 rfl h17 dX8_mark_162 ?_
          refine lv_iload_n hx hb dX8_mark_163 rfl (lv_at hl 0 rfl) ?_
          refine lv_isub hx hb dX8_mark_164 ?_
          obtain ⟨e18, e19⟩ := zs_s2 hF
          exact zs_iretE C S e18 (by rw [e19]) dX8_mark_165
        · have hF := zs_f hF c16
          by_cases c20 : x1 = (3 : Int32)
          · have hF := zs_t hF c20
            refine lv_tableIn (off := 65) (tgt := 166) hx hb dX8_mark_101 (by rw [c20]; decide) (by rw [c20]; decide) (by rw [c20]; rfl) (by decide) ?_
            refine lv_iconst (v := (2 : Int32)) hx hb dX8_mark_166 (by decide) ?_
            refine lv_aload_n hx hb dX8_mark_167 rfl (lv_at hl 1 rfl) ?_
            refine zs_get C hK S 0 17 (Cn := RX8) (T := TX8) (N := 33) (ci := 8) rfl rfl (by decide) zn_X8_mark_X8 (List.mem_of_getElem? (i := 10) rfl) rfl dX8_mark_168 ?_
            refine lv_iload_n hx hb dX8_mark_171 rfl (lv_at hl 3 rfl) ?_
            obtain ⟨h21, hF⟩ := zs_ckS hF
            refine zs_iald C hK S 9 rfl h21 dX8_mark_172 ?_
            refine lv_aload_n hx hb dX8_mark_173 rfl (lv_at hl 1 rfl) ?_
            refine zs_get C hK S 0 13 (Cn := RX8) (T := TX8) (N := 33) (ci := 8) rfl rfl (by decide) zn_X8_mark_X8 (List.mem_of_getElem? (i := 11) rfl) rfl dX8_mark_174 ?_
            refine lv_iload_n hx hb dX8_mark_177 rfl (lv_at hl 3 rfl) ?_
            obtain ⟨h22, hF⟩ := zs_ckS hF
            refine zs_iald C hK S 5 rfl h22 dX8_mark_178 ?_
            refine lv_iadd hx hb dX8_mark_179 ?_
            refine lv_imul hx hb dX8_mark_180 ?_
            obtain ⟨e23, e24⟩ := zs_s2 hF
            exact zs_iretE C S e23 (by rw [e24]) dX8_mark_181
          · have hF := zs_f hF c20
            by_cases c25 : x1 = (4 : Int32)
            · have hF := zs_t hF c25
              refine lv_tableIn (off := 81) (tgt := 182) hx hb dX8_mark_101 (by rw [c25]; decide) (by rw [c25]; decide) (by rw [c25]; rfl) (by decide) ?_
              refine lv_aload_n hx hb dX8_mark_182 rfl (lv_at hl 1 rfl) ?_
              refine zs_get C hK S 0 17 (Cn := RX8) (T := TX8) (N := 33) (ci := 8) rfl rfl (by decide) zn_X8_mark_X8 (List.mem_of_getElem? (i := 10) rfl) rfl dX8_mark_183 ?_
              refine lv_iload_n hx hb dX8_mark_186 rfl (lv_at hl 3 rfl) ?_
              obtain ⟨h26, hF⟩ := zs_ckS hF
              refine zs_iald C hK S 9 rfl h26 dX8_mark_187 ?_
              refine lv_iload_n hx hb dX8_mark_188 rfl (lv_at hl 0 rfl) ?_
              refine lv_isub hx hb dX8_mark_189 ?_
              refine lv_iload_n hx hb dX8_mark_190 rfl (lv_at hl 3 rfl) ?_
              refine lv_iadd hx hb dX8_mark_191 ?_
              obtain ⟨e27, e28⟩ := zs_s2 hF
              exact zs_iretE C S e27 (by rw [e28]) dX8_mark_192
            · have hF := zs_f hF c25
              refine lv_tableOut (tgt := 193) hx hb dX8_mark_101 (zs_sw5 c7 c11 c16 c20 c25) (by decide) ?_
              refine lv_aload_n hx hb dX8_mark_193 rfl (lv_at hl 1 rfl) ?_
              refine zs_get C hK S 0 17 (Cn := RX8) (T := TX8) (N := 33) (ci := 8) rfl rfl (by decide) zn_X8_mark_X8 (List.mem_of_getElem? (i := 10) rfl) rfl dX8_mark_194 ?_
              refine lv_iload_n hx hb dX8_mark_197 rfl (lv_at hl 3 rfl) ?_
              obtain ⟨h29, hF⟩ := zs_ckS hF
              refine zs_iald C hK S 9 rfl h29 dX8_mark_198 ?_
              refine lv_aload_n hx hb dX8_mark_199 rfl (lv_at hl 1 rfl) ?_
              refine zs_get C hK S 0 18 (Cn := RX8) (T := TX8) (N := 33) (ci := 8) rfl rfl (by decide) zn_X8_mark_X8 (List.mem_of_getElem? (i := 12) rfl) rfl dX8_mark_200 ?_
              refine lv_iadd hx hb dX8_mark_203 ?_
              obtain ⟨e30, e31⟩ := zs_s2 hF
              exact zs_iretE C S e30 (by rw [e31]) dX8_mark_204
  have j20 : ∀ (mt : Int64) (H : Heap) (locs : List Loc) (ls : Array Slot), zs_S G A s.heap H locs (wX8 G aMd Md mt) → lv_has ls 4 [] → F_X8_mark_20 Md mt = some (rr, mt_) → W p l e RMX8_mark s m args below meth c H locs 0 0 (MQ below (zs_Qi G (wX8 G aMd Md mt_) rr A) args s 0 0 A) (F0 m 20 ls []) := by
    intro mt H locs ls S hl hF
    unfold F_X8_mark_20 at hF
    refine lv_ldc (v := (-1000000 : Int32)) hx hb C.1.2.2.2.1 (C.1.2.2.2.2 (.constant RX8 207 (-1000000 : Int32)) (List.mem_of_getElem? (i := 2) rfl)) dX8_mark_20 ?_
    obtain ⟨e32, e33⟩ := zs_s2 hF
    exact zs_iretE C S e32 (by rw [e33]) dX8_mark_22
  refine lv_iload_n hx hb dX8_mark_0 rfl (lv_at hl 1 rfl) ?_
  refine lv_i2l (v := ((u1).toInt64)) hx hb dX8_mark_1 rfl ?_
  refine lv_lconst (v := (0 : Int64)) hx hb dX8_mark_2 rfl ?_
  refine lv_ldc2 (v := (5 : Int64)) hx hb C.1.2.2.2.1 (C.1.2.2.2.2 (.constantLong RX8 219 (5 : Int64)) (List.mem_of_getElem? (i := 1) rfl)) dX8_mark_3 ?_
  obtain ⟨r34, f35, hF⟩ := zs_bdS hF
  refine zs_calliP S hA (zs_runS C hK hA S [.long ((u1).toInt64), .long (0 : Int64), .long (5 : Int64)] [] [] 3 (c_X8_in l G (((u1).toInt64)) ((0 : Int64)) ((5 : Int64)) s.heap.size r34 f35) gX8_mark_X8_in rfl rfl rfl zd_X8_in ⟨Nat.le_of_ble_eq_true rfl, Nat.le_of_ble_eq_true rfl⟩ rfl rfl rfl hl rfl (Nat.le_of_ble_eq_true rfl) dX8_mark_6 ⟨Nat.le_of_ble_eq_true rfl, Nat.le_of_ble_eq_true rfl⟩) (fun H locs S => ?_)
  refine lv_if_eq (tgt := 20) hx hb dX8_mark_9 (by decide) (fun c36 => ?_) (fun c36 => ?_)
  · have hF := zs_t hF c36
    exact j20 mt _ _ _ S (lv_sub hl [] rfl) hF
  · have hF := zs_f hF c36
    refine lv_aload_n hx hb dX8_mark_12 rfl (lv_at hl 0 rfl) ?_
    refine lv_iload_n hx hb dX8_mark_13 rfl (lv_at hl 2 rfl) ?_
    obtain ⟨r37, f38, hF⟩ := zs_bdS hF
    refine zs_calli (wr := ([] : va_W)) (ws' := wX8 G aMd Md mt) S hA [0, 1, 2, 3, 4, 5, 6, 7, 8, 9, 10, 11, 12, 13, 14, 15, 16, 17] [] [0, 1, 2, 3, 4, 5, 6, 7, 8, 9, 10, 11, 12, 13, 14, 15, 16, 17] (zs_runV C hK hA S [.int u2] [] [0, 1, 2, 3, 4, 5, 6, 7, 8, 9, 10, 11, 12, 13, 14, 15, 16, 17] 0 1 (c_X8_isWall l G aMd Md mt u2 H.size r37 f38) gX8_mark_X8_isWall rfl rfl rfl zd_X8_isWall ⟨Nat.le_of_ble_eq_true rfl, Nat.le_of_ble_eq_true rfl⟩ rfl rfl rfl rfl rfl hl rfl (Nat.le_of_ble_eq_true rfl) dX8_mark_14 ⟨Nat.le_of_ble_eq_true rfl, Nat.le_of_ble_eq_true rfl⟩) rfl rfl rfl (by decide) rfl rfl (fun H locs S => ?_)
    refine lv_if_ne (tgt := 23) hx hb dX8_mark_17 (by decide) (fun c39 => ?_) (fun c39 => ?_)
    · have hF := zs_f hF c39
      refine lv_aload_n hx hb dX8_mark_23 rfl (lv_at hl 0 rfl) ?_
      refine lv_dup hx hb dX8_mark_24 rfl ?_
      refine zs_get C hK S 0 31 (Cn := RX8) (T := TX8) (N := 33) (ci := 8) rfl rfl (by decide) zn_X8_mark_X8 (List.mem_of_getElem? (i := 3) rfl) rfl dX8_mark_25 ?_
      refine lv_iload_n hx hb dX8_mark_28 rfl (lv_at hl 1 rfl) ?_
      refine lv_if_ne (tgt := 36) hx hb dX8_mark_29 (by decide) (fun c40 => ?_) (fun c40 => ?_)
      · have hF := zs_f hF c40
        refine lv_iload_n hx hb dX8_mark_36 rfl (lv_at hl 1 rfl) ?_
        refine lv_iconst (v := (1 : Int32)) hx hb dX8_mark_37 (by decide) ?_
        refine lv_icmp_ne (tgt := 47) hx hb dX8_mark_38 (by decide) (fun c41 => ?_) (fun c41 => ?_)
        · have hF := zs_f hF c41
          refine lv_iload_n hx hb dX8_mark_47 rfl (lv_at hl 1 rfl) ?_
          refine lv_iconst (v := (2 : Int32)) hx hb dX8_mark_48 (by decide) ?_
          refine lv_icmp_ne (tgt := 58) hx hb dX8_mark_49 (by decide) (fun c42 => ?_) (fun c42 => ?_)
          · have hF := zs_f hF c42
            refine lv_iload_n hx hb dX8_mark_58 rfl (lv_at hl 1 rfl) ?_
            refine lv_iconst (v := (3 : Int32)) hx hb dX8_mark_59 (by decide) ?_
            refine lv_icmp_ne (tgt := 69) hx hb dX8_mark_60 (by decide) (fun c43 => ?_) (fun c43 => ?_)
            · have hF := zs_f hF c43
              refine lv_iload_n hx hb dX8_mark_69 rfl (lv_at hl 1 rfl) ?_
              refine lv_iconst (v := (4 : Int32)) hx hb dX8_mark_70 (by decide) ?_
              refine lv_icmp_ne (tgt := 80) hx hb dX8_mark_71 (by decide) (fun c44 => ?_) (fun c44 => ?_)
              · have hF := zs_f hF c44
                refine lv_ldc2 (v := (100001 : Int64)) hx hb C.1.2.2.2.1 (C.1.2.2.2.2 (.constantLong RX8 233 (100001 : Int64)) (List.mem_of_getElem? (i := 8) rfl)) dX8_mark_80 ?_
                exact j83 mt u1 u2 (100001 : Int64) mt _ _ _ S (lv_sub hl [0, 1, 2] rfl) hF
              · have hF := zs_t hF c44
                refine lv_ldc2 (v := (10101 : Int64)) hx hb C.1.2.2.2.1 (C.1.2.2.2.2 (.constantLong RX8 231 (10101 : Int64)) (List.mem_of_getElem? (i := 7) rfl)) dX8_mark_74 ?_
                refine lv_goto (tgt := 83) hx hb dX8_mark_77 (by decide) ?_
                exact j83 mt u1 u2 (10101 : Int64) mt _ _ _ S (lv_sub hl [0, 1, 2] rfl) hF
            · have hF := zs_t hF c43
              refine lv_ldc2 (v := (1011 : Int64)) hx hb C.1.2.2.2.1 (C.1.2.2.2.2 (.constantLong RX8 229 (1011 : Int64)) (List.mem_of_getElem? (i := 6) rfl)) dX8_mark_63 ?_
              refine lv_goto (tgt := 83) hx hb dX8_mark_66 (by decide) ?_
              exact j83 mt u1 u2 (1011 : Int64) mt _ _ _ S (lv_sub hl [0, 1, 2] rfl) hF
          · have hF := zs_t hF c42
            refine lv_ldc2 (v := (101 : Int64)) hx hb C.1.2.2.2.1 (C.1.2.2.2.2 (.constantLong RX8 227 (101 : Int64)) (List.mem_of_getElem? (i := 5) rfl)) dX8_mark_52 ?_
            refine lv_goto (tgt := 83) hx hb dX8_mark_55 (by decide) ?_
            exact j83 mt u1 u2 (101 : Int64) mt _ _ _ S (lv_sub hl [0, 1, 2] rfl) hF
        · have hF := zs_t hF c41
          refine lv_ldc2 (v := (11 : Int64)) hx hb C.1.2.2.2.1 (C.1.2.2.2.2 (.constantLong RX8 225 (11 : Int64)) (List.mem_of_getElem? (i := 4) rfl)) dX8_mark_41 ?_
          refine lv_goto (tgt := 83) hx hb dX8_mark_44 (by decide) ?_
          exact j83 mt u1 u2 (11 : Int64) mt _ _ _ S (lv_sub hl [0, 1, 2] rfl) hF
      · have hF := zs_t hF c40
        refine lv_lconst (v := (1 : Int64)) hx hb dX8_mark_32 rfl ?_
        refine lv_goto (tgt := 83) hx hb dX8_mark_33 (by decide) ?_
        exact j83 mt u1 u2 (1 : Int64) mt _ _ _ S (lv_sub hl [0, 1, 2] rfl) hF
    · have hF := zs_t hF c39
      exact j20 mt _ _ _ S (lv_sub hl [] rfl) hF

abbrev RMX8_trace : Room := { frames := 0, cells := 0, slots := 0, locals := 0 }
theorem zn_X8_trace_X8 : ∀ w ∈ wsX80, w ∈ wsX8_trace := zs_inl wsX80 [2, 3, 4, 5, 6, 7, 8, 9, 10, 11, 12, 13, 14, 15, 16, 17, 18, 19, 20, 21, 22, 23, 24, 25, 26, 27, 28, 29, 30, 31, 32, 33, 34] (by decide +kernel)
set_option maxRecDepth 100000 in
set_option maxHeartbeats 4000000 in
theorem c_X8_trace (l : Launch) (G : GG) (aMd : Ad) (Md : Ob) (mt : Int64) (sz : Nat) (rr : Int64) (hF : F_X8_trace Md mt = some rr) : Met l yX8_trace wsX8_trace RMX8_trace (va_Pc [.ref (aMd 0)] (zs_pre G (wX8 G aMd Md mt) sz)) (zs_Ql G (wX8 G aMd Md mt) rr (va_A (wX8 G aMd Md mt) sz)) 0 0 (va_A (wX8 G aMd Md mt) sz) := by
  refine zs_met (cc := cX8_trace) (maxL := 1) (ret := (some .long)) (own := RX8) (Qc := zs_Ql G (wX8 G aMd Md mt) rr) (by decide) rfl rfl (Nat.le_of_ble_eq_true rfl) ?_
  intro p e s m args below meth c C A hK hA S _ _ ls hl
  have hl : lv_has ls 1 [(0, .ref (aMd 0))] := hl
  have hx := C.1.1
  have hb := C.1.2.1
  unfold F_X8_trace at hF
  refine lv_aload_n hx hb dX8_trace_0 rfl (lv_at hl 0 rfl) ?_
  refine zs_get C hK S 0 31 (Cn := RX8) (T := TX8) (N := 33) (ci := 8) rfl rfl (by decide) zn_X8_trace_X8 (List.mem_of_getElem? (i := 1) rfl) rfl dX8_trace_1 ?_
  have e1 := zs_s1 hF
  exact zs_lretE C S e1 rfl dX8_trace_4

abbrev RMX8_keep : Room := { frames := 1, cells := 0, slots := 0, locals := 25 }
theorem zn_X8_keep_X8 : ∀ w ∈ wsX80, w ∈ wsX8_keep := zs_inl wsX80 [13, 14, 15, 16, 17, 18, 19, 20, 21, 22, 23, 24, 25, 26, 27, 28, 29, 30, 31, 32, 33, 34, 35, 36, 37, 38, 39, 40, 41, 42, 43, 44, 45] (by decide +kernel)
set_option maxRecDepth 100000 in
set_option maxHeartbeats 4000000 in
theorem c_X8_keep (l : Launch) (G : GG) (aMd : Ad) (Md : Ob) (mt : Int64) (u1 : Int32) (sz : Nat) (rr : Int32) (Md_ : Ob) (hF : F_X8_keep Md u1 = some (rr, Md_)) : Met l yX8_keep wsX8_keep RMX8_keep (va_Pc [.ref (aMd 0), .int u1] (zs_pre G (wX8 G aMd Md mt) sz)) (zs_Qi G (wX8 G aMd Md_ mt) rr (va_A (wX8 G aMd Md mt) sz)) 0 0 (va_A (wX8 G aMd Md mt) sz) := by
  refine zs_met (cc := cX8_keep) (maxL := 4) (ret := (some .int)) (own := RX8) (Qc := zs_Qi G (wX8 G aMd Md_ mt) rr) (by decide) rfl rfl (Nat.le_of_ble_eq_true rfl) ?_
  intro p e s m args below meth c C A hK hA S _ _ ls hl
  have hl : lv_has ls 4 [(0, .ref (aMd 0)), (1, .int u1)] := hl
  have hx := C.1.1
  have hb := C.1.2.1
  unfold F_X8_keep at hF
  have j136 : ∀ (Md : Ob) (H : Heap) (locs : List Loc) (ls : Array Slot), zs_S G A s.heap H locs (wX8 G aMd Md mt) → lv_has ls 4 [(0, .ref (aMd 0))] → F_X8_keep_136 Md = some (rr, Md_) → W p l e RMX8_keep s m args below meth c H locs 0 0 (MQ below (zs_Qi G (wX8 G aMd Md_ mt) rr A) args s 0 0 A) (F0 m 136 ls []) := by
    intro Md H locs ls S hl hF
    unfold F_X8_keep_136 at hF
    refine lv_aload_n hx hb dX8_keep_136 rfl (lv_at hl 0 rfl) ?_
    refine zs_get C hK S 0 18 (Cn := RX8) (T := TX8) (N := 33) (ci := 8) rfl rfl (by decide) zn_X8_keep_X8 (List.mem_of_getElem? (i := 2) rfl) rfl dX8_keep_137 ?_
    obtain ⟨e1, e2⟩ := zs_s2 hF
    exact zs_iretE C S e1 (by rw [e2]) dX8_keep_140
  have j107 : ∀ (n107 : Nat) (Md : Ob) (x2 : Int32) (x3 : Int32) (H : Heap) (locs : List Loc) (ls : Array Slot), zs_S G A s.heap H locs (wX8 G aMd Md mt) → lv_has ls 4 [(0, .ref (aMd 0)), (2, .int x2), (3, .int x3)] → F_X8_keep_107 n107 Md x2 x3 = some (rr, Md_) → W p l e RMX8_keep s m args below meth c H locs 0 0 (MQ below (zs_Qi G (wX8 G aMd Md_ mt) rr A) args s 0 0 A) (F0 m 107 ls []) := by
    intro n107
    induction n107 with
    | zero => intro Md x2 x3 H locs ls _ _ hF; rw [F_X8_keep_107_z] at hF; cases hF
    | succ n107 ih107 =>
      intro Md x2 x3 H locs ls S hl hF
      rw [F_X8_keep_107_n] at hF
      unfold F_X8_keep_107_s at hF
      refine lv_iload_n hx hb dX8_keep_107 rfl (lv_at hl 2 rfl) ?_
      refine lv_bipush (v := (10 : Int32)) hx hb dX8_keep_108 (by decide) ?_
      refine lv_icmp_ge (tgt := 136) hx hb dX8_keep_110 (by decide) (fun c3 => ?_) (fun c3 => ?_)
      · have hF := zs_t hF c3
        exact j136 Md _ _ _ S (lv_sub hl [0] rfl) hF
      · have hF := zs_f hF c3
        refine lv_aload_n hx hb dX8_keep_113 rfl (lv_at hl 0 rfl) ?_
        refine zs_get C hK S 0 32 (Cn := RX8) (T := TX8) (N := 33) (ci := 8) rfl rfl (by decide) zn_X8_keep_X8 (List.mem_of_getElem? (i := 1) rfl) rfl dX8_keep_114 ?_
        refine lv_iload_n hx hb dX8_keep_117 rfl (lv_at hl 1 rfl) ?_
        refine lv_bipush (v := (11 : Int32)) hx hb dX8_keep_118 (by decide) ?_
        refine lv_iadd hx hb dX8_keep_120 ?_
        refine lv_iload_n hx hb dX8_keep_121 rfl (lv_at hl 2 rfl) ?_
        refine lv_iadd hx hb dX8_keep_122 ?_
        refine lv_aload_n hx hb dX8_keep_123 rfl (lv_at hl 0 rfl) ?_
        refine zs_get C hK S 0 23 (Cn := RX8) (T := TX8) (N := 33) (ci := 8) rfl rfl (by decide) zn_X8_keep_X8 (List.mem_of_getElem? (i := 8) rfl) rfl dX8_keep_124 ?_
        refine lv_iload_n hx hb dX8_keep_127 rfl (lv_at hl 2 rfl) ?_
        obtain ⟨h4, hF⟩ := zs_ckS hF
        refine zs_iald C hK S 11 rfl h4 dX8_keep_128 ?_
        obtain ⟨h5, hF⟩ := zs_ckS hF
        obtain ⟨Mdw6, e7⟩ : ∃ q : Ob, q = zs_up Md 17 (((x2 + (11 : Int32)) + x3)).toNatClampNeg (Md 11 (x3).toNatClampNeg) := ⟨_, rfl⟩
        have hF := zs_letS hF e7
        refine zs_iast C hK S 17 (ws' := wX8 G aMd Mdw6 mt) rfl h5 (by rw [e7]; rfl) dX8_keep_129 (fun H locs S => ?_)
        obtain ⟨z8, e9⟩ : ∃ q : Int32, q = x3 + (1 : Int32) := ⟨_, rfl⟩
        have hF := zs_letS hF e9
        refine lv_iinc (v := z8) (lv' := [(3, .int z8), (0, .ref (aMd 0)), (2, .int x2)]) hx hb dX8_keep_130 hl (k := 2) rfl (by rw [e9]; rfl) (by decide) rfl (fun ls hl => ?_)
        refine lv_goto (tgt := 107) hx hb dX8_keep_133 (by decide) ?_
        exact ih107 Mdw6 x2 z8 _ _ _ S (lv_sub hl [1, 2, 0] rfl) hF
  have j105 : ∀ (Md : Ob) (x2 : Int32) (H : Heap) (locs : List Loc) (ls : Array Slot), zs_S G A s.heap H locs (wX8 G aMd Md mt) → lv_has ls 4 [(0, .ref (aMd 0)), (2, .int x2)] → F_X8_keep_105 Md x2 = some (rr, Md_) → W p l e RMX8_keep s m args below meth c H locs 0 0 (MQ below (zs_Qi G (wX8 G aMd Md_ mt) rr A) args s 0 0 A) (F0 m 105 ls []) := by
    intro Md x2 H locs ls S hl hF
    unfold F_X8_keep_105 at hF
    refine lv_iconst (v := (0 : Int32)) hx hb dX8_keep_105 (by decide) ?_
    refine lv_istore_n (lv' := [(3, .int (0 : Int32)), (0, .ref (aMd 0)), (2, .int x2)]) hx hb dX8_keep_106 rfl hl (by decide) rfl (fun ls hl => ?_)
    exact j107 1000 Md x2 (0 : Int32) _ _ _ S (lv_sub hl [1, 2, 0] rfl) hF
  have j77 : ∀ (n77 : Nat) (Md : Ob) (x2 : Int32) (x3 : Int32) (H : Heap) (locs : List Loc) (ls : Array Slot), zs_S G A s.heap H locs (wX8 G aMd Md mt) → lv_has ls 4 [(0, .ref (aMd 0)), (2, .int x2), (3, .int x3)] → F_X8_keep_77 n77 Md x2 x3 = some (rr, Md_) → W p l e RMX8_keep s m args below meth c H locs 0 0 (MQ below (zs_Qi G (wX8 G aMd Md_ mt) rr A) args s 0 0 A) (F0 m 77 ls []) := by
    intro n77
    induction n77 with
    | zero => intro Md x2 x3 H locs ls _ _ hF; rw [F_X8_keep_77_z] at hF; cases hF
    | succ n77 ih77 =>
      intro Md x2 x3 H locs ls S hl hF
      rw [F_X8_keep_77_n] at hF
      unfold F_X8_keep_77_s at hF
      refine lv_iload_n hx hb dX8_keep_77 rfl (lv_at hl 2 rfl) ?_
      refine lv_bipush (v := (6 : Int32)) hx hb dX8_keep_78 (by decide) ?_
      refine lv_icmp_ge (tgt := 105) hx hb dX8_keep_80 (by decide) (fun c10 => ?_) (fun c10 => ?_)
      · have hF := zs_t hF c10
        exact j105 Md x2 _ _ _ S (lv_sub hl [0, 1] rfl) hF
      · have hF := zs_f hF c10
        refine lv_aload_n hx hb dX8_keep_83 rfl (lv_at hl 0 rfl) ?_
        refine zs_get C hK S 0 32 (Cn := RX8) (T := TX8) (N := 33) (ci := 8) rfl rfl (by decide) zn_X8_keep_X8 (List.mem_of_getElem? (i := 1) rfl) rfl dX8_keep_84 ?_
        refine lv_iload_n hx hb dX8_keep_87 rfl (lv_at hl 1 rfl) ?_
        refine lv_iconst (v := (5 : Int32)) hx hb dX8_keep_88 (by decide) ?_
        refine lv_iadd hx hb dX8_keep_89 ?_
        refine lv_iload_n hx hb dX8_keep_90 rfl (lv_at hl 2 rfl) ?_
        refine lv_iadd hx hb dX8_keep_91 ?_
        refine lv_aload_n hx hb dX8_keep_92 rfl (lv_at hl 0 rfl) ?_
        refine zs_get C hK S 0 17 (Cn := RX8) (T := TX8) (N := 33) (ci := 8) rfl rfl (by decide) zn_X8_keep_X8 (List.mem_of_getElem? (i := 7) rfl) rfl dX8_keep_93 ?_
        refine lv_iload_n hx hb dX8_keep_96 rfl (lv_at hl 2 rfl) ?_
        obtain ⟨h11, hF⟩ := zs_ckS hF
        refine zs_iald C hK S 9 rfl h11 dX8_keep_97 ?_
        obtain ⟨h12, hF⟩ := zs_ckS hF
        obtain ⟨Mdw13, e14⟩ : ∃ q : Ob, q = zs_up Md 17 (((x2 + (5 : Int32)) + x3)).toNatClampNeg (Md 9 (x3).toNatClampNeg) := ⟨_, rfl⟩
        have hF := zs_letS hF e14
        refine zs_iast C hK S 17 (ws' := wX8 G aMd Mdw13 mt) rfl h12 (by rw [e14]; rfl) dX8_keep_98 (fun H locs S => ?_)
        obtain ⟨z15, e16⟩ : ∃ q : Int32, q = x3 + (1 : Int32) := ⟨_, rfl⟩
        have hF := zs_letS hF e16
        refine lv_iinc (v := z15) (lv' := [(3, .int z15), (0, .ref (aMd 0)), (2, .int x2)]) hx hb dX8_keep_99 hl (k := 2) rfl (by rw [e16]; rfl) (by decide) rfl (fun ls hl => ?_)
        refine lv_goto (tgt := 77) hx hb dX8_keep_102 (by decide) ?_
        exact ih77 Mdw13 x2 z15 _ _ _ S (lv_sub hl [1, 2, 0] rfl) hF
  refine lv_iload_n hx hb dX8_keep_0 rfl (lv_at hl 1 rfl) ?_
  refine lv_i2l (v := ((u1).toInt64)) hx hb dX8_keep_1 rfl ?_
  refine lv_lconst (v := (0 : Int64)) hx hb dX8_keep_2 rfl ?_
  refine lv_lconst (v := (1 : Int64)) hx hb dX8_keep_3 rfl ?_
  obtain ⟨r17, f18, hF⟩ := zs_bdS hF
  refine zs_calliP S hA (zs_runS C hK hA S [.long ((u1).toInt64), .long (0 : Int64), .long (1 : Int64)] [] [] 3 (c_X8_in l G (((u1).toInt64)) ((0 : Int64)) ((1 : Int64)) s.heap.size r17 f18) gX8_keep_X8_in rfl rfl rfl zd_X8_in ⟨Nat.le_of_ble_eq_true rfl, Nat.le_of_ble_eq_true rfl⟩ rfl rfl rfl hl rfl (Nat.le_of_ble_eq_true rfl) dX8_keep_4 ⟨Nat.le_of_ble_eq_true rfl, Nat.le_of_ble_eq_true rfl⟩) (fun H locs S => ?_)
  refine lv_if_ne (tgt := 12) hx hb dX8_keep_7 (by decide) (fun c19 => ?_) (fun c19 => ?_)
  · have hF := zs_f hF c19
    refine lv_bipush (v := (21 : Int32)) hx hb dX8_keep_12 (by decide) ?_
    refine lv_iload_n hx hb dX8_keep_14 rfl (lv_at hl 1 rfl) ?_
    refine lv_imul hx hb dX8_keep_15 ?_
    refine lv_topi (fun z20 e21 => ?_)
    have hF := zs_letS hF e21
    refine lv_istore_n (lv' := [(2, .int z20), (0, .ref (aMd 0)), (1, .int u1)]) hx hb dX8_keep_16 rfl hl (by decide) rfl (fun ls hl => ?_)
    refine lv_aload_n hx hb dX8_keep_17 rfl (lv_at hl 1 rfl) ?_
    refine zs_get C hK S 0 32 (Cn := RX8) (T := TX8) (N := 33) (ci := 8) rfl rfl (by decide) zn_X8_keep_X8 (List.mem_of_getElem? (i := 1) rfl) rfl dX8_keep_18 ?_
    refine lv_iload_n hx hb dX8_keep_21 rfl (lv_at hl 0 rfl) ?_
    refine lv_aload_n hx hb dX8_keep_22 rfl (lv_at hl 1 rfl) ?_
    refine zs_get C hK S 0 18 (Cn := RX8) (T := TX8) (N := 33) (ci := 8) rfl rfl (by decide) zn_X8_keep_X8 (List.mem_of_getElem? (i := 2) rfl) rfl dX8_keep_23 ?_
    obtain ⟨h22, hF⟩ := zs_ckS hF
    obtain ⟨Mdw23, e24⟩ : ∃ q : Ob, q = zs_up Md 17 (z20).toNatClampNeg (Md 0 18) := ⟨_, rfl⟩
    have hF := zs_letS hF e24
    refine zs_iast C hK S 17 (ws' := wX8 G aMd Mdw23 mt) rfl h22 (by rw [e24]; rfl) dX8_keep_26 (fun H locs S => ?_)
    refine lv_aload_n hx hb dX8_keep_27 rfl (lv_at hl 1 rfl) ?_
    refine zs_get C hK S 0 32 (Cn := RX8) (T := TX8) (N := 33) (ci := 8) rfl rfl (by decide) zn_X8_keep_X8 (List.mem_of_getElem? (i := 1) rfl) rfl dX8_keep_28 ?_
    refine lv_iload_n hx hb dX8_keep_31 rfl (lv_at hl 0 rfl) ?_
    refine lv_iconst (v := (1 : Int32)) hx hb dX8_keep_32 (by decide) ?_
    refine lv_iadd hx hb dX8_keep_33 ?_
    refine lv_aload_n hx hb dX8_keep_34 rfl (lv_at hl 1 rfl) ?_
    refine zs_get C hK S 0 19 (Cn := RX8) (T := TX8) (N := 33) (ci := 8) rfl rfl (by decide) zn_X8_keep_X8 (List.mem_of_getElem? (i := 3) rfl) rfl dX8_keep_35 ?_
    obtain ⟨h25, hF⟩ := zs_ckS hF
    obtain ⟨Mdw26, e27⟩ : ∃ q : Ob, q = zs_up Mdw23 17 ((z20 + (1 : Int32))).toNatClampNeg (Mdw23 0 19) := ⟨_, rfl⟩
    have hF := zs_letS hF e27
    refine zs_iast C hK S 17 (ws' := wX8 G aMd Mdw26 mt) rfl h25 (by rw [e27]; rfl) dX8_keep_38 (fun H locs S => ?_)
    refine lv_aload_n hx hb dX8_keep_39 rfl (lv_at hl 1 rfl) ?_
    refine zs_get C hK S 0 32 (Cn := RX8) (T := TX8) (N := 33) (ci := 8) rfl rfl (by decide) zn_X8_keep_X8 (List.mem_of_getElem? (i := 1) rfl) rfl dX8_keep_40 ?_
    refine lv_iload_n hx hb dX8_keep_43 rfl (lv_at hl 0 rfl) ?_
    refine lv_iconst (v := (2 : Int32)) hx hb dX8_keep_44 (by decide) ?_
    refine lv_iadd hx hb dX8_keep_45 ?_
    refine lv_aload_n hx hb dX8_keep_46 rfl (lv_at hl 1 rfl) ?_
    refine zs_get C hK S 0 20 (Cn := RX8) (T := TX8) (N := 33) (ci := 8) rfl rfl (by decide) zn_X8_keep_X8 (List.mem_of_getElem? (i := 4) rfl) rfl dX8_keep_47 ?_
    obtain ⟨h28, hF⟩ := zs_ckS hF
    obtain ⟨Mdw29, e30⟩ : ∃ q : Ob, q = zs_up Mdw26 17 ((z20 + (2 : Int32))).toNatClampNeg (Mdw26 0 20) := ⟨_, rfl⟩
    have hF := zs_letS hF e30
    refine zs_iast C hK S 17 (ws' := wX8 G aMd Mdw29 mt) rfl h28 (by rw [e30]; rfl) dX8_keep_50 (fun H locs S => ?_)
    refine lv_aload_n hx hb dX8_keep_51 rfl (lv_at hl 1 rfl) ?_
    refine zs_get C hK S 0 32 (Cn := RX8) (T := TX8) (N := 33) (ci := 8) rfl rfl (by decide) zn_X8_keep_X8 (List.mem_of_getElem? (i := 1) rfl) rfl dX8_keep_52 ?_
    refine lv_iload_n hx hb dX8_keep_55 rfl (lv_at hl 0 rfl) ?_
    refine lv_iconst (v := (3 : Int32)) hx hb dX8_keep_56 (by decide) ?_
    refine lv_iadd hx hb dX8_keep_57 ?_
    refine lv_aload_n hx hb dX8_keep_58 rfl (lv_at hl 1 rfl) ?_
    refine zs_get C hK S 0 21 (Cn := RX8) (T := TX8) (N := 33) (ci := 8) rfl rfl (by decide) zn_X8_keep_X8 (List.mem_of_getElem? (i := 5) rfl) rfl dX8_keep_59 ?_
    obtain ⟨h31, hF⟩ := zs_ckS hF
    obtain ⟨Mdw32, e33⟩ : ∃ q : Ob, q = zs_up Mdw29 17 ((z20 + (3 : Int32))).toNatClampNeg (Mdw29 0 21) := ⟨_, rfl⟩
    have hF := zs_letS hF e33
    refine zs_iast C hK S 17 (ws' := wX8 G aMd Mdw32 mt) rfl h31 (by rw [e33]; rfl) dX8_keep_62 (fun H locs S => ?_)
    refine lv_aload_n hx hb dX8_keep_63 rfl (lv_at hl 1 rfl) ?_
    refine zs_get C hK S 0 32 (Cn := RX8) (T := TX8) (N := 33) (ci := 8) rfl rfl (by decide) zn_X8_keep_X8 (List.mem_of_getElem? (i := 1) rfl) rfl dX8_keep_64 ?_
    refine lv_iload_n hx hb dX8_keep_67 rfl (lv_at hl 0 rfl) ?_
    refine lv_iconst (v := (4 : Int32)) hx hb dX8_keep_68 (by decide) ?_
    refine lv_iadd hx hb dX8_keep_69 ?_
    refine lv_aload_n hx hb dX8_keep_70 rfl (lv_at hl 1 rfl) ?_
    refine zs_get C hK S 0 24 (Cn := RX8) (T := TX8) (N := 33) (ci := 8) rfl rfl (by decide) zn_X8_keep_X8 (List.mem_of_getElem? (i := 6) rfl) rfl dX8_keep_71 ?_
    obtain ⟨h34, hF⟩ := zs_ckS hF
    obtain ⟨Mdw35, e36⟩ : ∃ q : Ob, q = zs_up Mdw32 17 ((z20 + (4 : Int32))).toNatClampNeg (Mdw32 0 24) := ⟨_, rfl⟩
    have hF := zs_letS hF e36
    refine zs_iast C hK S 17 (ws' := wX8 G aMd Mdw35 mt) rfl h34 (by rw [e36]; rfl) dX8_keep_74 (fun H locs S => ?_)
    refine lv_iconst (v := (0 : Int32)) hx hb dX8_keep_75 (by decide) ?_
    refine lv_istore_n (lv' := [(3, .int (0 : Int32)), (2, .int z20), (0, .ref (aMd 0)), (1, .int u1)]) hx hb dX8_keep_76 rfl hl (by decide) rfl (fun ls hl => ?_)
    exact j77 1000 Mdw35 z20 (0 : Int32) _ _ _ S (lv_sub hl [2, 1, 0] rfl) hF
  · have hF := zs_t hF c19
    refine lv_iconst (v := (-1 : Int32)) hx hb dX8_keep_10 (by decide) ?_
    obtain ⟨e37, e38⟩ := zs_s2 hF
    exact zs_iretE C S e37 (by rw [e38]) dX8_keep_11

abbrev RMX8_back : Room := { frames := 1, cells := 0, slots := 0, locals := 25 }
theorem zn_X8_back_X8 : ∀ w ∈ wsX80, w ∈ wsX8_back := zs_inl wsX80 [13, 14, 15, 16, 17, 18, 19, 20, 21, 22, 23, 24, 25, 26, 27, 28, 29, 30, 31, 32, 33, 34, 35, 36, 37, 38, 39, 40, 41, 42, 43, 44, 45] (by decide +kernel)
set_option maxRecDepth 100000 in
set_option maxHeartbeats 4000000 in
theorem c_X8_back (l : Launch) (G : GG) (aMd : Ad) (Md : Ob) (mt : Int64) (u1 : Int32) (sz : Nat) (rr : Int32) (Md_ : Ob) (hF : F_X8_back Md u1 = some (rr, Md_)) : Met l yX8_back wsX8_back RMX8_back (va_Pc [.ref (aMd 0), .int u1] (zs_pre G (wX8 G aMd Md mt) sz)) (zs_Qi G (wX8 G aMd Md_ mt) rr (va_A (wX8 G aMd Md mt) sz)) 0 0 (va_A (wX8 G aMd Md mt) sz) := by
  refine zs_met (cc := cX8_back) (maxL := 4) (ret := (some .int)) (own := RX8) (Qc := zs_Qi G (wX8 G aMd Md_ mt) rr) (by decide) rfl rfl (Nat.le_of_ble_eq_true rfl) ?_
  intro p e s m args below meth c C A hK hA S _ _ ls hl
  have hl : lv_has ls 4 [(0, .ref (aMd 0)), (1, .int u1)] := hl
  have hx := C.1.1
  have hb := C.1.2.1
  unfold F_X8_back at hF
  have j148 : ∀ (Md : Ob) (H : Heap) (locs : List Loc) (ls : Array Slot), zs_S G A s.heap H locs (wX8 G aMd Md mt) → lv_has ls 4 [(0, .ref (aMd 0))] → F_X8_back_148 Md = some (rr, Md_) → W p l e RMX8_back s m args below meth c H locs 0 0 (MQ below (zs_Qi G (wX8 G aMd Md_ mt) rr A) args s 0 0 A) (F0 m 148 ls []) := by
    intro Md H locs ls S hl hF
    unfold F_X8_back_148 at hF
    refine lv_aload_n hx hb dX8_back_148 rfl (lv_at hl 0 rfl) ?_
    refine zs_get C hK S 0 18 (Cn := RX8) (T := TX8) (N := 33) (ci := 8) rfl rfl (by decide) zn_X8_back_X8 (List.mem_of_getElem? (i := 2) rfl) rfl dX8_back_149 ?_
    obtain ⟨e1, e2⟩ := zs_s2 hF
    exact zs_iretE C S e1 (by rw [e2]) dX8_back_152
  have j119 : ∀ (n119 : Nat) (Md : Ob) (x2 : Int32) (x3 : Int32) (H : Heap) (locs : List Loc) (ls : Array Slot), zs_S G A s.heap H locs (wX8 G aMd Md mt) → lv_has ls 4 [(0, .ref (aMd 0)), (2, .int x2), (3, .int x3)] → F_X8_back_119 n119 Md x2 x3 = some (rr, Md_) → W p l e RMX8_back s m args below meth c H locs 0 0 (MQ below (zs_Qi G (wX8 G aMd Md_ mt) rr A) args s 0 0 A) (F0 m 119 ls []) := by
    intro n119
    induction n119 with
    | zero => intro Md x2 x3 H locs ls _ _ hF; rw [F_X8_back_119_z] at hF; cases hF
    | succ n119 ih119 =>
      intro Md x2 x3 H locs ls S hl hF
      rw [F_X8_back_119_n] at hF
      unfold F_X8_back_119_s at hF
      refine lv_iload_n hx hb dX8_back_119 rfl (lv_at hl 2 rfl) ?_
      refine lv_bipush (v := (10 : Int32)) hx hb dX8_back_120 (by decide) ?_
      refine lv_icmp_ge (tgt := 148) hx hb dX8_back_122 (by decide) (fun c3 => ?_) (fun c3 => ?_)
      · have hF := zs_t hF c3
        exact j148 Md _ _ _ S (lv_sub hl [0] rfl) hF
      · have hF := zs_f hF c3
        refine lv_aload_n hx hb dX8_back_125 rfl (lv_at hl 0 rfl) ?_
        refine zs_get C hK S 0 23 (Cn := RX8) (T := TX8) (N := 33) (ci := 8) rfl rfl (by decide) zn_X8_back_X8 (List.mem_of_getElem? (i := 8) rfl) rfl dX8_back_126 ?_
        refine lv_iload_n hx hb dX8_back_129 rfl (lv_at hl 2 rfl) ?_
        refine lv_aload_n hx hb dX8_back_130 rfl (lv_at hl 0 rfl) ?_
        refine zs_get C hK S 0 32 (Cn := RX8) (T := TX8) (N := 33) (ci := 8) rfl rfl (by decide) zn_X8_back_X8 (List.mem_of_getElem? (i := 1) rfl) rfl dX8_back_131 ?_
        refine lv_iload_n hx hb dX8_back_134 rfl (lv_at hl 1 rfl) ?_
        refine lv_bipush (v := (11 : Int32)) hx hb dX8_back_135 (by decide) ?_
        refine lv_iadd hx hb dX8_back_137 ?_
        refine lv_iload_n hx hb dX8_back_138 rfl (lv_at hl 2 rfl) ?_
        refine lv_iadd hx hb dX8_back_139 ?_
        obtain ⟨h4, hF⟩ := zs_ckS hF
        refine zs_iald C hK S 17 rfl h4 dX8_back_140 ?_
        obtain ⟨h5, hF⟩ := zs_ckS hF
        obtain ⟨Mdw6, e7⟩ : ∃ q : Ob, q = zs_up Md 11 (x3).toNatClampNeg (Md 17 (((x2 + (11 : Int32)) + x3)).toNatClampNeg) := ⟨_, rfl⟩
        have hF := zs_letS hF e7
        refine zs_iast C hK S 11 (ws' := wX8 G aMd Mdw6 mt) rfl h5 (by rw [e7]; rfl) dX8_back_141 (fun H locs S => ?_)
        obtain ⟨z8, e9⟩ : ∃ q : Int32, q = x3 + (1 : Int32) := ⟨_, rfl⟩
        have hF := zs_letS hF e9
        refine lv_iinc (v := z8) (lv' := [(3, .int z8), (0, .ref (aMd 0)), (2, .int x2)]) hx hb dX8_back_142 hl (k := 2) rfl (by rw [e9]; rfl) (by decide) rfl (fun ls hl => ?_)
        refine lv_goto (tgt := 119) hx hb dX8_back_145 (by decide) ?_
        exact ih119 Mdw6 x2 z8 _ _ _ S (lv_sub hl [1, 2, 0] rfl) hF
  have j117 : ∀ (Md : Ob) (x2 : Int32) (H : Heap) (locs : List Loc) (ls : Array Slot), zs_S G A s.heap H locs (wX8 G aMd Md mt) → lv_has ls 4 [(0, .ref (aMd 0)), (2, .int x2)] → F_X8_back_117 Md x2 = some (rr, Md_) → W p l e RMX8_back s m args below meth c H locs 0 0 (MQ below (zs_Qi G (wX8 G aMd Md_ mt) rr A) args s 0 0 A) (F0 m 117 ls []) := by
    intro Md x2 H locs ls S hl hF
    unfold F_X8_back_117 at hF
    refine lv_iconst (v := (0 : Int32)) hx hb dX8_back_117 (by decide) ?_
    refine lv_istore_n (lv' := [(3, .int (0 : Int32)), (0, .ref (aMd 0)), (2, .int x2)]) hx hb dX8_back_118 rfl hl (by decide) rfl (fun ls hl => ?_)
    exact j119 1000 Md x2 (0 : Int32) _ _ _ S (lv_sub hl [1, 2, 0] rfl) hF
  have j89 : ∀ (n89 : Nat) (Md : Ob) (x2 : Int32) (x3 : Int32) (H : Heap) (locs : List Loc) (ls : Array Slot), zs_S G A s.heap H locs (wX8 G aMd Md mt) → lv_has ls 4 [(0, .ref (aMd 0)), (2, .int x2), (3, .int x3)] → F_X8_back_89 n89 Md x2 x3 = some (rr, Md_) → W p l e RMX8_back s m args below meth c H locs 0 0 (MQ below (zs_Qi G (wX8 G aMd Md_ mt) rr A) args s 0 0 A) (F0 m 89 ls []) := by
    intro n89
    induction n89 with
    | zero => intro Md x2 x3 H locs ls _ _ hF; rw [F_X8_back_89_z] at hF; cases hF
    | succ n89 ih89 =>
      intro Md x2 x3 H locs ls S hl hF
      rw [F_X8_back_89_n] at hF
      unfold F_X8_back_89_s at hF
      refine lv_iload_n hx hb dX8_back_89 rfl (lv_at hl 2 rfl) ?_
      refine lv_bipush (v := (6 : Int32)) hx hb dX8_back_90 (by decide) ?_
      refine lv_icmp_ge (tgt := 117) hx hb dX8_back_92 (by decide) (fun c10 => ?_) (fun c10 => ?_)
      · have hF := zs_t hF c10
        exact j117 Md x2 _ _ _ S (lv_sub hl [0, 1] rfl) hF
      · have hF := zs_f hF c10
        refine lv_aload_n hx hb dX8_back_95 rfl (lv_at hl 0 rfl) ?_
        refine zs_get C hK S 0 17 (Cn := RX8) (T := TX8) (N := 33) (ci := 8) rfl rfl (by decide) zn_X8_back_X8 (List.mem_of_getElem? (i := 7) rfl) rfl dX8_back_96 ?_
        refine lv_iload_n hx hb dX8_back_99 rfl (lv_at hl 2 rfl) ?_
        refine lv_aload_n hx hb dX8_back_100 rfl (lv_at hl 0 rfl) ?_
        refine zs_get C hK S 0 32 (Cn := RX8) (T := TX8) (N := 33) (ci := 8) rfl rfl (by decide) zn_X8_back_X8 (List.mem_of_getElem? (i := 1) rfl) rfl dX8_back_101 ?_
        refine lv_iload_n hx hb dX8_back_104 rfl (lv_at hl 1 rfl) ?_
        refine lv_iconst (v := (5 : Int32)) hx hb dX8_back_105 (by decide) ?_
        refine lv_iadd hx hb dX8_back_106 ?_
        refine lv_iload_n hx hb dX8_back_107 rfl (lv_at hl 2 rfl) ?_
        refine lv_iadd hx hb dX8_back_108 ?_
        obtain ⟨h11, hF⟩ := zs_ckS hF
        refine zs_iald C hK S 17 rfl h11 dX8_back_109 ?_
        obtain ⟨h12, hF⟩ := zs_ckS hF
        obtain ⟨Mdw13, e14⟩ : ∃ q : Ob, q = zs_up Md 9 (x3).toNatClampNeg (Md 17 (((x2 + (5 : Int32)) + x3)).toNatClampNeg) := ⟨_, rfl⟩
        have hF := zs_letS hF e14
        refine zs_iast C hK S 9 (ws' := wX8 G aMd Mdw13 mt) rfl h12 (by rw [e14]; rfl) dX8_back_110 (fun H locs S => ?_)
        obtain ⟨z15, e16⟩ : ∃ q : Int32, q = x3 + (1 : Int32) := ⟨_, rfl⟩
        have hF := zs_letS hF e16
        refine lv_iinc (v := z15) (lv' := [(3, .int z15), (0, .ref (aMd 0)), (2, .int x2)]) hx hb dX8_back_111 hl (k := 2) rfl (by rw [e16]; rfl) (by decide) rfl (fun ls hl => ?_)
        refine lv_goto (tgt := 89) hx hb dX8_back_114 (by decide) ?_
        exact ih89 Mdw13 x2 z15 _ _ _ S (lv_sub hl [1, 2, 0] rfl) hF
  refine lv_iload_n hx hb dX8_back_0 rfl (lv_at hl 1 rfl) ?_
  refine lv_i2l (v := ((u1).toInt64)) hx hb dX8_back_1 rfl ?_
  refine lv_lconst (v := (0 : Int64)) hx hb dX8_back_2 rfl ?_
  refine lv_lconst (v := (1 : Int64)) hx hb dX8_back_3 rfl ?_
  obtain ⟨r17, f18, hF⟩ := zs_bdS hF
  refine zs_calliP S hA (zs_runS C hK hA S [.long ((u1).toInt64), .long (0 : Int64), .long (1 : Int64)] [] [] 3 (c_X8_in l G (((u1).toInt64)) ((0 : Int64)) ((1 : Int64)) s.heap.size r17 f18) gX8_back_X8_in rfl rfl rfl zd_X8_in ⟨Nat.le_of_ble_eq_true rfl, Nat.le_of_ble_eq_true rfl⟩ rfl rfl rfl hl rfl (Nat.le_of_ble_eq_true rfl) dX8_back_4 ⟨Nat.le_of_ble_eq_true rfl, Nat.le_of_ble_eq_true rfl⟩) (fun H locs S => ?_)
  refine lv_if_ne (tgt := 12) hx hb dX8_back_7 (by decide) (fun c19 => ?_) (fun c19 => ?_)
  · have hF := zs_f hF c19
    refine lv_bipush (v := (21 : Int32)) hx hb dX8_back_12 (by decide) ?_
    refine lv_iload_n hx hb dX8_back_14 rfl (lv_at hl 1 rfl) ?_
    refine lv_imul hx hb dX8_back_15 ?_
    refine lv_topi (fun z20 e21 => ?_)
    have hF := zs_letS hF e21
    refine lv_istore_n (lv' := [(2, .int z20), (0, .ref (aMd 0)), (1, .int u1)]) hx hb dX8_back_16 rfl hl (by decide) rfl (fun ls hl => ?_)
    refine lv_aload_n hx hb dX8_back_17 rfl (lv_at hl 1 rfl) ?_
    refine zs_get C hK S 0 32 (Cn := RX8) (T := TX8) (N := 33) (ci := 8) rfl rfl (by decide) zn_X8_back_X8 (List.mem_of_getElem? (i := 1) rfl) rfl dX8_back_18 ?_
    refine lv_iload_n hx hb dX8_back_21 rfl (lv_at hl 0 rfl) ?_
    obtain ⟨h22, hF⟩ := zs_ckS hF
    refine zs_iald C hK S 17 rfl h22 dX8_back_22 ?_
    refine lv_if_ge (tgt := 29) hx hb dX8_back_23 (by decide) (fun c23 => ?_) (fun c23 => ?_)
    · have hF := zs_t hF c23
      refine lv_aload_n hx hb dX8_back_29 rfl (lv_at hl 1 rfl) ?_
      refine lv_aload_n hx hb dX8_back_30 rfl (lv_at hl 1 rfl) ?_
      refine zs_get C hK S 0 32 (Cn := RX8) (T := TX8) (N := 33) (ci := 8) rfl rfl (by decide) zn_X8_back_X8 (List.mem_of_getElem? (i := 1) rfl) rfl dX8_back_31 ?_
      refine lv_iload_n hx hb dX8_back_34 rfl (lv_at hl 0 rfl) ?_
      obtain ⟨h24, hF⟩ := zs_ckS hF
      refine zs_iald C hK S 17 rfl h24 dX8_back_35 ?_
      obtain ⟨Mdw25, e26⟩ : ∃ q : Ob, q = zs_up Md 0 18 (Md 17 (z20).toNatClampNeg) := ⟨_, rfl⟩
      have hF := zs_letS hF e26
      refine zs_put C hK S 0 18 (ws' := wX8 G aMd Mdw25 mt) (Cn := RX8) (T := TX8) (N := 33) (ci := 8) rfl rfl (by decide) zn_X8_back_X8 tyX8_ok nmX8 (List.mem_of_getElem? (i := 2) rfl) rfl rfl rfl (Nat.le_of_ble_eq_true rfl) (by rw [e26]; rfl) dX8_back_36 (fun H locs S => ?_)
      refine lv_aload_n hx hb dX8_back_39 rfl (lv_at hl 1 rfl) ?_
      refine lv_aload_n hx hb dX8_back_40 rfl (lv_at hl 1 rfl) ?_
      refine zs_get C hK S 0 32 (Cn := RX8) (T := TX8) (N := 33) (ci := 8) rfl rfl (by decide) zn_X8_back_X8 (List.mem_of_getElem? (i := 1) rfl) rfl dX8_back_41 ?_
      refine lv_iload_n hx hb dX8_back_44 rfl (lv_at hl 0 rfl) ?_
      refine lv_iconst (v := (1 : Int32)) hx hb dX8_back_45 (by decide) ?_
      refine lv_iadd hx hb dX8_back_46 ?_
      obtain ⟨h27, hF⟩ := zs_ckS hF
      refine zs_iald C hK S 17 rfl h27 dX8_back_47 ?_
      obtain ⟨Mdw28, e29⟩ : ∃ q : Ob, q = zs_up Mdw25 0 19 (Mdw25 17 ((z20 + (1 : Int32))).toNatClampNeg) := ⟨_, rfl⟩
      have hF := zs_letS hF e29
      refine zs_put C hK S 0 19 (ws' := wX8 G aMd Mdw28 mt) (Cn := RX8) (T := TX8) (N := 33) (ci := 8) rfl rfl (by decide) zn_X8_back_X8 tyX8_ok nmX8 (List.mem_of_getElem? (i := 3) rfl) rfl rfl rfl (Nat.le_of_ble_eq_true rfl) (by rw [e29]; rfl) dX8_back_48 (fun H locs S => ?_)
      refine lv_aload_n hx hb dX8_back_51 rfl (lv_at hl 1 rfl) ?_
      refine lv_aload_n hx hb dX8_back_52 rfl (lv_at hl 1 rfl) ?_
      refine zs_get C hK S 0 32 (Cn := RX8) (T := TX8) (N := 33) (ci := 8) rfl rfl (by decide) zn_X8_back_X8 (List.mem_of_getElem? (i := 1) rfl) rfl dX8_back_53 ?_
      refine lv_iload_n hx hb dX8_back_56 rfl (lv_at hl 0 rfl) ?_
      refine lv_iconst (v := (2 : Int32)) hx hb dX8_back_57 (by decide) ?_
      refine lv_iadd hx hb dX8_back_58 ?_
      obtain ⟨h30, hF⟩ := zs_ckS hF
      refine zs_iald C hK S 17 rfl h30 dX8_back_59 ?_
      obtain ⟨Mdw31, e32⟩ : ∃ q : Ob, q = zs_up Mdw28 0 20 (Mdw28 17 ((z20 + (2 : Int32))).toNatClampNeg) := ⟨_, rfl⟩
      have hF := zs_letS hF e32
      refine zs_put C hK S 0 20 (ws' := wX8 G aMd Mdw31 mt) (Cn := RX8) (T := TX8) (N := 33) (ci := 8) rfl rfl (by decide) zn_X8_back_X8 tyX8_ok nmX8 (List.mem_of_getElem? (i := 4) rfl) rfl rfl rfl (Nat.le_of_ble_eq_true rfl) (by rw [e32]; rfl) dX8_back_60 (fun H locs S => ?_)
      refine lv_aload_n hx hb dX8_back_63 rfl (lv_at hl 1 rfl) ?_
      refine lv_aload_n hx hb dX8_back_64 rfl (lv_at hl 1 rfl) ?_
      refine zs_get C hK S 0 32 (Cn := RX8) (T := TX8) (N := 33) (ci := 8) rfl rfl (by decide) zn_X8_back_X8 (List.mem_of_getElem? (i := 1) rfl) rfl dX8_back_65 ?_
      refine lv_iload_n hx hb dX8_back_68 rfl (lv_at hl 0 rfl) ?_
      refine lv_iconst (v := (3 : Int32)) hx hb dX8_back_69 (by decide) ?_
      refine lv_iadd hx hb dX8_back_70 ?_
      obtain ⟨h33, hF⟩ := zs_ckS hF
      refine zs_iald C hK S 17 rfl h33 dX8_back_71 ?_
      obtain ⟨Mdw34, e35⟩ : ∃ q : Ob, q = zs_up Mdw31 0 21 (Mdw31 17 ((z20 + (3 : Int32))).toNatClampNeg) := ⟨_, rfl⟩
      have hF := zs_letS hF e35
      refine zs_put C hK S 0 21 (ws' := wX8 G aMd Mdw34 mt) (Cn := RX8) (T := TX8) (N := 33) (ci := 8) rfl rfl (by decide) zn_X8_back_X8 tyX8_ok nmX8 (List.mem_of_getElem? (i := 5) rfl) rfl rfl rfl (Nat.le_of_ble_eq_true rfl) (by rw [e35]; rfl) dX8_back_72 (fun H locs S => ?_)
      refine lv_aload_n hx hb dX8_back_75 rfl (lv_at hl 1 rfl) ?_
      refine lv_aload_n hx hb dX8_back_76 rfl (lv_at hl 1 rfl) ?_
      refine zs_get C hK S 0 32 (Cn := RX8) (T := TX8) (N := 33) (ci := 8) rfl rfl (by decide) zn_X8_back_X8 (List.mem_of_getElem? (i := 1) rfl) rfl dX8_back_77 ?_
      refine lv_iload_n hx hb dX8_back_80 rfl (lv_at hl 0 rfl) ?_
      refine lv_iconst (v := (4 : Int32)) hx hb dX8_back_81 (by decide) ?_
      refine lv_iadd hx hb dX8_back_82 ?_
      obtain ⟨h36, hF⟩ := zs_ckS hF
      refine zs_iald C hK S 17 rfl h36 dX8_back_83 ?_
      obtain ⟨Mdw37, e38⟩ : ∃ q : Ob, q = zs_up Mdw34 0 24 (Mdw34 17 ((z20 + (4 : Int32))).toNatClampNeg) := ⟨_, rfl⟩
      have hF := zs_letS hF e38
      refine zs_put C hK S 0 24 (ws' := wX8 G aMd Mdw37 mt) (Cn := RX8) (T := TX8) (N := 33) (ci := 8) rfl rfl (by decide) zn_X8_back_X8 tyX8_ok nmX8 (List.mem_of_getElem? (i := 6) rfl) rfl rfl rfl (Nat.le_of_ble_eq_true rfl) (by rw [e38]; rfl) dX8_back_84 (fun H locs S => ?_)
      refine lv_iconst (v := (0 : Int32)) hx hb dX8_back_87 (by decide) ?_
      refine lv_istore_n (lv' := [(3, .int (0 : Int32)), (2, .int z20), (0, .ref (aMd 0)), (1, .int u1)]) hx hb dX8_back_88 rfl hl (by decide) rfl (fun ls hl => ?_)
      exact j89 1000 Mdw37 z20 (0 : Int32) _ _ _ S (lv_sub hl [2, 1, 0] rfl) hF
    · have hF := zs_f hF c23
      refine lv_bipush (v := (-2 : Int32)) hx hb dX8_back_26 (by decide) ?_
      obtain ⟨e39, e40⟩ := zs_s2 hF
      exact zs_iretE C S e39 (by rw [e40]) dX8_back_28
  · have hF := zs_t hF c19
    refine lv_iconst (v := (-1 : Int32)) hx hb dX8_back_10 (by decide) ?_
    obtain ⟨e41, e42⟩ := zs_s2 hF
    exact zs_iretE C S e41 (by rw [e42]) dX8_back_11

abbrev RMX8_count : Room := { frames := 1, cells := 0, slots := 0, locals := 22 }
theorem zn_X8_count_X8 : ∀ w ∈ wsX80, w ∈ wsX8_count := zs_inl wsX80 [12, 13, 14, 15, 16, 17, 18, 19, 20, 21, 22, 23, 24, 25, 26, 27, 28, 29, 30, 31, 32, 33, 34, 35, 36, 37, 38, 39, 40, 41, 42, 43, 44] (by decide +kernel)
set_option maxRecDepth 100000 in
set_option maxHeartbeats 4000000 in
theorem c_X8_count (l : Launch) (G : GG) (aMd : Ad) (Md : Ob) (mt : Int64) (u1 : Int32) (sz : Nat) (rr : Int32) (hF : F_X8_count Md u1 = some rr) : Met l yX8_count wsX8_count RMX8_count (va_Pc [.ref (aMd 0), .int u1] (zs_pre G (wX8 G aMd Md mt) sz)) (zs_Qi G (wX8 G aMd Md mt) rr (va_A (wX8 G aMd Md mt) sz)) 0 0 (va_A (wX8 G aMd Md mt) sz) := by
  refine zs_met (cc := cX8_count) (maxL := 2) (ret := (some .int)) (own := RX8) (Qc := zs_Qi G (wX8 G aMd Md mt) rr) (by decide) rfl rfl (Nat.le_of_ble_eq_true rfl) ?_
  intro p e s m args below meth c C A hK hA S _ _ ls hl
  have hl : lv_has ls 2 [(0, .ref (aMd 0)), (1, .int u1)] := hl
  have hx := C.1.1
  have hb := C.1.2.1
  unfold F_X8_count at hF
  refine lv_iload_n hx hb dX8_count_0 rfl (lv_at hl 1 rfl) ?_
  by_cases c1 : u1 = (0 : Int32)
  · have hF := zs_t hF c1
    refine lv_tableIn (off := 43) (tgt := 44) hx hb dX8_count_1 (by rw [c1]; decide) (by rw [c1]; decide) (by rw [c1]; rfl) (by decide) ?_
    refine lv_aload_n hx hb dX8_count_44 rfl (lv_at hl 0 rfl) ?_
    refine zs_get C hK S 0 10 (Cn := RX8) (T := TX8) (N := 33) (ci := 8) rfl rfl (by decide) zn_X8_count_X8 (List.mem_of_getElem? (i := 1) rfl) rfl dX8_count_45 ?_
    have e2 := zs_s1 hF
    exact zs_iretE C S e2 rfl dX8_count_48
  · have hF := zs_f hF c1
    by_cases c3 : u1 = (1 : Int32)
    · have hF := zs_t hF c3
      refine lv_tableIn (off := 48) (tgt := 49) hx hb dX8_count_1 (by rw [c3]; decide) (by rw [c3]; decide) (by rw [c3]; rfl) (by decide) ?_
      refine lv_aload_n hx hb dX8_count_49 rfl (lv_at hl 0 rfl) ?_
      refine zs_get C hK S 0 11 (Cn := RX8) (T := TX8) (N := 33) (ci := 8) rfl rfl (by decide) zn_X8_count_X8 (List.mem_of_getElem? (i := 2) rfl) rfl dX8_count_50 ?_
      have e4 := zs_s1 hF
      exact zs_iretE C S e4 rfl dX8_count_53
    · have hF := zs_f hF c3
      by_cases c5 : u1 = (2 : Int32)
      · have hF := zs_t hF c5
        refine lv_tableIn (off := 53) (tgt := 54) hx hb dX8_count_1 (by rw [c5]; decide) (by rw [c5]; decide) (by rw [c5]; rfl) (by decide) ?_
        refine lv_aload_n hx hb dX8_count_54 rfl (lv_at hl 0 rfl) ?_
        refine zs_get C hK S 0 19 (Cn := RX8) (T := TX8) (N := 33) (ci := 8) rfl rfl (by decide) zn_X8_count_X8 (List.mem_of_getElem? (i := 3) rfl) rfl dX8_count_55 ?_
        obtain ⟨r6, f7, hF⟩ := zs_bdS hF
        refine zs_calliP S hA (zs_runS C hK hA S [.int (Md 0 19)] [] [] 1 (c_X8_many l G ((Md 0 19)) s.heap.size r6 f7) gX8_count_X8_many rfl rfl rfl zd_X8_many ⟨Nat.le_of_ble_eq_true rfl, Nat.le_of_ble_eq_true rfl⟩ rfl rfl rfl hl rfl (Nat.le_of_ble_eq_true rfl) dX8_count_58 ⟨Nat.le_of_ble_eq_true rfl, Nat.le_of_ble_eq_true rfl⟩) (fun H locs S => ?_)
        have e8 := zs_s1 hF
        exact zs_iretE C S e8 rfl dX8_count_61
      · have hF := zs_f hF c5
        by_cases c9 : u1 = (3 : Int32)
        · have hF := zs_t hF c9
          refine lv_tableIn (off := 61) (tgt := 62) hx hb dX8_count_1 (by rw [c9]; decide) (by rw [c9]; decide) (by rw [c9]; rfl) (by decide) ?_
          refine lv_aload_n hx hb dX8_count_62 rfl (lv_at hl 0 rfl) ?_
          refine zs_get C hK S 0 20 (Cn := RX8) (T := TX8) (N := 33) (ci := 8) rfl rfl (by decide) zn_X8_count_X8 (List.mem_of_getElem? (i := 4) rfl) rfl dX8_count_63 ?_
          obtain ⟨r10, f11, hF⟩ := zs_bdS hF
          refine zs_calliP S hA (zs_runS C hK hA S [.int (Md 0 20)] [] [] 1 (c_X8_many l G ((Md 0 20)) s.heap.size r10 f11) gX8_count_X8_many rfl rfl rfl zd_X8_many ⟨Nat.le_of_ble_eq_true rfl, Nat.le_of_ble_eq_true rfl⟩ rfl rfl rfl hl rfl (Nat.le_of_ble_eq_true rfl) dX8_count_66 ⟨Nat.le_of_ble_eq_true rfl, Nat.le_of_ble_eq_true rfl⟩) (fun H locs S => ?_)
          have e12 := zs_s1 hF
          exact zs_iretE C S e12 rfl dX8_count_69
        · have hF := zs_f hF c9
          by_cases c13 : u1 = (4 : Int32)
          · have hF := zs_t hF c13
            refine lv_tableIn (off := 69) (tgt := 70) hx hb dX8_count_1 (by rw [c13]; decide) (by rw [c13]; decide) (by rw [c13]; rfl) (by decide) ?_
            refine lv_aload_n hx hb dX8_count_70 rfl (lv_at hl 0 rfl) ?_
            refine zs_get C hK S 0 27 (Cn := RX8) (T := TX8) (N := 33) (ci := 8) rfl rfl (by decide) zn_X8_count_X8 (List.mem_of_getElem? (i := 5) rfl) rfl dX8_count_71 ?_
            have e14 := zs_s1 hF
            exact zs_iretE C S e14 rfl dX8_count_74
          · have hF := zs_f hF c13
            by_cases c15 : u1 = (5 : Int32)
            · have hF := zs_t hF c15
              refine lv_tableIn (off := 74) (tgt := 75) hx hb dX8_count_1 (by rw [c15]; decide) (by rw [c15]; decide) (by rw [c15]; rfl) (by decide) ?_
              refine lv_aload_n hx hb dX8_count_75 rfl (lv_at hl 0 rfl) ?_
              refine zs_get C hK S 0 24 (Cn := RX8) (T := TX8) (N := 33) (ci := 8) rfl rfl (by decide) zn_X8_count_X8 (List.mem_of_getElem? (i := 6) rfl) rfl dX8_count_76 ?_
              have e16 := zs_s1 hF
              exact zs_iretE C S e16 rfl dX8_count_79
            · have hF := zs_f hF c15
              by_cases c17 : u1 = (6 : Int32)
              · have hF := zs_t hF c17
                refine lv_tableIn (off := 79) (tgt := 80) hx hb dX8_count_1 (by rw [c17]; decide) (by rw [c17]; decide) (by rw [c17]; rfl) (by decide) ?_
                refine lv_aload_n hx hb dX8_count_80 rfl (lv_at hl 0 rfl) ?_
                refine zs_get C hK S 0 1 (Cn := RX8) (T := TX8) (N := 33) (ci := 8) rfl rfl (by decide) zn_X8_count_X8 (List.mem_of_getElem? (i := 7) rfl) rfl dX8_count_81 ?_
                have e18 := zs_s1 hF
                exact zs_iretE C S e18 rfl dX8_count_84
              · have hF := zs_f hF c17
                refine lv_tableOut (tgt := 85) hx hb dX8_count_1 (zs_sw7 c1 c3 c5 c9 c13 c15 c17) (by decide) ?_
                refine lv_iconst (v := (-1 : Int32)) hx hb dX8_count_85 (by decide) ?_
                have e19 := zs_s1 hF
                exact zs_iretE C S e19 rfl dX8_count_86

