abbrev RMX8_coolest : Room := { frames := 2, cells := 0, slots := 0, locals := 56 }
theorem zn_X8_coolest_X8 : ∀ w ∈ wsX80, w ∈ wsX8_coolest := zs_inl wsX80 [28, 29, 30, 31, 32, 33, 34, 35, 36, 37, 38, 39, 40, 41, 42, 43, 44, 45, 46, 47, 48, 49, 50, 51, 52, 53, 54, 55, 56, 57, 58, 59, 60] (by decide +kernel)
set_option maxRecDepth 100000 in
set_option maxHeartbeats 4000000 in
theorem c_X8_coolest (l : Launch) (G : GG) (aMd : Ad) (Md : Ob) (mt : Int64) (u1 : Int32) (u2 : Int32) (sz : Nat) (rr : Int32) (Md_ : Ob) (hF : F_X8_coolest Md u1 u2 = some (rr, Md_)) : Met l yX8_coolest wsX8_coolest RMX8_coolest (va_Pc [.ref (aMd 0), .int u1, .int u2] (zs_pre G (wX8 G aMd Md mt) sz)) (zs_Qi G (wX8 G aMd Md_ mt) rr (va_A (wX8 G aMd Md mt) sz)) 0 0 (va_A (wX8 G aMd Md mt) sz) := by
  refine zs_met (cc := cX8_coolest) (maxL := 8) (ret := (some .int)) (own := RX8) (Qc := zs_Qi G (wX8 G aMd Md_ mt) rr) (by decide) rfl rfl (Nat.le_of_ble_eq_true rfl) ?_
  intro p e s m args below meth c C A hK hA S _ _ ls hl
  have hl : lv_has ls 8 [(0, .ref (aMd 0)), (1, .int u1), (2, .int u2)] := hl
  have hx := C.1.1
  have hb := C.1.2.1
  unfold F_X8_coolest at hF
  have j165 : ∀ (Md : Ob) (x2 : Int32) (x3 : Int32) (x4 : Int32) (H : Heap) (locs : List Loc) (ls : Array Slot), zs_S G A s.heap H locs (wX8 G aMd Md mt) → lv_has ls 8 [(2, .int x2), (3, .int x3), (4, .int x4)] → F_X8_coolest_165 Md x2 x3 x4 = some (rr, Md_) → W p l e RMX8_coolest s m args below meth c H locs 0 0 (MQ below (zs_Qi G (wX8 G aMd Md_ mt) rr A) args s 0 0 A) (F0 m 165 ls []) := by
    intro Md x2 x3 x4 H locs ls S hl hF
    unfold F_X8_coolest_165 at hF
    refine lv_iload_n hx hb dX8_coolest_165 rfl (lv_at hl 1 rfl) ?_
    refine lv_bipush (v := (-9 : Int32)) hx hb dX8_coolest_166 (by decide) ?_
    refine lv_icmp_ne (tgt := 176) hx hb dX8_coolest_168 (by decide) (fun c1 => ?_) (fun c1 => ?_)
    · have hF := zs_f hF c1
      refine lv_iload_n hx hb dX8_coolest_176 rfl (lv_at hl 0 rfl) ?_
      refine lv_if_ne (tgt := 185) hx hb dX8_coolest_177 (by decide) (fun c2 => ?_) (fun c2 => ?_)
      · have hF := zs_f hF c2
        refine lv_iload_n hx hb dX8_coolest_185 rfl (lv_at hl 1 rfl) ?_
        obtain ⟨e3, e4⟩ := zs_s2 hF
        exact zs_iretE C S e3 (by rw [e4]) dX8_coolest_186
      · have hF := zs_t hF c2
        refine lv_iload hx hb dX8_coolest_180 (lv_at hl 2 rfl) ?_
        refine lv_goto (tgt := 186) hx hb dX8_coolest_182 (by decide) ?_
        obtain ⟨e5, e6⟩ := zs_s2 hF
        exact zs_iretE C S e5 (by rw [e6]) dX8_coolest_186
    · have hF := zs_t hF c1
      refine lv_bipush (v := (-9 : Int32)) hx hb dX8_coolest_171 (by decide) ?_
      refine lv_goto (tgt := 186) hx hb dX8_coolest_173 (by decide) ?_
      obtain ⟨e7, e8⟩ := zs_s2 hF
      exact zs_iretE C S e7 (by rw [e8]) dX8_coolest_186
  have j33 : ∀ (n33 : Nat) (Md : Ob) (x1 : Int32) (x2 : Int32) (x3 : Int32) (x4 : Int32) (x5 : Int32) (H : Heap) (locs : List Loc) (ls : Array Slot), zs_S G A s.heap H locs (wX8 G aMd Md mt) → lv_has ls 8 [(0, .ref (aMd 0)), (1, .int x1), (2, .int x2), (3, .int x3), (4, .int x4), (5, .int x5)] → F_X8_coolest_33 n33 Md x1 x2 x3 x4 x5 = some (rr, Md_) → W p l e RMX8_coolest s m args below meth c H locs 0 0 (MQ below (zs_Qi G (wX8 G aMd Md_ mt) rr A) args s 0 0 A) (F0 m 33 ls []) := by
    intro n33
    induction n33 with
    | zero => intro Md x1 x2 x3 x4 x5 H locs ls _ _ hF; rw [F_X8_coolest_33_z] at hF; cases hF
    | succ n33 ih33 =>
      have j157 : ∀ (Md : Ob) (x1 : Int32) (x2 : Int32) (x3 : Int32) (x5 : Int32) (y0 : Int32) (H : Heap) (locs : List Loc) (ls : Array Slot), zs_S G A s.heap H locs (wX8 G aMd Md mt) → lv_has ls 8 [(0, .ref (aMd 0)), (1, .int x1), (2, .int x2), (3, .int x3), (5, .int x5)] → F_X8_coolest_157 (F_X8_coolest_33 n33) Md x1 x2 x3 x5 y0 = some (rr, Md_) → W p l e RMX8_coolest s m args below meth c H locs 0 0 (MQ below (zs_Qi G (wX8 G aMd Md_ mt) rr A) args s 0 0 A) (F0 m 157 ls [.int y0]) := by
        intro Md x1 x2 x3 x5 y0 H locs ls S hl hF
        unfold F_X8_coolest_157 at hF
        refine lv_istore (lv' := [(4, .int y0), (0, .ref (aMd 0)), (1, .int x1), (2, .int x2), (3, .int x3), (5, .int x5)]) hx hb dX8_coolest_157 hl (by decide) rfl (fun ls hl => ?_)
        obtain ⟨z9, e10⟩ : ∃ q : Int32, q = x5 + (1 : Int32) := ⟨_, rfl⟩
        have hF := zs_letS hF e10
        refine lv_iinc (v := z9) (lv' := [(5, .int z9), (4, .int y0), (0, .ref (aMd 0)), (1, .int x1), (2, .int x2), (3, .int x3)]) hx hb dX8_coolest_159 hl (k := 5) rfl (by rw [e10]; rfl) (by decide) rfl (fun ls hl => ?_)
        refine lv_goto (tgt := 33) hx hb dX8_coolest_162 (by decide) ?_
        exact ih33 Md x1 x2 x3 y0 z9 _ _ _ S (lv_sub hl [2, 3, 4, 5, 1, 0] rfl) hF
      have j144 : ∀ (Md : Ob) (x1 : Int32) (x2 : Int32) (x4 : Int32) (x5 : Int32) (x6 : Int32) (x7 : Int32) (y0 : Int32) (H : Heap) (locs : List Loc) (ls : Array Slot), zs_S G A s.heap H locs (wX8 G aMd Md mt) → lv_has ls 8 [(0, .ref (aMd 0)), (1, .int x1), (2, .int x2), (4, .int x4), (5, .int x5), (6, .int x6), (7, .int x7)] → F_X8_coolest_144 (F_X8_coolest_33 n33) Md x1 x2 x4 x5 x6 x7 y0 = some (rr, Md_) → W p l e RMX8_coolest s m args below meth c H locs 0 0 (MQ below (zs_Qi G (wX8 G aMd Md_ mt) rr A) args s 0 0 A) (F0 m 144 ls [.int y0]) := by
        intro Md x1 x2 x4 x5 x6 x7 y0 H locs ls S hl hF
        unfold F_X8_coolest_144 at hF
        refine lv_istore_n (lv' := [(3, .int y0), (0, .ref (aMd 0)), (1, .int x1), (2, .int x2), (4, .int x4), (5, .int x5), (6, .int x6), (7, .int x7)]) hx hb dX8_coolest_144 rfl hl (by decide) rfl (fun ls hl => ?_)
        refine lv_iload hx hb dX8_coolest_145 (lv_at hl 7 rfl) ?_
        refine lv_if_eq (tgt := 155) hx hb dX8_coolest_147 (by decide) (fun c11 => ?_) (fun c11 => ?_)
        · have hF := zs_t hF c11
          refine lv_iload hx hb dX8_coolest_155 (lv_at hl 4 rfl) ?_
          exact j157 Md x1 x2 y0 x5 x4 _ _ _ S (lv_sub hl [1, 2, 3, 0, 5] rfl) hF
        · have hF := zs_f hF c11
          refine lv_iload hx hb dX8_coolest_150 (lv_at hl 6 rfl) ?_
          refine lv_goto (tgt := 157) hx hb dX8_coolest_152 (by decide) ?_
          exact j157 Md x1 x2 y0 x5 x6 _ _ _ S (lv_sub hl [1, 2, 3, 0, 5] rfl) hF
      have j131 : ∀ (Md : Ob) (x1 : Int32) (x2 : Int32) (x3 : Int32) (x4 : Int32) (x5 : Int32) (x6 : Int32) (y0 : Int32) (H : Heap) (locs : List Loc) (ls : Array Slot), zs_S G A s.heap H locs (wX8 G aMd Md mt) → lv_has ls 8 [(0, .ref (aMd 0)), (1, .int x1), (2, .int x2), (3, .int x3), (4, .int x4), (5, .int x5), (6, .int x6)] → F_X8_coolest_131 (F_X8_coolest_33 n33) Md x1 x2 x3 x4 x5 x6 y0 = some (rr, Md_) → W p l e RMX8_coolest s m args below meth c H locs 0 0 (MQ below (zs_Qi G (wX8 G aMd Md_ mt) rr A) args s 0 0 A) (F0 m 131 ls [.int y0]) := by
        intro Md x1 x2 x3 x4 x5 x6 y0 H locs ls S hl hF
        unfold F_X8_coolest_131 at hF
        refine lv_istore (lv' := [(7, .int y0), (0, .ref (aMd 0)), (1, .int x1), (2, .int x2), (3, .int x3), (4, .int x4), (5, .int x5), (6, .int x6)]) hx hb dX8_coolest_131 hl (by decide) rfl (fun ls hl => ?_)
        refine lv_iload hx hb dX8_coolest_133 (lv_at hl 0 rfl) ?_
        refine lv_if_eq (tgt := 143) hx hb dX8_coolest_135 (by decide) (fun c12 => ?_) (fun c12 => ?_)
        · have hF := zs_t hF c12
          refine lv_iload_n hx hb dX8_coolest_143 rfl (lv_at hl 4 rfl) ?_
          exact j144 Md x1 x2 x4 x5 x6 y0 x3 _ _ _ S (lv_sub hl [1, 2, 3, 5, 6, 7, 0] rfl) hF
        · have hF := zs_f hF c12
          refine lv_iload hx hb dX8_coolest_138 (lv_at hl 6 rfl) ?_
          refine lv_goto (tgt := 144) hx hb dX8_coolest_140 (by decide) ?_
          exact j144 Md x1 x2 x4 x5 x6 y0 x5 _ _ _ S (lv_sub hl [1, 2, 3, 5, 6, 7, 0] rfl) hF
      have j126 : ∀ (Md : Ob) (x1 : Int32) (x2 : Int32) (x3 : Int32) (x4 : Int32) (x5 : Int32) (x6 : Int32) (H : Heap) (locs : List Loc) (ls : Array Slot), zs_S G A s.heap H locs (wX8 G aMd Md mt) → lv_has ls 8 [(0, .ref (aMd 0)), (1, .int x1), (2, .int x2), (3, .int x3), (4, .int x4), (5, .int x5), (6, .int x6)] → F_X8_coolest_126 (F_X8_coolest_33 n33) Md x1 x2 x3 x4 x5 x6 = some (rr, Md_) → W p l e RMX8_coolest s m args below meth c H locs 0 0 (MQ below (zs_Qi G (wX8 G aMd Md_ mt) rr A) args s 0 0 A) (F0 m 126 ls []) := by
        intro Md x1 x2 x3 x4 x5 x6 H locs ls S hl hF
        unfold F_X8_coolest_126 at hF
        refine lv_iconst (v := (1 : Int32)) hx hb dX8_coolest_126 (by decide) ?_
        refine lv_goto (tgt := 131) hx hb dX8_coolest_127 (by decide) ?_
        exact j131 Md x1 x2 x3 x4 x5 x6 (1 : Int32) _ _ _ S (lv_sub hl [0, 1, 2, 3, 4, 5, 6] rfl) hF
      have j113 : ∀ (Md : Ob) (x1 : Int32) (x2 : Int32) (x3 : Int32) (x4 : Int32) (x5 : Int32) (x6 : Int32) (H : Heap) (locs : List Loc) (ls : Array Slot), zs_S G A s.heap H locs (wX8 G aMd Md mt) → lv_has ls 8 [(0, .ref (aMd 0)), (1, .int x1), (2, .int x2), (3, .int x3), (4, .int x4), (5, .int x5), (6, .int x6)] → F_X8_coolest_113 (F_X8_coolest_33 n33) Md x1 x2 x3 x4 x5 x6 = some (rr, Md_) → W p l e RMX8_coolest s m args below meth c H locs 0 0 (MQ below (zs_Qi G (wX8 G aMd Md_ mt) rr A) args s 0 0 A) (F0 m 113 ls []) := by
        intro Md x1 x2 x3 x4 x5 x6 H locs ls S hl hF
        unfold F_X8_coolest_113 at hF
        refine lv_iload_n hx hb dX8_coolest_113 rfl (lv_at hl 3 rfl) ?_
        refine lv_bipush (v := (-9 : Int32)) hx hb dX8_coolest_114 (by decide) ?_
        refine lv_icmp_eq (tgt := 126) hx hb dX8_coolest_116 (by decide) (fun c13 => ?_) (fun c13 => ?_)
        · have hF := zs_t hF c13
          exact j126 Md x1 x2 x3 x4 x5 x6 _ _ _ S (lv_sub hl [0, 1, 2, 3, 4, 5, 6] rfl) hF
        · have hF := zs_f hF c13
          refine lv_iload hx hb dX8_coolest_119 (lv_at hl 6 rfl) ?_
          refine lv_iload hx hb dX8_coolest_121 (lv_at hl 4 rfl) ?_
          refine lv_icmp_ge (tgt := 130) hx hb dX8_coolest_123 (by decide) (fun c14 => ?_) (fun c14 => ?_)
          · have hF := zs_t hF c14
            refine lv_iconst (v := (0 : Int32)) hx hb dX8_coolest_130 (by decide) ?_
            exact j131 Md x1 x2 x3 x4 x5 x6 (0 : Int32) _ _ _ S (lv_sub hl [0, 1, 2, 3, 4, 5, 6] rfl) hF
          · have hF := zs_f hF c14
            exact j126 Md x1 x2 x3 x4 x5 x6 _ _ _ S (lv_sub hl [0, 1, 2, 3, 4, 5, 6] rfl) hF
      have j72 : ∀ (n72 : Nat) (Md : Ob) (x1 : Int32) (x2 : Int32) (x3 : Int32) (x4 : Int32) (x5 : Int32) (x6 : Int32) (x7 : Int32) (H : Heap) (locs : List Loc) (ls : Array Slot), zs_S G A s.heap H locs (wX8 G aMd Md mt) → lv_has ls 8 [(0, .ref (aMd 0)), (1, .int x1), (2, .int x2), (3, .int x3), (4, .int x4), (5, .int x5), (6, .int x6), (7, .int x7)] → F_X8_coolest_72 (F_X8_coolest_33 n33) n72 Md x1 x2 x3 x4 x5 x6 x7 = some (rr, Md_) → W p l e RMX8_coolest s m args below meth c H locs 0 0 (MQ below (zs_Qi G (wX8 G aMd Md_ mt) rr A) args s 0 0 A) (F0 m 72 ls []) := by
        intro n72
        induction n72 with
        | zero => intro Md x1 x2 x3 x4 x5 x6 x7 H locs ls _ _ hF; rw [F_X8_coolest_72_z] at hF; cases hF
        | succ n72 ih72 =>
          have j105 : ∀ (Md : Ob) (x1 : Int32) (x2 : Int32) (x3 : Int32) (x4 : Int32) (x5 : Int32) (x7 : Int32) (y0 : Int32) (H : Heap) (locs : List Loc) (ls : Array Slot), zs_S G A s.heap H locs (wX8 G aMd Md mt) → lv_has ls 8 [(0, .ref (aMd 0)), (1, .int x1), (2, .int x2), (3, .int x3), (4, .int x4), (5, .int x5), (7, .int x7)] → F_X8_coolest_105 (F_X8_coolest_33 n33) (F_X8_coolest_72 (F_X8_coolest_33 n33) n72) Md x1 x2 x3 x4 x5 x7 y0 = some (rr, Md_) → W p l e RMX8_coolest s m args below meth c H locs 0 0 (MQ below (zs_Qi G (wX8 G aMd Md_ mt) rr A) args s 0 0 A) (F0 m 105 ls [.int y0]) := by
            intro Md x1 x2 x3 x4 x5 x7 y0 H locs ls S hl hF
            unfold F_X8_coolest_105 at hF
            refine lv_istore (lv' := [(6, .int y0), (0, .ref (aMd 0)), (1, .int x1), (2, .int x2), (3, .int x3), (4, .int x4), (5, .int x5), (7, .int x7)]) hx hb dX8_coolest_105 hl (by decide) rfl (fun ls hl => ?_)
            obtain ⟨z15, e16⟩ : ∃ q : Int32, q = x7 + (1 : Int32) := ⟨_, rfl⟩
            have hF := zs_letS hF e16
            refine lv_iinc (v := z15) (lv' := [(7, .int z15), (6, .int y0), (0, .ref (aMd 0)), (1, .int x1), (2, .int x2), (3, .int x3), (4, .int x4), (5, .int x5)]) hx hb dX8_coolest_107 hl (k := 7) rfl (by rw [e16]; rfl) (by decide) rfl (fun ls hl => ?_)
            refine lv_goto (tgt := 72) hx hb dX8_coolest_110 (by decide) ?_
            exact ih72 Md x1 x2 x3 x4 x5 y0 z15 _ _ _ S (lv_sub hl [2, 3, 4, 5, 6, 7, 1, 0] rfl) hF
          intro Md x1 x2 x3 x4 x5 x6 x7 H locs ls S hl hF
          rw [F_X8_coolest_72_n] at hF
          unfold F_X8_coolest_72_s at hF
          refine lv_iload hx hb dX8_coolest_72 (lv_at hl 7 rfl) ?_
          refine lv_aload_n hx hb dX8_coolest_74 rfl (lv_at hl 0 rfl) ?_
          refine zs_get C hK S 0 10 (Cn := RX8) (T := TX8) (N := 33) (ci := 8) rfl rfl (by decide) zn_X8_coolest_X8 (List.mem_of_getElem? (i := 2) rfl) rfl dX8_coolest_75 ?_
          refine lv_icmp_ge (tgt := 113) hx hb dX8_coolest_78 (by decide) (fun c17 => ?_) (fun c17 => ?_)
          · have hF := zs_t hF c17
            exact j113 Md x1 x2 x3 x4 x5 x6 _ _ _ S (lv_sub hl [0, 1, 2, 3, 4, 5, 6] rfl) hF
          · have hF := zs_f hF c17
            refine lv_aload_n hx hb dX8_coolest_81 rfl (lv_at hl 0 rfl) ?_
            refine zs_get C hK S 0 25 (Cn := RX8) (T := TX8) (N := 33) (ci := 8) rfl rfl (by decide) zn_X8_coolest_X8 (List.mem_of_getElem? (i := 4) rfl) rfl dX8_coolest_82 ?_
            refine lv_iload hx hb dX8_coolest_85 (lv_at hl 7 rfl) ?_
            obtain ⟨h18, hF⟩ := zs_ckS hF
            refine zs_iald C hK S 12 rfl h18 dX8_coolest_87 ?_
            refine lv_iload hx hb dX8_coolest_88 (lv_at hl 6 rfl) ?_
            refine lv_icmp_le (tgt := 103) hx hb dX8_coolest_90 (by decide) (fun c19 => ?_) (fun c19 => ?_)
            · have hF := zs_t hF c19
              refine lv_iload hx hb dX8_coolest_103 (lv_at hl 6 rfl) ?_
              exact j105 Md x1 x2 x3 x4 x5 x7 x6 _ _ _ S (lv_sub hl [0, 1, 2, 3, 4, 5, 7] rfl) hF
            · have hF := zs_f hF c19
              refine lv_aload_n hx hb dX8_coolest_93 rfl (lv_at hl 0 rfl) ?_
              refine zs_get C hK S 0 25 (Cn := RX8) (T := TX8) (N := 33) (ci := 8) rfl rfl (by decide) zn_X8_coolest_X8 (List.mem_of_getElem? (i := 4) rfl) rfl dX8_coolest_94 ?_
              refine lv_iload hx hb dX8_coolest_97 (lv_at hl 7 rfl) ?_
              obtain ⟨h20, hF⟩ := zs_ckS hF
              refine zs_iald C hK S 12 rfl h20 dX8_coolest_99 ?_
              refine lv_goto (tgt := 105) hx hb dX8_coolest_100 (by decide) ?_
              exact j105 Md x1 x2 x3 x4 x5 x7 (Md 12 (x7).toNatClampNeg) _ _ _ S (lv_sub hl [0, 1, 2, 3, 4, 5, 7] rfl) hF
      intro Md x1 x2 x3 x4 x5 H locs ls S hl hF
      rw [F_X8_coolest_33_n] at hF
      unfold F_X8_coolest_33_s at hF
      refine lv_iload hx hb dX8_coolest_33 (lv_at hl 5 rfl) ?_
      refine lv_iconst (v := (1 : Int32)) hx hb dX8_coolest_35 (by decide) ?_
      refine lv_aload_n hx hb dX8_coolest_36 rfl (lv_at hl 0 rfl) ?_
      refine zs_get C hK S 0 10 (Cn := RX8) (T := TX8) (N := 33) (ci := 8) rfl rfl (by decide) zn_X8_coolest_X8 (List.mem_of_getElem? (i := 2) rfl) rfl dX8_coolest_37 ?_
      refine lv_ishl hx hb dX8_coolest_40 ?_
      refine lv_icmp_ge (tgt := 165) hx hb dX8_coolest_41 (by decide) (fun c21 => ?_) (fun c21 => ?_)
      · have hF := zs_t hF c21
        exact j165 Md x2 x3 x4 _ _ _ S (lv_sub hl [2, 3, 4] rfl) hF
      · have hF := zs_f hF c21
        refine lv_aload_n hx hb dX8_coolest_44 rfl (lv_at hl 0 rfl) ?_
        refine zs_get C hK S 0 10 (Cn := RX8) (T := TX8) (N := 33) (ci := 8) rfl rfl (by decide) zn_X8_coolest_X8 (List.mem_of_getElem? (i := 2) rfl) rfl dX8_coolest_45 ?_
        refine lv_if_le (tgt := 165) hx hb dX8_coolest_48 (by decide) (fun c22 => ?_) (fun c22 => ?_)
        · have hF := zs_t hF c22
          exact j165 Md x2 x3 x4 _ _ _ S (lv_sub hl [2, 3, 4] rfl) hF
        · have hF := zs_f hF c22
          refine lv_aload_n hx hb dX8_coolest_51 rfl (lv_at hl 0 rfl) ?_
          obtain ⟨Mdw23, f24, hF⟩ := zs_bdS hF
          refine zs_callv (wr := ([] : va_W)) (ws' := wX8 G aMd Mdw23 mt) S hA [0, 1, 2, 3, 4, 5, 6, 7, 8, 9, 10, 11, 12, 13, 14, 15, 16, 17] [] [0, 1, 2, 3, 4, 5, 6, 7, 8, 9, 10, 11, 12, 13, 14, 15, 16, 17] (zs_runV C hK hA S [] [] [0, 1, 2, 3, 4, 5, 6, 7, 8, 9, 10, 11, 12, 13, 14, 15, 16, 17] 0 0 (c_X8_begins l G aMd Md mt H.size Mdw23 f24) gX8_coolest_X8_begins rfl rfl rfl zd_X8_begins ⟨Nat.le_of_ble_eq_true rfl, Nat.le_of_ble_eq_true rfl⟩ rfl rfl rfl rfl rfl hl rfl (Nat.le_of_ble_eq_true rfl) dX8_coolest_52 ⟨Nat.le_of_ble_eq_true rfl, Nat.le_of_ble_eq_true rfl⟩) rfl rfl rfl (by decide) rfl rfl (fun H locs S => ?_)
          refine lv_aload_n hx hb dX8_coolest_55 rfl (lv_at hl 0 rfl) ?_
          refine lv_iload_n hx hb dX8_coolest_56 rfl (lv_at hl 1 rfl) ?_
          refine lv_iload hx hb dX8_coolest_57 (lv_at hl 5 rfl) ?_
          refine lv_aload_n hx hb dX8_coolest_59 rfl (lv_at hl 0 rfl) ?_
          refine zs_get C hK S 0 20 (Cn := RX8) (T := TX8) (N := 33) (ci := 8) rfl rfl (by decide) zn_X8_coolest_X8 (List.mem_of_getElem? (i := 3) rfl) rfl dX8_coolest_60 ?_
          obtain ⟨Mdw25, f26, hF⟩ := zs_bdS hF
          refine zs_callv (wr := ([] : va_W)) (ws' := wX8 G aMd Mdw25 mt) S hA [0, 1, 2, 3, 4, 5, 6, 7, 8, 9, 10, 11, 12, 13, 14, 15, 16, 17] [] [0, 1, 2, 3, 4, 5, 6, 7, 8, 9, 10, 11, 12, 13, 14, 15, 16, 17] (zs_runV C hK hA S [.int x1, .int x5, .int (Mdw23 0 20)] [] [0, 1, 2, 3, 4, 5, 6, 7, 8, 9, 10, 11, 12, 13, 14, 15, 16, 17] 0 3 (c_X8_passes l G aMd Mdw23 mt x1 x5 ((Mdw23 0 20)) H.size Mdw25 f26) gX8_coolest_X8_passes rfl rfl rfl zd_X8_passes ⟨Nat.le_of_ble_eq_true rfl, Nat.le_of_ble_eq_true rfl⟩ rfl rfl rfl rfl rfl hl rfl (Nat.le_of_ble_eq_true rfl) dX8_coolest_63 ⟨Nat.le_of_ble_eq_true rfl, Nat.le_of_ble_eq_true rfl⟩) rfl rfl rfl (by decide) rfl rfl (fun H locs S => ?_)
          refine lv_iconst (v := (0 : Int32)) hx hb dX8_coolest_66 (by decide) ?_
          refine lv_istore (lv' := [(6, .int (0 : Int32)), (0, .ref (aMd 0)), (1, .int x1), (2, .int x2), (3, .int x3), (4, .int x4), (5, .int x5)]) hx hb dX8_coolest_67 hl (by decide) rfl (fun ls hl => ?_)
          refine lv_iconst (v := (0 : Int32)) hx hb dX8_coolest_69 (by decide) ?_
          refine lv_istore (lv' := [(7, .int (0 : Int32)), (6, .int (0 : Int32)), (0, .ref (aMd 0)), (1, .int x1), (2, .int x2), (3, .int x3), (4, .int x4), (5, .int x5)]) hx hb dX8_coolest_70 hl (by decide) rfl (fun ls hl => ?_)
          exact j72 1000 Mdw25 x1 x2 x3 x4 x5 (0 : Int32) (0 : Int32) _ _ _ S (lv_sub hl [2, 3, 4, 5, 6, 7, 1, 0] rfl) hF
  refine lv_iload_n hx hb dX8_coolest_0 rfl (lv_at hl 1 rfl) ?_
  refine lv_i2l (v := ((u1).toInt64)) hx hb dX8_coolest_1 rfl ?_
  refine lv_lconst (v := (0 : Int64)) hx hb dX8_coolest_2 rfl ?_
  refine lv_ldc2 (v := (20 : Int64)) hx hb C.1.2.2.2.1 (C.1.2.2.2.2 (.constantLong RX8 203 (20 : Int64)) (List.mem_of_getElem? (i := 1) rfl)) dX8_coolest_3 ?_
  obtain ⟨r27, f28, hF⟩ := zs_bdS hF
  refine zs_calliP S hA (zs_runS C hK hA S [.long ((u1).toInt64), .long (0 : Int64), .long (20 : Int64)] [] [] 3 (c_X8_in l G (((u1).toInt64)) ((0 : Int64)) ((20 : Int64)) s.heap.size r27 f28) gX8_coolest_X8_in rfl rfl rfl zd_X8_in ⟨Nat.le_of_ble_eq_true rfl, Nat.le_of_ble_eq_true rfl⟩ rfl rfl rfl hl rfl (Nat.le_of_ble_eq_true rfl) dX8_coolest_6 ⟨Nat.le_of_ble_eq_true rfl, Nat.le_of_ble_eq_true rfl⟩) (fun H locs S => ?_)
  refine lv_if_eq (tgt := 22) hx hb dX8_coolest_9 (by decide) (fun c29 => ?_) (fun c29 => ?_)
  · have hF := zs_t hF c29
    refine lv_iconst (v := (-1 : Int32)) hx hb dX8_coolest_22 (by decide) ?_
    obtain ⟨e30, e31⟩ := zs_s2 hF
    exact zs_iretE C S e30 (by rw [e31]) dX8_coolest_23
  · have hF := zs_f hF c29
    refine lv_iload_n hx hb dX8_coolest_12 rfl (lv_at hl 2 rfl) ?_
    refine lv_i2l (v := ((u2).toInt64)) hx hb dX8_coolest_13 rfl ?_
    refine lv_lconst (v := (0 : Int64)) hx hb dX8_coolest_14 rfl ?_
    refine lv_lconst (v := (1 : Int64)) hx hb dX8_coolest_15 rfl ?_
    obtain ⟨r32, f33, hF⟩ := zs_bdS hF
    refine zs_calliP S hA (zs_runS C hK hA S [.long ((u2).toInt64), .long (0 : Int64), .long (1 : Int64)] [] [] 3 (c_X8_in l G (((u2).toInt64)) ((0 : Int64)) ((1 : Int64)) H.size r32 f33) gX8_coolest_X8_in rfl rfl rfl zd_X8_in ⟨Nat.le_of_ble_eq_true rfl, Nat.le_of_ble_eq_true rfl⟩ rfl rfl rfl hl rfl (Nat.le_of_ble_eq_true rfl) dX8_coolest_16 ⟨Nat.le_of_ble_eq_true rfl, Nat.le_of_ble_eq_true rfl⟩) (fun H locs S => ?_)
    refine lv_if_ne (tgt := 24) hx hb dX8_coolest_19 (by decide) (fun c34 => ?_) (fun c34 => ?_)
    · have hF := zs_f hF c34
      refine lv_bipush (v := (-9 : Int32)) hx hb dX8_coolest_24 (by decide) ?_
      refine lv_istore_n (lv' := [(3, .int (-9 : Int32)), (0, .ref (aMd 0)), (1, .int u1), (2, .int u2)]) hx hb dX8_coolest_26 rfl hl (by decide) rfl (fun ls hl => ?_)
      refine lv_iconst (v := (0 : Int32)) hx hb dX8_coolest_27 (by decide) ?_
      refine lv_istore (lv' := [(4, .int (0 : Int32)), (3, .int (-9 : Int32)), (0, .ref (aMd 0)), (1, .int u1), (2, .int u2)]) hx hb dX8_coolest_28 hl (by decide) rfl (fun ls hl => ?_)
      refine lv_iconst (v := (0 : Int32)) hx hb dX8_coolest_30 (by decide) ?_
      refine lv_istore (lv' := [(5, .int (0 : Int32)), (4, .int (0 : Int32)), (3, .int (-9 : Int32)), (0, .ref (aMd 0)), (1, .int u1), (2, .int u2)]) hx hb dX8_coolest_31 hl (by decide) rfl (fun ls hl => ?_)
      exact j33 1000 Md u1 u2 (-9 : Int32) (0 : Int32) (0 : Int32) _ _ _ S (lv_sub hl [3, 4, 5, 2, 1, 0] rfl) hF
    · have hF := zs_t hF c34
      refine lv_iconst (v := (-1 : Int32)) hx hb dX8_coolest_22 (by decide) ?_
      obtain ⟨e35, e36⟩ := zs_s2 hF
      exact zs_iretE C S e35 (by rw [e36]) dX8_coolest_23

abbrev RMX8_busy : Room := { frames := 2, cells := 0, slots := 0, locals := 46 }
theorem zn_X8_busy_X8 : ∀ w ∈ wsX80, w ∈ wsX8_busy := zs_inl wsX80 [36, 37, 38, 39, 40, 41, 42, 43, 44, 45, 46, 47, 48, 49, 50, 51, 52, 53, 54, 55, 56, 57, 58, 59, 60, 61, 62, 63, 64, 65, 66, 67, 68] (by decide +kernel)
set_option maxRecDepth 100000 in
set_option maxHeartbeats 4000000 in
theorem c_X8_busy (l : Launch) (G : GG) (aMd : Ad) (Md : Ob) (mt : Int64) (u1 : Int32) (u2 : Int32) (sz : Nat) (rr : Int32) (Md_ : Ob) (hF : F_X8_busy Md u1 u2 = some (rr, Md_)) : Met l yX8_busy wsX8_busy RMX8_busy (va_Pc [.ref (aMd 0), .int u1, .int u2] (zs_pre G (wX8 G aMd Md mt) sz)) (zs_Qi G (wX8 G aMd Md_ mt) rr (va_A (wX8 G aMd Md mt) sz)) 0 0 (va_A (wX8 G aMd Md mt) sz) := by
  refine zs_met (cc := cX8_busy) (maxL := 8) (ret := (some .int)) (own := RX8) (Qc := zs_Qi G (wX8 G aMd Md_ mt) rr) (by decide) rfl rfl (Nat.le_of_ble_eq_true rfl) ?_
  intro p e s m args below meth c C A hK hA S _ _ ls hl
  have hl : lv_has ls 8 [(0, .ref (aMd 0)), (1, .int u1), (2, .int u2)] := hl
  have hx := C.1.1
  have hb := C.1.2.1
  unfold F_X8_busy at hF
  have j162 : ∀ (Md : Ob) (x1 : Int32) (x2 : Int32) (x3 : Int32) (x4 : Int32) (H : Heap) (locs : List Loc) (ls : Array Slot), zs_S G A s.heap H locs (wX8 G aMd Md mt) → lv_has ls 8 [(0, .ref (aMd 0)), (1, .int x1), (2, .int x2), (3, .int x3), (4, .int x4)] → F_X8_busy_162 Md x1 x2 x3 x4 = some (rr, Md_) → W p l e RMX8_busy s m args below meth c H locs 0 0 (MQ below (zs_Qi G (wX8 G aMd Md_ mt) rr A) args s 0 0 A) (F0 m 162 ls []) := by
    intro Md x1 x2 x3 x4 H locs ls S hl hF
    unfold F_X8_busy_162 at hF
    refine lv_aload_n hx hb dX8_busy_162 rfl (lv_at hl 0 rfl) ?_
    refine zs_get C hK S 0 15 (Cn := RX8) (T := TX8) (N := 33) (ci := 8) rfl rfl (by decide) zn_X8_busy_X8 (List.mem_of_getElem? (i := 1) rfl) rfl dX8_busy_163 ?_
    refine lv_iload_n hx hb dX8_busy_166 rfl (lv_at hl 1 rfl) ?_
    refine lv_iload_n hx hb dX8_busy_167 rfl (lv_at hl 3 rfl) ?_
    obtain ⟨h1, hF⟩ := zs_ckS hF
    obtain ⟨Mdw2, e3⟩ : ∃ q : Ob, q = zs_up Md 7 (x1).toNatClampNeg x3 := ⟨_, rfl⟩
    have hF := zs_letS hF e3
    refine zs_iast C hK S 7 (ws' := wX8 G aMd Mdw2 mt) rfl h1 (by rw [e3]; rfl) dX8_busy_168 (fun H locs S => ?_)
    refine lv_iload hx hb dX8_busy_169 (lv_at hl 4 rfl) ?_
    refine lv_bipush (v := (-9 : Int32)) hx hb dX8_busy_171 (by decide) ?_
    refine lv_icmp_ne (tgt := 181) hx hb dX8_busy_173 (by decide) (fun c4 => ?_) (fun c4 => ?_)
    · have hF := zs_f hF c4
      refine lv_iload_n hx hb dX8_busy_181 rfl (lv_at hl 2 rfl) ?_
      refine lv_if_ne (tgt := 193) hx hb dX8_busy_182 (by decide) (fun c5 => ?_) (fun c5 => ?_)
      · have hF := zs_f hF c5
        refine lv_iload hx hb dX8_busy_193 (lv_at hl 4 rfl) ?_
        obtain ⟨e6, e7⟩ := zs_s2 hF
        exact zs_iretE C S e6 (by rw [e7]) dX8_busy_195
      · have hF := zs_t hF c5
        refine lv_iload hx hb dX8_busy_185 (lv_at hl 4 rfl) ?_
        obtain ⟨r8, f9, hF⟩ := zs_bdS hF
        refine zs_calliP S hA (zs_runS C hK hA S [.int x4] [] [] 1 (c_X8_many l G x4 H.size r8 f9) gX8_busy_X8_many rfl rfl rfl zd_X8_many ⟨Nat.le_of_ble_eq_true rfl, Nat.le_of_ble_eq_true rfl⟩ rfl rfl rfl hl rfl (Nat.le_of_ble_eq_true rfl) dX8_busy_187 ⟨Nat.le_of_ble_eq_true rfl, Nat.le_of_ble_eq_true rfl⟩) (fun H locs S => ?_)
        refine lv_goto (tgt := 195) hx hb dX8_busy_190 (by decide) ?_
        obtain ⟨e10, e11⟩ := zs_s2 hF
        exact zs_iretE C S e10 (by rw [e11]) dX8_busy_195
    · have hF := zs_t hF c4
      refine lv_bipush (v := (-9 : Int32)) hx hb dX8_busy_176 (by decide) ?_
      refine lv_goto (tgt := 195) hx hb dX8_busy_178 (by decide) ?_
      obtain ⟨e12, e13⟩ := zs_s2 hF
      exact zs_iretE C S e12 (by rw [e13]) dX8_busy_195
  have j34 : ∀ (n34 : Nat) (Md : Ob) (x1 : Int32) (x2 : Int32) (x3 : Int32) (x4 : Int32) (x5 : Int32) (H : Heap) (locs : List Loc) (ls : Array Slot), zs_S G A s.heap H locs (wX8 G aMd Md mt) → lv_has ls 8 [(0, .ref (aMd 0)), (1, .int x1), (2, .int x2), (3, .int x3), (4, .int x4), (5, .int x5)] → F_X8_busy_34 n34 Md x1 x2 x3 x4 x5 = some (rr, Md_) → W p l e RMX8_busy s m args below meth c H locs 0 0 (MQ below (zs_Qi G (wX8 G aMd Md_ mt) rr A) args s 0 0 A) (F0 m 34 ls []) := by
    intro n34
    induction n34 with
    | zero => intro Md x1 x2 x3 x4 x5 H locs ls _ _ hF; rw [F_X8_busy_34_z] at hF; cases hF
    | succ n34 ih34 =>
      have j154 : ∀ (Md : Ob) (x1 : Int32) (x2 : Int32) (x3 : Int32) (x5 : Int32) (y0 : Int32) (H : Heap) (locs : List Loc) (ls : Array Slot), zs_S G A s.heap H locs (wX8 G aMd Md mt) → lv_has ls 8 [(0, .ref (aMd 0)), (1, .int x1), (2, .int x2), (3, .int x3), (5, .int x5)] → F_X8_busy_154 (F_X8_busy_34 n34) Md x1 x2 x3 x5 y0 = some (rr, Md_) → W p l e RMX8_busy s m args below meth c H locs 0 0 (MQ below (zs_Qi G (wX8 G aMd Md_ mt) rr A) args s 0 0 A) (F0 m 154 ls [.int y0]) := by
        intro Md x1 x2 x3 x5 y0 H locs ls S hl hF
        unfold F_X8_busy_154 at hF
        refine lv_istore (lv' := [(4, .int y0), (0, .ref (aMd 0)), (1, .int x1), (2, .int x2), (3, .int x3), (5, .int x5)]) hx hb dX8_busy_154 hl (by decide) rfl (fun ls hl => ?_)
        obtain ⟨z14, e15⟩ : ∃ q : Int32, q = x5 + (1 : Int32) := ⟨_, rfl⟩
        have hF := zs_letS hF e15
        refine lv_iinc (v := z14) (lv' := [(5, .int z14), (4, .int y0), (0, .ref (aMd 0)), (1, .int x1), (2, .int x2), (3, .int x3)]) hx hb dX8_busy_156 hl (k := 5) rfl (by rw [e15]; rfl) (by decide) rfl (fun ls hl => ?_)
        refine lv_goto (tgt := 34) hx hb dX8_busy_159 (by decide) ?_
        exact ih34 Md x1 x2 x3 y0 z14 _ _ _ S (lv_sub hl [2, 3, 4, 5, 1, 0] rfl) hF
      have j142 : ∀ (Md : Ob) (x1 : Int32) (x2 : Int32) (x3 : Int32) (x4 : Int32) (x5 : Int32) (x6 : Int32) (H : Heap) (locs : List Loc) (ls : Array Slot), zs_S G A s.heap H locs (wX8 G aMd Md mt) → lv_has ls 8 [(0, .ref (aMd 0)), (1, .int x1), (2, .int x2), (3, .int x3), (4, .int x4), (5, .int x5), (6, .int x6)] → F_X8_busy_142 (F_X8_busy_34 n34) Md x1 x2 x3 x4 x5 x6 = some (rr, Md_) → W p l e RMX8_busy s m args below meth c H locs 0 0 (MQ below (zs_Qi G (wX8 G aMd Md_ mt) rr A) args s 0 0 A) (F0 m 142 ls []) := by
        intro Md x1 x2 x3 x4 x5 x6 H locs ls S hl hF
        unfold F_X8_busy_142 at hF
        refine lv_iload hx hb dX8_busy_142 (lv_at hl 6 rfl) ?_
        refine lv_if_eq (tgt := 152) hx hb dX8_busy_144 (by decide) (fun c16 => ?_) (fun c16 => ?_)
        · have hF := zs_t hF c16
          refine lv_iload hx hb dX8_busy_152 (lv_at hl 4 rfl) ?_
          exact j154 Md x1 x2 x3 x5 x4 _ _ _ S (lv_sub hl [0, 1, 2, 3, 5] rfl) hF
        · have hF := zs_f hF c16
          refine lv_iload hx hb dX8_busy_147 (lv_at hl 5 rfl) ?_
          refine lv_goto (tgt := 154) hx hb dX8_busy_149 (by decide) ?_
          exact j154 Md x1 x2 x3 x5 x5 _ _ _ S (lv_sub hl [0, 1, 2, 3, 5] rfl) hF
      have j84 : ∀ (n84 : Nat) (Md : Ob) (x1 : Int32) (x2 : Int32) (x3 : Int32) (x4 : Int32) (x5 : Int32) (x6 : Int32) (x7 : Int32) (H : Heap) (locs : List Loc) (ls : Array Slot), zs_S G A s.heap H locs (wX8 G aMd Md mt) → lv_has ls 8 [(0, .ref (aMd 0)), (1, .int x1), (2, .int x2), (3, .int x3), (4, .int x4), (5, .int x5), (6, .int x6), (7, .int x7)] → F_X8_busy_84 (F_X8_busy_34 n34) n84 Md x1 x2 x3 x4 x5 x6 x7 = some (rr, Md_) → W p l e RMX8_busy s m args below meth c H locs 0 0 (MQ below (zs_Qi G (wX8 G aMd Md_ mt) rr A) args s 0 0 A) (F0 m 84 ls []) := by
        intro n84
        induction n84 with
        | zero => intro Md x1 x2 x3 x4 x5 x6 x7 H locs ls _ _ hF; rw [F_X8_busy_84_z] at hF; cases hF
        | succ n84 ih84 =>
          have j134 : ∀ (Md : Ob) (x1 : Int32) (x2 : Int32) (x3 : Int32) (x4 : Int32) (x5 : Int32) (x7 : Int32) (y0 : Int32) (H : Heap) (locs : List Loc) (ls : Array Slot), zs_S G A s.heap H locs (wX8 G aMd Md mt) → lv_has ls 8 [(0, .ref (aMd 0)), (1, .int x1), (2, .int x2), (3, .int x3), (4, .int x4), (5, .int x5), (7, .int x7)] → F_X8_busy_134 (F_X8_busy_34 n34) (F_X8_busy_84 (F_X8_busy_34 n34) n84) Md x1 x2 x3 x4 x5 x7 y0 = some (rr, Md_) → W p l e RMX8_busy s m args below meth c H locs 0 0 (MQ below (zs_Qi G (wX8 G aMd Md_ mt) rr A) args s 0 0 A) (F0 m 134 ls [.int y0]) := by
            intro Md x1 x2 x3 x4 x5 x7 y0 H locs ls S hl hF
            unfold F_X8_busy_134 at hF
            refine lv_istore (lv' := [(6, .int y0), (0, .ref (aMd 0)), (1, .int x1), (2, .int x2), (3, .int x3), (4, .int x4), (5, .int x5), (7, .int x7)]) hx hb dX8_busy_134 hl (by decide) rfl (fun ls hl => ?_)
            obtain ⟨z17, e18⟩ : ∃ q : Int32, q = x7 + (1 : Int32) := ⟨_, rfl⟩
            have hF := zs_letS hF e18
            refine lv_iinc (v := z17) (lv' := [(7, .int z17), (6, .int y0), (0, .ref (aMd 0)), (1, .int x1), (2, .int x2), (3, .int x3), (4, .int x4), (5, .int x5)]) hx hb dX8_busy_136 hl (k := 7) rfl (by rw [e18]; rfl) (by decide) rfl (fun ls hl => ?_)
            refine lv_goto (tgt := 84) hx hb dX8_busy_139 (by decide) ?_
            exact ih84 Md x1 x2 x3 x4 x5 y0 z17 _ _ _ S (lv_sub hl [2, 3, 4, 5, 6, 7, 1, 0] rfl) hF
          intro Md x1 x2 x3 x4 x5 x6 x7 H locs ls S hl hF
          rw [F_X8_busy_84_n] at hF
          unfold F_X8_busy_84_s at hF
          refine lv_iload hx hb dX8_busy_84 (lv_at hl 7 rfl) ?_
          refine lv_bipush (v := (16 : Int32)) hx hb dX8_busy_86 (by decide) ?_
          refine lv_icmp_ge (tgt := 142) hx hb dX8_busy_88 (by decide) (fun c19 => ?_) (fun c19 => ?_)
          · have hF := zs_t hF c19
            exact j142 Md x1 x2 x3 x4 x5 x6 _ _ _ S (lv_sub hl [0, 1, 2, 3, 4, 5, 6] rfl) hF
          · have hF := zs_f hF c19
            refine lv_iload hx hb dX8_busy_91 (lv_at hl 6 rfl) ?_
            refine lv_if_eq (tgt := 142) hx hb dX8_busy_93 (by decide) (fun c20 => ?_) (fun c20 => ?_)
            · have hF := zs_t hF c20
              exact j142 Md x1 x2 x3 x4 x5 x6 _ _ _ S (lv_sub hl [0, 1, 2, 3, 4, 5, 6] rfl) hF
            · have hF := zs_f hF c20
              refine lv_aload_n hx hb dX8_busy_96 rfl (lv_at hl 0 rfl) ?_
              refine lv_aload_n hx hb dX8_busy_97 rfl (lv_at hl 0 rfl) ?_
              refine zs_get C hK S 0 25 (Cn := RX8) (T := TX8) (N := 33) (ci := 8) rfl rfl (by decide) zn_X8_busy_X8 (List.mem_of_getElem? (i := 2) rfl) rfl dX8_busy_98 ?_
              refine lv_aload_n hx hb dX8_busy_101 rfl (lv_at hl 0 rfl) ?_
              refine zs_get C hK S 0 18 (Cn := RX8) (T := TX8) (N := 33) (ci := 8) rfl rfl (by decide) zn_X8_busy_X8 (List.mem_of_getElem? (i := 3) rfl) rfl dX8_busy_102 ?_
              refine lv_iload hx hb dX8_busy_105 (lv_at hl 7 rfl) ?_
              refine lv_iadd hx hb dX8_busy_107 ?_
              refine lv_aload_n hx hb dX8_busy_108 rfl (lv_at hl 0 rfl) ?_
              refine zs_get C hK S 0 19 (Cn := RX8) (T := TX8) (N := 33) (ci := 8) rfl rfl (by decide) zn_X8_busy_X8 (List.mem_of_getElem? (i := 4) rfl) rfl dX8_busy_109 ?_
              refine lv_aload_n hx hb dX8_busy_112 rfl (lv_at hl 0 rfl) ?_
              refine zs_get C hK S 0 20 (Cn := RX8) (T := TX8) (N := 33) (ci := 8) rfl rfl (by decide) zn_X8_busy_X8 (List.mem_of_getElem? (i := 5) rfl) rfl dX8_busy_113 ?_
              obtain ⟨r21, Mdw22, f23, hF⟩ := zs_b2S hF
              refine zs_calli (wr := ([] : va_W)) (ws' := wX8 G aMd Mdw22 mt) S hA [0, 1, 2, 3, 4, 5, 6, 7, 8, 9, 10, 11, 12, 13, 14, 15, 16, 17] [] [0, 1, 2, 3, 4, 5, 6, 7, 8, 9, 10, 11, 12, 13, 14, 15, 16, 17] (zs_runV C hK hA S [.ref (aMd 12), .int ((Md 0 18) + x7), .int (Md 0 19), .int (Md 0 20)] [] [0, 1, 2, 3, 4, 5, 6, 7, 8, 9, 10, 11, 12, 13, 14, 15, 16, 17] 0 4 (c_X8_goes_row l G aMd Md mt (((Md 0 18) + x7)) ((Md 0 19)) ((Md 0 20)) H.size r21 Mdw22 f23) gX8_busy_X8_goes rfl rfl rfl zd_X8_goes ⟨Nat.le_of_ble_eq_true rfl, Nat.le_of_ble_eq_true rfl⟩ rfl rfl rfl rfl rfl hl rfl (Nat.le_of_ble_eq_true rfl) dX8_busy_116 ⟨Nat.le_of_ble_eq_true rfl, Nat.le_of_ble_eq_true rfl⟩) rfl rfl rfl (by decide) rfl rfl (fun H locs S => ?_)
              refine lv_pop hx hb dX8_busy_119 rfl ?_
              refine lv_aload_n hx hb dX8_busy_120 rfl (lv_at hl 0 rfl) ?_
              obtain ⟨r24, f25, hF⟩ := zs_bdS hF
              refine zs_calli (wr := ([] : va_W)) (ws' := wX8 G aMd Mdw22 mt) S hA [0, 1, 2, 3, 4, 5, 6, 7, 8, 9, 10, 11, 12, 13, 14, 15, 16, 17] [] [0, 1, 2, 3, 4, 5, 6, 7, 8, 9, 10, 11, 12, 13, 14, 15, 16, 17] (zs_runV C hK hA S [] [] [0, 1, 2, 3, 4, 5, 6, 7, 8, 9, 10, 11, 12, 13, 14, 15, 16, 17] 0 0 (c_X8_tooWarm l G aMd Mdw22 mt H.size r24 f25) gX8_busy_X8_tooWarm rfl rfl rfl zd_X8_tooWarm ⟨Nat.le_of_ble_eq_true rfl, Nat.le_of_ble_eq_true rfl⟩ rfl rfl rfl rfl rfl hl rfl (Nat.le_of_ble_eq_true rfl) dX8_busy_121 ⟨Nat.le_of_ble_eq_true rfl, Nat.le_of_ble_eq_true rfl⟩) rfl rfl rfl (by decide) rfl rfl (fun H locs S => ?_)
              refine lv_bipush (v := (-9 : Int32)) hx hb dX8_busy_124 (by decide) ?_
              refine lv_icmp_ne (tgt := 133) hx hb dX8_busy_126 (by decide) (fun c26 => ?_) (fun c26 => ?_)
              · have hF := zs_f hF c26
                refine lv_iconst (v := (0 : Int32)) hx hb dX8_busy_133 (by decide) ?_
                exact j134 Mdw22 x1 x2 x3 x4 x5 x7 (0 : Int32) _ _ _ S (lv_sub hl [0, 1, 2, 3, 4, 5, 7] rfl) hF
              · have hF := zs_t hF c26
                refine lv_iconst (v := (1 : Int32)) hx hb dX8_busy_129 (by decide) ?_
                refine lv_goto (tgt := 134) hx hb dX8_busy_130 (by decide) ?_
                exact j134 Mdw22 x1 x2 x3 x4 x5 x7 (1 : Int32) _ _ _ S (lv_sub hl [0, 1, 2, 3, 4, 5, 7] rfl) hF
      have j79 : ∀ (Md : Ob) (x1 : Int32) (x2 : Int32) (x3 : Int32) (x4 : Int32) (x5 : Int32) (y0 : Int32) (H : Heap) (locs : List Loc) (ls : Array Slot), zs_S G A s.heap H locs (wX8 G aMd Md mt) → lv_has ls 8 [(0, .ref (aMd 0)), (1, .int x1), (2, .int x2), (3, .int x3), (4, .int x4), (5, .int x5)] → F_X8_busy_79 (F_X8_busy_34 n34) Md x1 x2 x3 x4 x5 y0 = some (rr, Md_) → W p l e RMX8_busy s m args below meth c H locs 0 0 (MQ below (zs_Qi G (wX8 G aMd Md_ mt) rr A) args s 0 0 A) (F0 m 79 ls [.int y0]) := by
        intro Md x1 x2 x3 x4 x5 y0 H locs ls S hl hF
        unfold F_X8_busy_79 at hF
        refine lv_istore (lv' := [(6, .int y0), (0, .ref (aMd 0)), (1, .int x1), (2, .int x2), (3, .int x3), (4, .int x4), (5, .int x5)]) hx hb dX8_busy_79 hl (by decide) rfl (fun ls hl => ?_)
        refine lv_iconst (v := (0 : Int32)) hx hb dX8_busy_81 (by decide) ?_
        refine lv_istore (lv' := [(7, .int (0 : Int32)), (6, .int y0), (0, .ref (aMd 0)), (1, .int x1), (2, .int x2), (3, .int x3), (4, .int x4), (5, .int x5)]) hx hb dX8_busy_82 hl (by decide) rfl (fun ls hl => ?_)
        exact j84 1000 Md x1 x2 x3 x4 x5 y0 (0 : Int32) _ _ _ S (lv_sub hl [2, 3, 4, 5, 6, 7, 1, 0] rfl) hF
      have j74 : ∀ (Md : Ob) (x1 : Int32) (x2 : Int32) (x3 : Int32) (x4 : Int32) (x5 : Int32) (H : Heap) (locs : List Loc) (ls : Array Slot), zs_S G A s.heap H locs (wX8 G aMd Md mt) → lv_has ls 8 [(0, .ref (aMd 0)), (1, .int x1), (2, .int x2), (3, .int x3), (4, .int x4), (5, .int x5)] → F_X8_busy_74 (F_X8_busy_34 n34) Md x1 x2 x3 x4 x5 = some (rr, Md_) → W p l e RMX8_busy s m args below meth c H locs 0 0 (MQ below (zs_Qi G (wX8 G aMd Md_ mt) rr A) args s 0 0 A) (F0 m 74 ls []) := by
        intro Md x1 x2 x3 x4 x5 H locs ls S hl hF
        unfold F_X8_busy_74 at hF
        refine lv_iconst (v := (1 : Int32)) hx hb dX8_busy_74 (by decide) ?_
        refine lv_goto (tgt := 79) hx hb dX8_busy_75 (by decide) ?_
        exact j79 Md x1 x2 x3 x4 x5 (1 : Int32) _ _ _ S (lv_sub hl [0, 1, 2, 3, 4, 5] rfl) hF
      intro Md x1 x2 x3 x4 x5 H locs ls S hl hF
      rw [F_X8_busy_34_n] at hF
      unfold F_X8_busy_34_s at hF
      refine lv_iload hx hb dX8_busy_34 (lv_at hl 5 rfl) ?_
      refine lv_sipush (v := (256 : Int32)) hx hb dX8_busy_36 (by decide) ?_
      refine lv_icmp_ge (tgt := 162) hx hb dX8_busy_39 (by decide) (fun c27 => ?_) (fun c27 => ?_)
      · have hF := zs_t hF c27
        exact j162 Md x1 x2 x3 x4 _ _ _ S (lv_sub hl [0, 1, 2, 3, 4] rfl) hF
      · have hF := zs_f hF c27
        refine lv_aload_n hx hb dX8_busy_42 rfl (lv_at hl 0 rfl) ?_
        refine zs_get C hK S 0 15 (Cn := RX8) (T := TX8) (N := 33) (ci := 8) rfl rfl (by decide) zn_X8_busy_X8 (List.mem_of_getElem? (i := 1) rfl) rfl dX8_busy_43 ?_
        refine lv_iload_n hx hb dX8_busy_46 rfl (lv_at hl 1 rfl) ?_
        refine lv_iload hx hb dX8_busy_47 (lv_at hl 5 rfl) ?_
        obtain ⟨h28, hF⟩ := zs_ckS hF
        obtain ⟨Mdw29, e30⟩ : ∃ q : Ob, q = zs_up Md 7 (x1).toNatClampNeg x5 := ⟨_, rfl⟩
        have hF := zs_letS hF e30
        refine zs_iast C hK S 7 (ws' := wX8 G aMd Mdw29 mt) rfl h28 (by rw [e30]; rfl) dX8_busy_49 (fun H locs S => ?_)
        refine lv_aload_n hx hb dX8_busy_50 rfl (lv_at hl 0 rfl) ?_
        obtain ⟨Mdw31, f32, hF⟩ := zs_bdS hF
        refine zs_callv (wr := ([] : va_W)) (ws' := wX8 G aMd Mdw31 mt) S hA [0, 1, 2, 3, 4, 5, 6, 7, 8, 9, 10, 11, 12, 13, 14, 15, 16, 17] [] [0, 1, 2, 3, 4, 5, 6, 7, 8, 9, 10, 11, 12, 13, 14, 15, 16, 17] (zs_runV C hK hA S [] [] [0, 1, 2, 3, 4, 5, 6, 7, 8, 9, 10, 11, 12, 13, 14, 15, 16, 17] 0 0 (c_X8_begins l G aMd Mdw29 mt H.size Mdw31 f32) gX8_busy_X8_begins rfl rfl rfl zd_X8_begins ⟨Nat.le_of_ble_eq_true rfl, Nat.le_of_ble_eq_true rfl⟩ rfl rfl rfl rfl rfl hl rfl (Nat.le_of_ble_eq_true rfl) dX8_busy_51 ⟨Nat.le_of_ble_eq_true rfl, Nat.le_of_ble_eq_true rfl⟩) rfl rfl rfl (by decide) rfl rfl (fun H locs S => ?_)
        refine lv_iload hx hb dX8_busy_54 (lv_at hl 4 rfl) ?_
        refine lv_bipush (v := (-9 : Int32)) hx hb dX8_busy_56 (by decide) ?_
        refine lv_icmp_eq (tgt := 74) hx hb dX8_busy_58 (by decide) (fun c33 => ?_) (fun c33 => ?_)
        · have hF := zs_t hF c33
          exact j74 Mdw31 x1 x2 x3 x4 x5 _ _ _ S (lv_sub hl [0, 1, 2, 3, 4, 5] rfl) hF
        · have hF := zs_f hF c33
          refine lv_iload hx hb dX8_busy_61 (lv_at hl 5 rfl) ?_
          obtain ⟨r34, f35, hF⟩ := zs_bdS hF
          refine zs_calliP S hA (zs_runS C hK hA S [.int x5] [] [] 1 (c_X8_many l G x5 H.size r34 f35) gX8_busy_X8_many rfl rfl rfl zd_X8_many ⟨Nat.le_of_ble_eq_true rfl, Nat.le_of_ble_eq_true rfl⟩ rfl rfl rfl hl rfl (Nat.le_of_ble_eq_true rfl) dX8_busy_63 ⟨Nat.le_of_ble_eq_true rfl, Nat.le_of_ble_eq_true rfl⟩) (fun H locs S => ?_)
          refine lv_iload hx hb dX8_busy_66 (lv_at hl 4 rfl) ?_
          obtain ⟨r36, f37, hF⟩ := zs_bdS hF
          refine zs_calliP S hA (zs_runS C hK hA S [.int x4] [.int r34] [] 1 (c_X8_many l G x4 H.size r36 f37) gX8_busy_X8_many rfl rfl rfl zd_X8_many ⟨Nat.le_of_ble_eq_true rfl, Nat.le_of_ble_eq_true rfl⟩ rfl rfl rfl hl rfl (Nat.le_of_ble_eq_true rfl) dX8_busy_68 ⟨Nat.le_of_ble_eq_true rfl, Nat.le_of_ble_eq_true rfl⟩) (fun H locs S => ?_)
          refine lv_icmp_le (tgt := 78) hx hb dX8_busy_71 (by decide) (fun c38 => ?_) (fun c38 => ?_)
          · have hF := zs_t hF c38
            refine lv_iconst (v := (0 : Int32)) hx hb dX8_busy_78 (by decide) ?_
            exact j79 Mdw31 x1 x2 x3 x4 x5 (0 : Int32) _ _ _ S (lv_sub hl [0, 1, 2, 3, 4, 5] rfl) hF
          · have hF := zs_f hF c38
            exact j74 Mdw31 x1 x2 x3 x4 x5 _ _ _ S (lv_sub hl [0, 1, 2, 3, 4, 5] rfl) hF
  refine lv_aload_n hx hb dX8_busy_0 rfl (lv_at hl 0 rfl) ?_
  refine lv_iload_n hx hb dX8_busy_1 rfl (lv_at hl 1 rfl) ?_
  obtain ⟨r39, f40, hF⟩ := zs_bdS hF
  refine zs_calli (wr := ([] : va_W)) (ws' := wX8 G aMd Md mt) S hA [0, 1, 2, 3, 4, 5, 6, 7, 8, 9, 10, 11, 12, 13, 14, 15, 16, 17] [] [0, 1, 2, 3, 4, 5, 6, 7, 8, 9, 10, 11, 12, 13, 14, 15, 16, 17] (zs_runV C hK hA S [.int u1] [] [0, 1, 2, 3, 4, 5, 6, 7, 8, 9, 10, 11, 12, 13, 14, 15, 16, 17] 0 1 (c_X8_isWall l G aMd Md mt u1 s.heap.size r39 f40) gX8_busy_X8_isWall rfl rfl rfl zd_X8_isWall ⟨Nat.le_of_ble_eq_true rfl, Nat.le_of_ble_eq_true rfl⟩ rfl rfl rfl rfl rfl hl rfl (Nat.le_of_ble_eq_true rfl) dX8_busy_2 ⟨Nat.le_of_ble_eq_true rfl, Nat.le_of_ble_eq_true rfl⟩) rfl rfl rfl (by decide) rfl rfl (fun H locs S => ?_)
  refine lv_if_eq (tgt := 18) hx hb dX8_busy_5 (by decide) (fun c41 => ?_) (fun c41 => ?_)
  · have hF := zs_t hF c41
    refine lv_iconst (v := (-1 : Int32)) hx hb dX8_busy_18 (by decide) ?_
    obtain ⟨e42, e43⟩ := zs_s2 hF
    exact zs_iretE C S e42 (by rw [e43]) dX8_busy_19
  · have hF := zs_f hF c41
    refine lv_iload_n hx hb dX8_busy_8 rfl (lv_at hl 2 rfl) ?_
    refine lv_i2l (v := ((u2).toInt64)) hx hb dX8_busy_9 rfl ?_
    refine lv_lconst (v := (0 : Int64)) hx hb dX8_busy_10 rfl ?_
    refine lv_lconst (v := (1 : Int64)) hx hb dX8_busy_11 rfl ?_
    obtain ⟨r44, f45, hF⟩ := zs_bdS hF
    refine zs_calliP S hA (zs_runS C hK hA S [.long ((u2).toInt64), .long (0 : Int64), .long (1 : Int64)] [] [] 3 (c_X8_in l G (((u2).toInt64)) ((0 : Int64)) ((1 : Int64)) H.size r44 f45) gX8_busy_X8_in rfl rfl rfl zd_X8_in ⟨Nat.le_of_ble_eq_true rfl, Nat.le_of_ble_eq_true rfl⟩ rfl rfl rfl hl rfl (Nat.le_of_ble_eq_true rfl) dX8_busy_12 ⟨Nat.le_of_ble_eq_true rfl, Nat.le_of_ble_eq_true rfl⟩) (fun H locs S => ?_)
    refine lv_if_ne (tgt := 20) hx hb dX8_busy_15 (by decide) (fun c46 => ?_) (fun c46 => ?_)
    · have hF := zs_f hF c46
      refine lv_aload_n hx hb dX8_busy_20 rfl (lv_at hl 0 rfl) ?_
      refine zs_get C hK S 0 15 (Cn := RX8) (T := TX8) (N := 33) (ci := 8) rfl rfl (by decide) zn_X8_busy_X8 (List.mem_of_getElem? (i := 1) rfl) rfl dX8_busy_21 ?_
      refine lv_iload_n hx hb dX8_busy_24 rfl (lv_at hl 1 rfl) ?_
      obtain ⟨h47, hF⟩ := zs_ckS hF
      refine zs_iald C hK S 7 rfl h47 dX8_busy_25 ?_
      refine lv_topi (fun z48 e49 => ?_)
      have hF := zs_letS hF e49
      refine lv_istore_n (lv' := [(3, .int z48), (0, .ref (aMd 0)), (1, .int u1), (2, .int u2)]) hx hb dX8_busy_26 rfl hl (by decide) rfl (fun ls hl => ?_)
      refine lv_bipush (v := (-9 : Int32)) hx hb dX8_busy_27 (by decide) ?_
      refine lv_istore (lv' := [(4, .int (-9 : Int32)), (3, .int z48), (0, .ref (aMd 0)), (1, .int u1), (2, .int u2)]) hx hb dX8_busy_29 hl (by decide) rfl (fun ls hl => ?_)
      refine lv_iconst (v := (0 : Int32)) hx hb dX8_busy_31 (by decide) ?_
      refine lv_istore (lv' := [(5, .int (0 : Int32)), (4, .int (-9 : Int32)), (3, .int z48), (0, .ref (aMd 0)), (1, .int u1), (2, .int u2)]) hx hb dX8_busy_32 hl (by decide) rfl (fun ls hl => ?_)
      exact j34 1000 Md u1 u2 z48 (-9 : Int32) (0 : Int32) _ _ _ S (lv_sub hl [3, 4, 5, 2, 1, 0] rfl) hF
    · have hF := zs_t hF c46
      refine lv_iconst (v := (-1 : Int32)) hx hb dX8_busy_18 (by decide) ?_
      obtain ⟨e50, e51⟩ := zs_s2 hF
      exact zs_iretE C S e50 (by rw [e51]) dX8_busy_19

abbrev RMX8_blanket : Room := { frames := 2, cells := 0, slots := 0, locals := 56 }
theorem zn_X8_blanket_X8 : ∀ w ∈ wsX80, w ∈ wsX8_blanket := zs_inl wsX80 [37, 38, 39, 40, 41, 42, 43, 44, 45, 46, 47, 48, 49, 50, 51, 52, 53, 54, 55, 56, 57, 58, 59, 60, 61, 62, 63, 64, 65, 66, 67, 68, 69] (by decide +kernel)
set_option maxRecDepth 100000 in
set_option maxHeartbeats 4000000 in
theorem c_X8_blanket (l : Launch) (G : GG) (aMd : Ad) (Md : Ob) (mt : Int64) (u1 : Int32) (u2 : Int32) (u3 : Int32) (sz : Nat) (rr : Int32) (Md_ : Ob) (hF : F_X8_blanket Md u1 u2 u3 = some (rr, Md_)) : Met l yX8_blanket wsX8_blanket RMX8_blanket (va_Pc [.ref (aMd 0), .int u1, .int u2, .int u3] (zs_pre G (wX8 G aMd Md mt) sz)) (zs_Qi G (wX8 G aMd Md_ mt) rr (va_A (wX8 G aMd Md mt) sz)) 0 0 (va_A (wX8 G aMd Md mt) sz) := by
  refine zs_met (cc := cX8_blanket) (maxL := 7) (ret := (some .int)) (own := RX8) (Qc := zs_Qi G (wX8 G aMd Md_ mt) rr) (by decide) rfl rfl (Nat.le_of_ble_eq_true rfl) ?_
  intro p e s m args below meth c C A hK hA S _ _ ls hl
  have hl : lv_has ls 7 [(0, .ref (aMd 0)), (1, .int u1), (2, .int u2), (3, .int u3)] := hl
  have hx := C.1.1
  have hb := C.1.2.1
  unfold F_X8_blanket at hF
  have j41 : ∀ (n41 : Nat) (Md : Ob) (x1 : Int32) (x2 : Int32) (x3 : Int32) (x4 : Int32) (x5 : Int32) (H : Heap) (locs : List Loc) (ls : Array Slot), zs_S G A s.heap H locs (wX8 G aMd Md mt) → lv_has ls 7 [(0, .ref (aMd 0)), (1, .int x1), (2, .int x2), (3, .int x3), (4, .int x4), (5, .int x5)] → F_X8_blanket_41 n41 Md x1 x2 x3 x4 x5 = some (rr, Md_) → W p l e RMX8_blanket s m args below meth c H locs 0 0 (MQ below (zs_Qi G (wX8 G aMd Md_ mt) rr A) args s 0 0 A) (F0 m 41 ls []) := by
    intro n41
    induction n41 with
    | zero => intro Md x1 x2 x3 x4 x5 H locs ls _ _ hF; rw [F_X8_blanket_41_z] at hF; cases hF
    | succ n41 ih41 =>
      have j137 : ∀ (Md : Ob) (x1 : Int32) (x2 : Int32) (x3 : Int32) (x4 : Int32) (x5 : Int32) (H : Heap) (locs : List Loc) (ls : Array Slot), zs_S G A s.heap H locs (wX8 G aMd Md mt) → lv_has ls 7 [(0, .ref (aMd 0)), (1, .int x1), (2, .int x2), (3, .int x3), (4, .int x4), (5, .int x5)] → F_X8_blanket_137 (F_X8_blanket_41 n41) Md x1 x2 x3 x4 x5 = some (rr, Md_) → W p l e RMX8_blanket s m args below meth c H locs 0 0 (MQ below (zs_Qi G (wX8 G aMd Md_ mt) rr A) args s 0 0 A) (F0 m 137 ls []) := by
        intro Md x1 x2 x3 x4 x5 H locs ls S hl hF
        unfold F_X8_blanket_137 at hF
        obtain ⟨z1, e2⟩ : ∃ q : Int32, q = x5 + (1 : Int32) := ⟨_, rfl⟩
        have hF := zs_letS hF e2
        refine lv_iinc (v := z1) (lv' := [(5, .int z1), (0, .ref (aMd 0)), (1, .int x1), (2, .int x2), (3, .int x3), (4, .int x4)]) hx hb dX8_blanket_137 hl (k := 5) rfl (by rw [e2]; rfl) (by decide) rfl (fun ls hl => ?_)
        refine lv_goto (tgt := 41) hx hb dX8_blanket_140 (by decide) ?_
        exact ih41 Md x1 x2 x3 x4 z1 _ _ _ S (lv_sub hl [1, 2, 3, 4, 5, 0] rfl) hF
      have j135 : ∀ (Md : Ob) (x1 : Int32) (x2 : Int32) (x3 : Int32) (x5 : Int32) (y0 : Int32) (H : Heap) (locs : List Loc) (ls : Array Slot), zs_S G A s.heap H locs (wX8 G aMd Md mt) → lv_has ls 7 [(0, .ref (aMd 0)), (1, .int x1), (2, .int x2), (3, .int x3), (5, .int x5)] → F_X8_blanket_135 (F_X8_blanket_41 n41) Md x1 x2 x3 x5 y0 = some (rr, Md_) → W p l e RMX8_blanket s m args below meth c H locs 0 0 (MQ below (zs_Qi G (wX8 G aMd Md_ mt) rr A) args s 0 0 A) (F0 m 135 ls [.int y0]) := by
        intro Md x1 x2 x3 x5 y0 H locs ls S hl hF
        unfold F_X8_blanket_135 at hF
        refine lv_istore (lv' := [(4, .int y0), (0, .ref (aMd 0)), (1, .int x1), (2, .int x2), (3, .int x3), (5, .int x5)]) hx hb dX8_blanket_135 hl (by decide) rfl (fun ls hl => ?_)
        exact j137 Md x1 x2 x3 y0 x5 _ _ _ S (lv_sub hl [1, 2, 3, 4, 0, 5] rfl) hF
      have j91 : ∀ (Md : Ob) (x1 : Int32) (x2 : Int32) (x3 : Int32) (x4 : Int32) (x5 : Int32) (y0 : Int32) (H : Heap) (locs : List Loc) (ls : Array Slot), zs_S G A s.heap H locs (wX8 G aMd Md mt) → lv_has ls 7 [(0, .ref (aMd 0)), (1, .int x1), (2, .int x2), (3, .int x3), (4, .int x4), (5, .int x5)] → F_X8_blanket_91 (F_X8_blanket_41 n41) Md x1 x2 x3 x4 x5 y0 = some (rr, Md_) → W p l e RMX8_blanket s m args below meth c H locs 0 0 (MQ below (zs_Qi G (wX8 G aMd Md_ mt) rr A) args s 0 0 A) (F0 m 91 ls [.int y0]) := by
        intro Md x1 x2 x3 x4 x5 y0 H locs ls S hl hF
        unfold F_X8_blanket_91 at hF
        refine lv_istore (lv' := [(6, .int y0), (0, .ref (aMd 0)), (1, .int x1), (2, .int x2), (3, .int x3), (4, .int x4), (5, .int x5)]) hx hb dX8_blanket_91 hl (by decide) rfl (fun ls hl => ?_)
        refine lv_iload hx hb dX8_blanket_93 (lv_at hl 0 rfl) ?_
        refine lv_if_eq (tgt := 137) hx hb dX8_blanket_95 (by decide) (fun c3 => ?_) (fun c3 => ?_)
        · have hF := zs_t hF c3
          exact j137 Md x1 x2 x3 x4 x5 _ _ _ S (lv_sub hl [1, 2, 3, 4, 5, 6] rfl) hF
        · have hF := zs_f hF c3
          refine lv_aload_n hx hb dX8_blanket_98 rfl (lv_at hl 1 rfl) ?_
          obtain ⟨Mdw4, f5, hF⟩ := zs_bdS hF
          refine zs_callv (wr := ([] : va_W)) (ws' := wX8 G aMd Mdw4 mt) S hA [0, 1, 2, 3, 4, 5, 6, 7, 8, 9, 10, 11, 12, 13, 14, 15, 16, 17] [] [0, 1, 2, 3, 4, 5, 6, 7, 8, 9, 10, 11, 12, 13, 14, 15, 16, 17] (zs_runV C hK hA S [] [] [0, 1, 2, 3, 4, 5, 6, 7, 8, 9, 10, 11, 12, 13, 14, 15, 16, 17] 0 0 (c_X8_begins l G aMd Md mt H.size Mdw4 f5) gX8_blanket_X8_begins rfl rfl rfl zd_X8_begins ⟨Nat.le_of_ble_eq_true rfl, Nat.le_of_ble_eq_true rfl⟩ rfl rfl rfl rfl rfl hl rfl (Nat.le_of_ble_eq_true rfl) dX8_blanket_99 ⟨Nat.le_of_ble_eq_true rfl, Nat.le_of_ble_eq_true rfl⟩) rfl rfl rfl (by decide) rfl rfl (fun H locs S => ?_)
          refine lv_aload_n hx hb dX8_blanket_102 rfl (lv_at hl 1 rfl) ?_
          refine lv_iload_n hx hb dX8_blanket_103 rfl (lv_at hl 4 rfl) ?_
          refine lv_aload_n hx hb dX8_blanket_104 rfl (lv_at hl 1 rfl) ?_
          refine zs_get C hK S 0 19 (Cn := RX8) (T := TX8) (N := 33) (ci := 8) rfl rfl (by decide) zn_X8_blanket_X8 (List.mem_of_getElem? (i := 5) rfl) rfl dX8_blanket_105 ?_
          refine lv_aload_n hx hb dX8_blanket_108 rfl (lv_at hl 1 rfl) ?_
          refine zs_get C hK S 0 20 (Cn := RX8) (T := TX8) (N := 33) (ci := 8) rfl rfl (by decide) zn_X8_blanket_X8 (List.mem_of_getElem? (i := 4) rfl) rfl dX8_blanket_109 ?_
          refine lv_iload hx hb dX8_blanket_112 (lv_at hl 6 rfl) ?_
          refine lv_ior hx hb dX8_blanket_114 ?_
          obtain ⟨Mdw6, f7, hF⟩ := zs_bdS hF
          refine zs_callv (wr := ([] : va_W)) (ws' := wX8 G aMd Mdw6 mt) S hA [0, 1, 2, 3, 4, 5, 6, 7, 8, 9, 10, 11, 12, 13, 14, 15, 16, 17] [] [0, 1, 2, 3, 4, 5, 6, 7, 8, 9, 10, 11, 12, 13, 14, 15, 16, 17] (zs_runV C hK hA S [.int x3, .int (Mdw4 0 19), .int ((Mdw4 0 20) ||| x5)] [] [0, 1, 2, 3, 4, 5, 6, 7, 8, 9, 10, 11, 12, 13, 14, 15, 16, 17] 0 3 (c_X8_passes l G aMd Mdw4 mt x3 ((Mdw4 0 19)) (((Mdw4 0 20) ||| x5)) H.size Mdw6 f7) gX8_blanket_X8_passes rfl rfl rfl zd_X8_passes ⟨Nat.le_of_ble_eq_true rfl, Nat.le_of_ble_eq_true rfl⟩ rfl rfl rfl rfl rfl hl rfl (Nat.le_of_ble_eq_true rfl) dX8_blanket_115 ⟨Nat.le_of_ble_eq_true rfl, Nat.le_of_ble_eq_true rfl⟩) rfl rfl rfl (by decide) rfl rfl (fun H locs S => ?_)
          refine lv_aload_n hx hb dX8_blanket_118 rfl (lv_at hl 1 rfl) ?_
          refine zs_get C hK S 0 25 (Cn := RX8) (T := TX8) (N := 33) (ci := 8) rfl rfl (by decide) zn_X8_blanket_X8 (List.mem_of_getElem? (i := 6) rfl) rfl dX8_blanket_119 ?_
          refine lv_iload_n hx hb dX8_blanket_122 rfl (lv_at hl 2 rfl) ?_
          obtain ⟨h8, hF⟩ := zs_ckS hF
          refine zs_iald C hK S 12 rfl h8 dX8_blanket_123 ?_
          refine lv_iload_n hx hb dX8_blanket_124 rfl (lv_at hl 3 rfl) ?_
          refine lv_icmp_lt (tgt := 133) hx hb dX8_blanket_125 (by decide) (fun c9 => ?_) (fun c9 => ?_)
          · have hF := zs_t hF c9
            refine lv_iload hx hb dX8_blanket_133 (lv_at hl 5 rfl) ?_
            exact j135 Mdw6 x1 x2 x3 x5 x4 _ _ _ S (lv_sub hl [1, 2, 3, 4, 6] rfl) hF
          · have hF := zs_f hF c9
            refine lv_iload hx hb dX8_blanket_128 (lv_at hl 6 rfl) ?_
            refine lv_goto (tgt := 135) hx hb dX8_blanket_130 (by decide) ?_
            exact j135 Mdw6 x1 x2 x3 x5 x5 _ _ _ S (lv_sub hl [1, 2, 3, 4, 6] rfl) hF
      have j90 : ∀ (Md : Ob) (x1 : Int32) (x2 : Int32) (x3 : Int32) (x4 : Int32) (x5 : Int32) (H : Heap) (locs : List Loc) (ls : Array Slot), zs_S G A s.heap H locs (wX8 G aMd Md mt) → lv_has ls 7 [(0, .ref (aMd 0)), (1, .int x1), (2, .int x2), (3, .int x3), (4, .int x4), (5, .int x5)] → F_X8_blanket_90 (F_X8_blanket_41 n41) Md x1 x2 x3 x4 x5 = some (rr, Md_) → W p l e RMX8_blanket s m args below meth c H locs 0 0 (MQ below (zs_Qi G (wX8 G aMd Md_ mt) rr A) args s 0 0 A) (F0 m 90 ls []) := by
        intro Md x1 x2 x3 x4 x5 H locs ls S hl hF
        unfold F_X8_blanket_90 at hF
        refine lv_iconst (v := (0 : Int32)) hx hb dX8_blanket_90 (by decide) ?_
        exact j91 Md x1 x2 x3 x4 x5 (0 : Int32) _ _ _ S (lv_sub hl [0, 1, 2, 3, 4, 5] rfl) hF
      have j86 : ∀ (Md : Ob) (x1 : Int32) (x2 : Int32) (x3 : Int32) (x4 : Int32) (x5 : Int32) (H : Heap) (locs : List Loc) (ls : Array Slot), zs_S G A s.heap H locs (wX8 G aMd Md mt) → lv_has ls 7 [(0, .ref (aMd 0)), (1, .int x1), (2, .int x2), (3, .int x3), (4, .int x4), (5, .int x5)] → F_X8_blanket_86 (F_X8_blanket_41 n41) Md x1 x2 x3 x4 x5 = some (rr, Md_) → W p l e RMX8_blanket s m args below meth c H locs 0 0 (MQ below (zs_Qi G (wX8 G aMd Md_ mt) rr A) args s 0 0 A) (F0 m 86 ls []) := by
        intro Md x1 x2 x3 x4 x5 H locs ls S hl hF
        unfold F_X8_blanket_86 at hF
        refine lv_iconst (v := (1 : Int32)) hx hb dX8_blanket_86 (by decide) ?_
        refine lv_goto (tgt := 91) hx hb dX8_blanket_87 (by decide) ?_
        exact j91 Md x1 x2 x3 x4 x5 (1 : Int32) _ _ _ S (lv_sub hl [0, 1, 2, 3, 4, 5] rfl) hF
      intro Md x1 x2 x3 x4 x5 H locs ls S hl hF
      rw [F_X8_blanket_41_n] at hF
      unfold F_X8_blanket_41_s at hF
      refine lv_iload hx hb dX8_blanket_41 (lv_at hl 5 rfl) ?_
      refine lv_iconst (v := (1 : Int32)) hx hb dX8_blanket_43 (by decide) ?_
      refine lv_aload_n hx hb dX8_blanket_44 rfl (lv_at hl 0 rfl) ?_
      refine zs_get C hK S 0 10 (Cn := RX8) (T := TX8) (N := 33) (ci := 8) rfl rfl (by decide) zn_X8_blanket_X8 (List.mem_of_getElem? (i := 3) rfl) rfl dX8_blanket_45 ?_
      refine lv_ishl hx hb dX8_blanket_48 ?_
      refine lv_icmp_ge (tgt := 143) hx hb dX8_blanket_49 (by decide) (fun c10 => ?_) (fun c10 => ?_)
      · have hF := zs_t hF c10
        refine lv_iload hx hb dX8_blanket_143 (lv_at hl 4 rfl) ?_
        obtain ⟨e11, e12⟩ := zs_s2 hF
        exact zs_iretE C S e11 (by rw [e12]) dX8_blanket_145
      · have hF := zs_f hF c10
        refine lv_iload hx hb dX8_blanket_52 (lv_at hl 5 rfl) ?_
        refine lv_aload_n hx hb dX8_blanket_54 rfl (lv_at hl 0 rfl) ?_
        refine zs_get C hK S 0 20 (Cn := RX8) (T := TX8) (N := 33) (ci := 8) rfl rfl (by decide) zn_X8_blanket_X8 (List.mem_of_getElem? (i := 4) rfl) rfl dX8_blanket_55 ?_
        refine lv_iconst (v := (1 : Int32)) hx hb dX8_blanket_58 (by decide) ?_
        refine lv_iload_n hx hb dX8_blanket_59 rfl (lv_at hl 1 rfl) ?_
        refine lv_ishl hx hb dX8_blanket_60 ?_
        refine lv_ior hx hb dX8_blanket_61 ?_
        refine lv_iand hx hb dX8_blanket_62 ?_
        refine lv_if_ne (tgt := 90) hx hb dX8_blanket_63 (by decide) (fun c13 => ?_) (fun c13 => ?_)
        · have hF := zs_f hF c13
          exact j90 Md x1 x2 x3 x4 x5 _ _ _ S (lv_sub hl [0, 1, 2, 3, 4, 5] rfl) hF
        · have hF := zs_t hF c13
          refine lv_iload hx hb dX8_blanket_66 (lv_at hl 4 rfl) ?_
          refine lv_bipush (v := (-9 : Int32)) hx hb dX8_blanket_68 (by decide) ?_
          refine lv_icmp_eq (tgt := 86) hx hb dX8_blanket_70 (by decide) (fun c14 => ?_) (fun c14 => ?_)
          · have hF := zs_t hF c14
            exact j86 Md x1 x2 x3 x4 x5 _ _ _ S (lv_sub hl [0, 1, 2, 3, 4, 5] rfl) hF
          · have hF := zs_f hF c14
            refine lv_iload hx hb dX8_blanket_73 (lv_at hl 5 rfl) ?_
            obtain ⟨r15, f16, hF⟩ := zs_bdS hF
            refine zs_calliP S hA (zs_runS C hK hA S [.int x5] [] [] 1 (c_X8_many l G x5 H.size r15 f16) gX8_blanket_X8_many rfl rfl rfl zd_X8_many ⟨Nat.le_of_ble_eq_true rfl, Nat.le_of_ble_eq_true rfl⟩ rfl rfl rfl hl rfl (Nat.le_of_ble_eq_true rfl) dX8_blanket_75 ⟨Nat.le_of_ble_eq_true rfl, Nat.le_of_ble_eq_true rfl⟩) (fun H locs S => ?_)
            refine lv_iload hx hb dX8_blanket_78 (lv_at hl 4 rfl) ?_
            obtain ⟨r17, f18, hF⟩ := zs_bdS hF
            refine zs_calliP S hA (zs_runS C hK hA S [.int x4] [.int r15] [] 1 (c_X8_many l G x4 H.size r17 f18) gX8_blanket_X8_many rfl rfl rfl zd_X8_many ⟨Nat.le_of_ble_eq_true rfl, Nat.le_of_ble_eq_true rfl⟩ rfl rfl rfl hl rfl (Nat.le_of_ble_eq_true rfl) dX8_blanket_80 ⟨Nat.le_of_ble_eq_true rfl, Nat.le_of_ble_eq_true rfl⟩) (fun H locs S => ?_)
            refine lv_icmp_ge (tgt := 90) hx hb dX8_blanket_83 (by decide) (fun c19 => ?_) (fun c19 => ?_)
            · have hF := zs_t hF c19
              exact j90 Md x1 x2 x3 x4 x5 _ _ _ S (lv_sub hl [0, 1, 2, 3, 4, 5] rfl) hF
            · have hF := zs_f hF c19
              exact j86 Md x1 x2 x3 x4 x5 _ _ _ S (lv_sub hl [0, 1, 2, 3, 4, 5] rfl) hF
  refine lv_aload_n hx hb dX8_blanket_0 rfl (lv_at hl 0 rfl) ?_
  refine lv_iload_n hx hb dX8_blanket_1 rfl (lv_at hl 1 rfl) ?_
  obtain ⟨r20, f21, hF⟩ := zs_bdS hF
  refine zs_calli (wr := ([] : va_W)) (ws' := wX8 G aMd Md mt) S hA [0, 1, 2, 3, 4, 5, 6, 7, 8, 9, 10, 11, 12, 13, 14, 15, 16, 17] [] [0, 1, 2, 3, 4, 5, 6, 7, 8, 9, 10, 11, 12, 13, 14, 15, 16, 17] (zs_runV C hK hA S [.int u1] [] [0, 1, 2, 3, 4, 5, 6, 7, 8, 9, 10, 11, 12, 13, 14, 15, 16, 17] 0 1 (c_X8_isWall l G aMd Md mt u1 s.heap.size r20 f21) gX8_blanket_X8_isWall rfl rfl rfl zd_X8_isWall ⟨Nat.le_of_ble_eq_true rfl, Nat.le_of_ble_eq_true rfl⟩ rfl rfl rfl rfl rfl hl rfl (Nat.le_of_ble_eq_true rfl) dX8_blanket_2 ⟨Nat.le_of_ble_eq_true rfl, Nat.le_of_ble_eq_true rfl⟩) rfl rfl rfl (by decide) rfl rfl (fun H locs S => ?_)
  refine lv_if_eq (tgt := 32) hx hb dX8_blanket_5 (by decide) (fun c22 => ?_) (fun c22 => ?_)
  · have hF := zs_t hF c22
    refine lv_iconst (v := (-1 : Int32)) hx hb dX8_blanket_32 (by decide) ?_
    obtain ⟨e23, e24⟩ := zs_s2 hF
    exact zs_iretE C S e23 (by rw [e24]) dX8_blanket_33
  · have hF := zs_f hF c22
    refine lv_iload_n hx hb dX8_blanket_8 rfl (lv_at hl 2 rfl) ?_
    refine lv_i2l (v := ((u2).toInt64)) hx hb dX8_blanket_9 rfl ?_
    refine lv_lconst (v := (0 : Int64)) hx hb dX8_blanket_10 rfl ?_
    refine lv_ldc2 (v := (999 : Int64)) hx hb C.1.2.2.2.1 (C.1.2.2.2.2 (.constantLong RX8 205 (999 : Int64)) (List.mem_of_getElem? (i := 1) rfl)) dX8_blanket_11 ?_
    obtain ⟨r25, f26, hF⟩ := zs_bdS hF
    refine zs_calliP S hA (zs_runS C hK hA S [.long ((u2).toInt64), .long (0 : Int64), .long (999 : Int64)] [] [] 3 (c_X8_in l G (((u2).toInt64)) ((0 : Int64)) ((999 : Int64)) H.size r25 f26) gX8_blanket_X8_in rfl rfl rfl zd_X8_in ⟨Nat.le_of_ble_eq_true rfl, Nat.le_of_ble_eq_true rfl⟩ rfl rfl rfl hl rfl (Nat.le_of_ble_eq_true rfl) dX8_blanket_14 ⟨Nat.le_of_ble_eq_true rfl, Nat.le_of_ble_eq_true rfl⟩) (fun H locs S => ?_)
    refine lv_if_eq (tgt := 32) hx hb dX8_blanket_17 (by decide) (fun c27 => ?_) (fun c27 => ?_)
    · have hF := zs_t hF c27
      refine lv_iconst (v := (-1 : Int32)) hx hb dX8_blanket_32 (by decide) ?_
      obtain ⟨e28, e29⟩ := zs_s2 hF
      exact zs_iretE C S e28 (by rw [e29]) dX8_blanket_33
    · have hF := zs_f hF c27
      refine lv_iload_n hx hb dX8_blanket_20 rfl (lv_at hl 3 rfl) ?_
      refine lv_i2l (v := ((u3).toInt64)) hx hb dX8_blanket_21 rfl ?_
      refine lv_lconst (v := (0 : Int64)) hx hb dX8_blanket_22 rfl ?_
      refine lv_ldc2 (v := (20 : Int64)) hx hb C.1.2.2.2.1 (C.1.2.2.2.2 (.constantLong RX8 203 (20 : Int64)) (List.mem_of_getElem? (i := 2) rfl)) dX8_blanket_23 ?_
      obtain ⟨r30, f31, hF⟩ := zs_bdS hF
      refine zs_calliP S hA (zs_runS C hK hA S [.long ((u3).toInt64), .long (0 : Int64), .long (20 : Int64)] [] [] 3 (c_X8_in l G (((u3).toInt64)) ((0 : Int64)) ((20 : Int64)) H.size r30 f31) gX8_blanket_X8_in rfl rfl rfl zd_X8_in ⟨Nat.le_of_ble_eq_true rfl, Nat.le_of_ble_eq_true rfl⟩ rfl rfl rfl hl rfl (Nat.le_of_ble_eq_true rfl) dX8_blanket_26 ⟨Nat.le_of_ble_eq_true rfl, Nat.le_of_ble_eq_true rfl⟩) (fun H locs S => ?_)
      refine lv_if_ne (tgt := 34) hx hb dX8_blanket_29 (by decide) (fun c32 => ?_) (fun c32 => ?_)
      · have hF := zs_f hF c32
        refine lv_bipush (v := (-9 : Int32)) hx hb dX8_blanket_34 (by decide) ?_
        refine lv_istore (lv' := [(4, .int (-9 : Int32)), (0, .ref (aMd 0)), (1, .int u1), (2, .int u2), (3, .int u3)]) hx hb dX8_blanket_36 hl (by decide) rfl (fun ls hl => ?_)
        refine lv_iconst (v := (0 : Int32)) hx hb dX8_blanket_38 (by decide) ?_
        refine lv_istore (lv' := [(5, .int (0 : Int32)), (4, .int (-9 : Int32)), (0, .ref (aMd 0)), (1, .int u1), (2, .int u2), (3, .int u3)]) hx hb dX8_blanket_39 hl (by decide) rfl (fun ls hl => ?_)
        exact j41 1000 Md u1 u2 u3 (-9 : Int32) (0 : Int32) _ _ _ S (lv_sub hl [2, 3, 4, 5, 1, 0] rfl) hF
      · have hF := zs_t hF c32
        refine lv_iconst (v := (-1 : Int32)) hx hb dX8_blanket_32 (by decide) ?_
        obtain ⟨e33, e34⟩ := zs_s2 hF
        exact zs_iretE C S e33 (by rw [e34]) dX8_blanket_33

abbrev RMX8_sumWith : Room := { frames := 1, cells := 0, slots := 0, locals := 32 }
theorem zn_X8_sumWith_X8 : ∀ w ∈ wsX80, w ∈ wsX8_sumWith := zs_inl wsX80 [21, 22, 23, 24, 25, 26, 27, 28, 29, 30, 31, 32, 33, 34, 35, 36, 37, 38, 39, 40, 41, 42, 43, 44, 45, 46, 47, 48, 49, 50, 51, 52, 53] (by decide +kernel)
set_option maxRecDepth 100000 in
set_option maxHeartbeats 4000000 in
theorem c_X8_sumWith (l : Launch) (G : GG) (aMd : Ad) (Md : Ob) (mt : Int64) (u1 : Int32) (u2 : Int32) (sz : Nat) (rr : Int32) (Md_ : Ob) (hF : F_X8_sumWith Md u1 u2 = some (rr, Md_)) : Met l yX8_sumWith wsX8_sumWith RMX8_sumWith (va_Pc [.ref (aMd 0), .int u1, .int u2] (zs_pre G (wX8 G aMd Md mt) sz)) (zs_Qi G (wX8 G aMd Md_ mt) rr (va_A (wX8 G aMd Md mt) sz)) 0 0 (va_A (wX8 G aMd Md mt) sz) := by
  refine zs_met (cc := cX8_sumWith) (maxL := 5) (ret := (some .int)) (own := RX8) (Qc := zs_Qi G (wX8 G aMd Md_ mt) rr) (by decide) rfl rfl (Nat.le_of_ble_eq_true rfl) ?_
  intro p e s m args below meth c C A hK hA S _ _ ls hl
  have hl : lv_has ls 5 [(0, .ref (aMd 0)), (1, .int u1), (2, .int u2)] := hl
  have hx := C.1.1
  have hb := C.1.2.1
  unfold F_X8_sumWith at hF
  have j60 : ∀ (n60 : Nat) (Md : Ob) (x3 : Int32) (x4 : Int32) (H : Heap) (locs : List Loc) (ls : Array Slot), zs_S G A s.heap H locs (wX8 G aMd Md mt) → lv_has ls 5 [(0, .ref (aMd 0)), (3, .int x3), (4, .int x4)] → F_X8_sumWith_60 n60 Md x3 x4 = some (rr, Md_) → W p l e RMX8_sumWith s m args below meth c H locs 0 0 (MQ below (zs_Qi G (wX8 G aMd Md_ mt) rr A) args s 0 0 A) (F0 m 60 ls []) := by
    intro n60
    induction n60 with
    | zero => intro Md x3 x4 H locs ls _ _ hF; rw [F_X8_sumWith_60_z] at hF; cases hF
    | succ n60 ih60 =>
      intro Md x3 x4 H locs ls S hl hF
      rw [F_X8_sumWith_60_n] at hF
      unfold F_X8_sumWith_60_s at hF
      refine lv_iload hx hb dX8_sumWith_60 (lv_at hl 2 rfl) ?_
      refine lv_aload_n hx hb dX8_sumWith_62 rfl (lv_at hl 0 rfl) ?_
      refine zs_get C hK S 0 10 (Cn := RX8) (T := TX8) (N := 33) (ci := 8) rfl rfl (by decide) zn_X8_sumWith_X8 (List.mem_of_getElem? (i := 5) rfl) rfl dX8_sumWith_63 ?_
      refine lv_icmp_ge (tgt := 85) hx hb dX8_sumWith_66 (by decide) (fun c1 => ?_) (fun c1 => ?_)
      · have hF := zs_t hF c1
        refine lv_iload_n hx hb dX8_sumWith_85 rfl (lv_at hl 1 rfl) ?_
        obtain ⟨e2, e3⟩ := zs_s2 hF
        exact zs_iretE C S e2 (by rw [e3]) dX8_sumWith_86
      · have hF := zs_f hF c1
        refine lv_iload_n hx hb dX8_sumWith_69 rfl (lv_at hl 1 rfl) ?_
        refine lv_aload_n hx hb dX8_sumWith_70 rfl (lv_at hl 0 rfl) ?_
        refine zs_get C hK S 0 25 (Cn := RX8) (T := TX8) (N := 33) (ci := 8) rfl rfl (by decide) zn_X8_sumWith_X8 (List.mem_of_getElem? (i := 1) rfl) rfl dX8_sumWith_71 ?_
        refine lv_iload hx hb dX8_sumWith_74 (lv_at hl 2 rfl) ?_
        obtain ⟨h4, hF⟩ := zs_ckS hF
        refine zs_iald C hK S 12 rfl h4 dX8_sumWith_76 ?_
        refine lv_iadd hx hb dX8_sumWith_77 ?_
        refine lv_topi (fun z5 e6 => ?_)
        have hF := zs_letS hF e6
        refine lv_istore_n (lv' := [(3, .int z5), (0, .ref (aMd 0)), (4, .int x4)]) hx hb dX8_sumWith_78 rfl hl (by decide) rfl (fun ls hl => ?_)
        obtain ⟨z7, e8⟩ : ∃ q : Int32, q = x4 + (1 : Int32) := ⟨_, rfl⟩
        have hF := zs_letS hF e8
        refine lv_iinc (v := z7) (lv' := [(4, .int z7), (3, .int z5), (0, .ref (aMd 0))]) hx hb dX8_sumWith_79 hl (k := 2) rfl (by rw [e8]; rfl) (by decide) rfl (fun ls hl => ?_)
        refine lv_goto (tgt := 60) hx hb dX8_sumWith_82 (by decide) ?_
        exact ih60 Md z5 z7 _ _ _ S (lv_sub hl [2, 1, 0] rfl) hF
  have j55 : ∀ (Md : Ob) (H : Heap) (locs : List Loc) (ls : Array Slot), zs_S G A s.heap H locs (wX8 G aMd Md mt) → lv_has ls 5 [(0, .ref (aMd 0))] → F_X8_sumWith_55 Md = some (rr, Md_) → W p l e RMX8_sumWith s m args below meth c H locs 0 0 (MQ below (zs_Qi G (wX8 G aMd Md_ mt) rr A) args s 0 0 A) (F0 m 55 ls []) := by
    intro Md H locs ls S hl hF
    unfold F_X8_sumWith_55 at hF
    refine lv_iconst (v := (0 : Int32)) hx hb dX8_sumWith_55 (by decide) ?_
    refine lv_istore_n (lv' := [(3, .int (0 : Int32)), (0, .ref (aMd 0))]) hx hb dX8_sumWith_56 rfl hl (by decide) rfl (fun ls hl => ?_)
    refine lv_iconst (v := (0 : Int32)) hx hb dX8_sumWith_57 (by decide) ?_
    refine lv_istore (lv' := [(4, .int (0 : Int32)), (3, .int (0 : Int32)), (0, .ref (aMd 0))]) hx hb dX8_sumWith_58 hl (by decide) rfl (fun ls hl => ?_)
    exact j60 1000 Md (0 : Int32) (0 : Int32) _ _ _ S (lv_sub hl [2, 1, 0] rfl) hF
  have j6 : ∀ (n6 : Nat) (Md : Ob) (x1 : Int32) (x2 : Int32) (x3 : Int32) (H : Heap) (locs : List Loc) (ls : Array Slot), zs_S G A s.heap H locs (wX8 G aMd Md mt) → lv_has ls 5 [(0, .ref (aMd 0)), (1, .int x1), (2, .int x2), (3, .int x3)] → F_X8_sumWith_6 n6 Md x1 x2 x3 = some (rr, Md_) → W p l e RMX8_sumWith s m args below meth c H locs 0 0 (MQ below (zs_Qi G (wX8 G aMd Md_ mt) rr A) args s 0 0 A) (F0 m 6 ls []) := by
    intro n6
    induction n6 with
    | zero => intro Md x1 x2 x3 H locs ls _ _ hF; rw [F_X8_sumWith_6_z] at hF; cases hF
    | succ n6 ih6 =>
      have j49 : ∀ (Md : Ob) (x1 : Int32) (x2 : Int32) (x3 : Int32) (H : Heap) (locs : List Loc) (ls : Array Slot), zs_S G A s.heap H locs (wX8 G aMd Md mt) → lv_has ls 5 [(0, .ref (aMd 0)), (1, .int x1), (2, .int x2), (3, .int x3)] → F_X8_sumWith_49 (F_X8_sumWith_6 n6) Md x1 x2 x3 = some (rr, Md_) → W p l e RMX8_sumWith s m args below meth c H locs 0 0 (MQ below (zs_Qi G (wX8 G aMd Md_ mt) rr A) args s 0 0 A) (F0 m 49 ls []) := by
        intro Md x1 x2 x3 H locs ls S hl hF
        unfold F_X8_sumWith_49 at hF
        obtain ⟨z9, e10⟩ : ∃ q : Int32, q = x3 + (1 : Int32) := ⟨_, rfl⟩
        have hF := zs_letS hF e10
        refine lv_iinc (v := z9) (lv' := [(3, .int z9), (0, .ref (aMd 0)), (1, .int x1), (2, .int x2)]) hx hb dX8_sumWith_49 hl (k := 3) rfl (by rw [e10]; rfl) (by decide) rfl (fun ls hl => ?_)
        refine lv_goto (tgt := 6) hx hb dX8_sumWith_52 (by decide) ?_
        exact ih6 Md x1 x2 z9 _ _ _ S (lv_sub hl [1, 2, 3, 0] rfl) hF
      intro Md x1 x2 x3 H locs ls S hl hF
      rw [F_X8_sumWith_6_n] at hF
      unfold F_X8_sumWith_6_s at hF
      refine lv_iload_n hx hb dX8_sumWith_6 rfl (lv_at hl 3 rfl) ?_
      refine lv_bipush (v := (8 : Int32)) hx hb dX8_sumWith_7 (by decide) ?_
      refine lv_icmp_ge (tgt := 55) hx hb dX8_sumWith_9 (by decide) (fun c11 => ?_) (fun c11 => ?_)
      · have hF := zs_t hF c11
        exact j55 Md _ _ _ S (lv_sub hl [0] rfl) hF
      · have hF := zs_f hF c11
        refine lv_aload_n hx hb dX8_sumWith_12 rfl (lv_at hl 0 rfl) ?_
        refine lv_aload_n hx hb dX8_sumWith_13 rfl (lv_at hl 0 rfl) ?_
        refine zs_get C hK S 0 25 (Cn := RX8) (T := TX8) (N := 33) (ci := 8) rfl rfl (by decide) zn_X8_sumWith_X8 (List.mem_of_getElem? (i := 1) rfl) rfl dX8_sumWith_14 ?_
        refine lv_aload_n hx hb dX8_sumWith_17 rfl (lv_at hl 0 rfl) ?_
        refine zs_get C hK S 0 18 (Cn := RX8) (T := TX8) (N := 33) (ci := 8) rfl rfl (by decide) zn_X8_sumWith_X8 (List.mem_of_getElem? (i := 2) rfl) rfl dX8_sumWith_18 ?_
        refine lv_iload_n hx hb dX8_sumWith_21 rfl (lv_at hl 3 rfl) ?_
        refine lv_iadd hx hb dX8_sumWith_22 ?_
        refine lv_aload_n hx hb dX8_sumWith_23 rfl (lv_at hl 0 rfl) ?_
        refine zs_get C hK S 0 19 (Cn := RX8) (T := TX8) (N := 33) (ci := 8) rfl rfl (by decide) zn_X8_sumWith_X8 (List.mem_of_getElem? (i := 3) rfl) rfl dX8_sumWith_24 ?_
        refine lv_aload_n hx hb dX8_sumWith_27 rfl (lv_at hl 0 rfl) ?_
        refine zs_get C hK S 0 20 (Cn := RX8) (T := TX8) (N := 33) (ci := 8) rfl rfl (by decide) zn_X8_sumWith_X8 (List.mem_of_getElem? (i := 4) rfl) rfl dX8_sumWith_28 ?_
        obtain ⟨r12, Mdw13, f14, hF⟩ := zs_b2S hF
        refine zs_calli (wr := ([] : va_W)) (ws' := wX8 G aMd Mdw13 mt) S hA [0, 1, 2, 3, 4, 5, 6, 7, 8, 9, 10, 11, 12, 13, 14, 15, 16, 17] [] [0, 1, 2, 3, 4, 5, 6, 7, 8, 9, 10, 11, 12, 13, 14, 15, 16, 17] (zs_runV C hK hA S [.ref (aMd 12), .int ((Md 0 18) + x3), .int (Md 0 19), .int (Md 0 20)] [] [0, 1, 2, 3, 4, 5, 6, 7, 8, 9, 10, 11, 12, 13, 14, 15, 16, 17] 0 4 (c_X8_goes_row l G aMd Md mt (((Md 0 18) + x3)) ((Md 0 19)) ((Md 0 20)) H.size r12 Mdw13 f14) gX8_sumWith_X8_goes rfl rfl rfl zd_X8_goes ⟨Nat.le_of_ble_eq_true rfl, Nat.le_of_ble_eq_true rfl⟩ rfl rfl rfl rfl rfl hl rfl (Nat.le_of_ble_eq_true rfl) dX8_sumWith_31 ⟨Nat.le_of_ble_eq_true rfl, Nat.le_of_ble_eq_true rfl⟩) rfl rfl rfl (by decide) rfl rfl (fun H locs S => ?_)
        refine lv_pop hx hb dX8_sumWith_34 rfl ?_
        refine lv_iload_n hx hb dX8_sumWith_35 rfl (lv_at hl 1 rfl) ?_
        refine lv_if_lt (tgt := 49) hx hb dX8_sumWith_36 (by decide) (fun c15 => ?_) (fun c15 => ?_)
        · have hF := zs_t hF c15
          exact j49 Mdw13 x1 x2 x3 _ _ _ S (lv_sub hl [0, 1, 2, 3] rfl) hF
        · have hF := zs_f hF c15
          refine lv_aload_n hx hb dX8_sumWith_39 rfl (lv_at hl 0 rfl) ?_
          refine zs_get C hK S 0 25 (Cn := RX8) (T := TX8) (N := 33) (ci := 8) rfl rfl (by decide) zn_X8_sumWith_X8 (List.mem_of_getElem? (i := 1) rfl) rfl dX8_sumWith_40 ?_
          refine lv_iload_n hx hb dX8_sumWith_43 rfl (lv_at hl 1 rfl) ?_
          refine lv_dup2_11 hx hb dX8_sumWith_44 rfl rfl ?_
          obtain ⟨h16, hF⟩ := zs_ckS hF
          refine zs_iald C hK S 12 rfl h16 dX8_sumWith_45 ?_
          refine lv_iload_n hx hb dX8_sumWith_46 rfl (lv_at hl 2 rfl) ?_
          refine lv_iadd hx hb dX8_sumWith_47 ?_
          obtain ⟨h17, hF⟩ := zs_ckS hF
          obtain ⟨Mdw18, e19⟩ : ∃ q : Ob, q = zs_up Mdw13 12 (x1).toNatClampNeg ((Mdw13 12 (x1).toNatClampNeg) + x2) := ⟨_, rfl⟩
          have hF := zs_letS hF e19
          refine zs_iast C hK S 12 (ws' := wX8 G aMd Mdw18 mt) rfl h17 (by rw [e19]; rfl) dX8_sumWith_48 (fun H locs S => ?_)
          exact j49 Mdw18 x1 x2 x3 _ _ _ S (lv_sub hl [0, 1, 2, 3] rfl) hF
  refine lv_aload_n hx hb dX8_sumWith_0 rfl (lv_at hl 0 rfl) ?_
  obtain ⟨Mdw20, f21, hF⟩ := zs_bdS hF
  refine zs_callv (wr := ([] : va_W)) (ws' := wX8 G aMd Mdw20 mt) S hA [0, 1, 2, 3, 4, 5, 6, 7, 8, 9, 10, 11, 12, 13, 14, 15, 16, 17] [] [0, 1, 2, 3, 4, 5, 6, 7, 8, 9, 10, 11, 12, 13, 14, 15, 16, 17] (zs_runV C hK hA S [] [] [0, 1, 2, 3, 4, 5, 6, 7, 8, 9, 10, 11, 12, 13, 14, 15, 16, 17] 0 0 (c_X8_begins l G aMd Md mt s.heap.size Mdw20 f21) gX8_sumWith_X8_begins rfl rfl rfl zd_X8_begins ⟨Nat.le_of_ble_eq_true rfl, Nat.le_of_ble_eq_true rfl⟩ rfl rfl rfl rfl rfl hl rfl (Nat.le_of_ble_eq_true rfl) dX8_sumWith_1 ⟨Nat.le_of_ble_eq_true rfl, Nat.le_of_ble_eq_true rfl⟩) rfl rfl rfl (by decide) rfl rfl (fun H locs S => ?_)
  refine lv_iconst (v := (0 : Int32)) hx hb dX8_sumWith_4 (by decide) ?_
  refine lv_istore_n (lv' := [(3, .int (0 : Int32)), (0, .ref (aMd 0)), (1, .int u1), (2, .int u2)]) hx hb dX8_sumWith_5 rfl hl (by decide) rfl (fun ls hl => ?_)
  exact j6 1000 Mdw20 u1 u2 (0 : Int32) _ _ _ S (lv_sub hl [1, 2, 3, 0] rfl) hF

theorem zd_X8_sumWith : yX8_sumWith.cls = RX8 ∧ yX8_sumWith.cls ≠ "java/lang/invoke/MethodHandle" ∧ yX8_sumWith.cls ≠ "java/lang/invoke/VarHandle" ∧ (parseMethodDescriptor yX8_sumWith.desc).map (fun d => d.parameters.length) = some 2 := by decide +kernel
abbrev RMX8_harm : Room := { frames := 2, cells := 0, slots := 0, locals := 56 }
theorem zn_X8_harm_X8 : ∀ w ∈ wsX80, w ∈ wsX8_harm := zs_inl wsX80 [34, 35, 36, 37, 38, 39, 40, 41, 42, 43, 44, 45, 46, 47, 48, 49, 50, 51, 52, 53, 54, 55, 56, 57, 58, 59, 60, 61, 62, 63, 64, 65, 66] (by decide +kernel)
set_option maxRecDepth 100000 in
set_option maxHeartbeats 4000000 in
theorem c_X8_harm (l : Launch) (G : GG) (aMd : Ad) (Md : Ob) (mt : Int64) (u1 : Int32) (u2 : Int32) (sz : Nat) (rr : Int32) (Md_ : Ob) (hF : F_X8_harm Md u1 u2 = some (rr, Md_)) : Met l yX8_harm wsX8_harm RMX8_harm (va_Pc [.ref (aMd 0), .int u1, .int u2] (zs_pre G (wX8 G aMd Md mt) sz)) (zs_Qi G (wX8 G aMd Md_ mt) rr (va_A (wX8 G aMd Md mt) sz)) 0 0 (va_A (wX8 G aMd Md mt) sz) := by
  refine zs_met (cc := cX8_harm) (maxL := 8) (ret := (some .int)) (own := RX8) (Qc := zs_Qi G (wX8 G aMd Md_ mt) rr) (by decide) rfl rfl (Nat.le_of_ble_eq_true rfl) ?_
  intro p e s m args below meth c C A hK hA S _ _ ls hl
  have hl : lv_has ls 8 [(0, .ref (aMd 0)), (1, .int u1), (2, .int u2)] := hl
  have hx := C.1.1
  have hb := C.1.2.1
  unfold F_X8_harm at hF
  have j55 : ∀ (n55 : Nat) (Md : Ob) (x2 : Int32) (x3 : Int32) (x4 : Int32) (x5 : Int32) (H : Heap) (locs : List Loc) (ls : Array Slot), zs_S G A s.heap H locs (wX8 G aMd Md mt) → lv_has ls 8 [(0, .ref (aMd 0)), (2, .int x2), (3, .int x3), (4, .int x4), (5, .int x5)] → F_X8_harm_55 n55 Md x2 x3 x4 x5 = some (rr, Md_) → W p l e RMX8_harm s m args below meth c H locs 0 0 (MQ below (zs_Qi G (wX8 G aMd Md_ mt) rr A) args s 0 0 A) (F0 m 55 ls []) := by
    intro n55
    induction n55 with
    | zero => intro Md x2 x3 x4 x5 H locs ls _ _ hF; rw [F_X8_harm_55_z] at hF; cases hF
    | succ n55 ih55 =>
      have j117 : ∀ (Md : Ob) (x2 : Int32) (x3 : Int32) (x5 : Int32) (y0 : Int32) (H : Heap) (locs : List Loc) (ls : Array Slot), zs_S G A s.heap H locs (wX8 G aMd Md mt) → lv_has ls 8 [(0, .ref (aMd 0)), (2, .int x2), (3, .int x3), (5, .int x5)] → F_X8_harm_117 (F_X8_harm_55 n55) Md x2 x3 x5 y0 = some (rr, Md_) → W p l e RMX8_harm s m args below meth c H locs 0 0 (MQ below (zs_Qi G (wX8 G aMd Md_ mt) rr A) args s 0 0 A) (F0 m 117 ls [.int y0]) := by
        intro Md x2 x3 x5 y0 H locs ls S hl hF
        unfold F_X8_harm_117 at hF
        refine lv_istore (lv' := [(4, .int y0), (0, .ref (aMd 0)), (2, .int x2), (3, .int x3), (5, .int x5)]) hx hb dX8_harm_117 hl (by decide) rfl (fun ls hl => ?_)
        obtain ⟨z1, e2⟩ : ∃ q : Int32, q = x5 + (1 : Int32) := ⟨_, rfl⟩
        have hF := zs_letS hF e2
        refine lv_iinc (v := z1) (lv' := [(5, .int z1), (4, .int y0), (0, .ref (aMd 0)), (2, .int x2), (3, .int x3)]) hx hb dX8_harm_119 hl (k := 4) rfl (by rw [e2]; rfl) (by decide) rfl (fun ls hl => ?_)
        refine lv_goto (tgt := 55) hx hb dX8_harm_122 (by decide) ?_
        exact ih55 Md x2 x3 y0 z1 _ _ _ S (lv_sub hl [2, 3, 4, 1, 0] rfl) hF
      have j104 : ∀ (Md : Ob) (x2 : Int32) (x4 : Int32) (x5 : Int32) (x6 : Int32) (x7 : Int32) (y0 : Int32) (H : Heap) (locs : List Loc) (ls : Array Slot), zs_S G A s.heap H locs (wX8 G aMd Md mt) → lv_has ls 8 [(0, .ref (aMd 0)), (2, .int x2), (4, .int x4), (5, .int x5), (6, .int x6), (7, .int x7)] → F_X8_harm_104 (F_X8_harm_55 n55) Md x2 x4 x5 x6 x7 y0 = some (rr, Md_) → W p l e RMX8_harm s m args below meth c H locs 0 0 (MQ below (zs_Qi G (wX8 G aMd Md_ mt) rr A) args s 0 0 A) (F0 m 104 ls [.int y0]) := by
        intro Md x2 x4 x5 x6 x7 y0 H locs ls S hl hF
        unfold F_X8_harm_104 at hF
        refine lv_istore_n (lv' := [(3, .int y0), (0, .ref (aMd 0)), (2, .int x2), (4, .int x4), (5, .int x5), (6, .int x6), (7, .int x7)]) hx hb dX8_harm_104 rfl hl (by decide) rfl (fun ls hl => ?_)
        refine lv_iload hx hb dX8_harm_105 (lv_at hl 6 rfl) ?_
        refine lv_if_eq (tgt := 115) hx hb dX8_harm_107 (by decide) (fun c3 => ?_) (fun c3 => ?_)
        · have hF := zs_t hF c3
          refine lv_iload hx hb dX8_harm_115 (lv_at hl 3 rfl) ?_
          exact j117 Md x2 y0 x5 x4 _ _ _ S (lv_sub hl [1, 2, 0, 4] rfl) hF
        · have hF := zs_f hF c3
          refine lv_iload hx hb dX8_harm_110 (lv_at hl 5 rfl) ?_
          refine lv_goto (tgt := 117) hx hb dX8_harm_112 (by decide) ?_
          exact j117 Md x2 y0 x5 x6 _ _ _ S (lv_sub hl [1, 2, 0, 4] rfl) hF
      have j91 : ∀ (Md : Ob) (x2 : Int32) (x3 : Int32) (x4 : Int32) (x5 : Int32) (x6 : Int32) (y0 : Int32) (H : Heap) (locs : List Loc) (ls : Array Slot), zs_S G A s.heap H locs (wX8 G aMd Md mt) → lv_has ls 8 [(0, .ref (aMd 0)), (2, .int x2), (3, .int x3), (4, .int x4), (5, .int x5), (6, .int x6)] → F_X8_harm_91 (F_X8_harm_55 n55) Md x2 x3 x4 x5 x6 y0 = some (rr, Md_) → W p l e RMX8_harm s m args below meth c H locs 0 0 (MQ below (zs_Qi G (wX8 G aMd Md_ mt) rr A) args s 0 0 A) (F0 m 91 ls [.int y0]) := by
        intro Md x2 x3 x4 x5 x6 y0 H locs ls S hl hF
        unfold F_X8_harm_91 at hF
        refine lv_istore (lv' := [(7, .int y0), (0, .ref (aMd 0)), (2, .int x2), (3, .int x3), (4, .int x4), (5, .int x5), (6, .int x6)]) hx hb dX8_harm_91 hl (by decide) rfl (fun ls hl => ?_)
        refine lv_iload hx hb dX8_harm_93 (lv_at hl 0 rfl) ?_
        refine lv_if_eq (tgt := 103) hx hb dX8_harm_95 (by decide) (fun c4 => ?_) (fun c4 => ?_)
        · have hF := zs_t hF c4
          refine lv_iload_n hx hb dX8_harm_103 rfl (lv_at hl 3 rfl) ?_
          exact j104 Md x2 x4 x5 x6 y0 x3 _ _ _ S (lv_sub hl [1, 2, 4, 5, 6, 0] rfl) hF
        · have hF := zs_f hF c4
          refine lv_iload hx hb dX8_harm_98 (lv_at hl 5 rfl) ?_
          refine lv_goto (tgt := 104) hx hb dX8_harm_100 (by decide) ?_
          exact j104 Md x2 x4 x5 x6 y0 x5 _ _ _ S (lv_sub hl [1, 2, 4, 5, 6, 0] rfl) hF
      have j86 : ∀ (Md : Ob) (x2 : Int32) (x3 : Int32) (x4 : Int32) (x5 : Int32) (x6 : Int32) (H : Heap) (locs : List Loc) (ls : Array Slot), zs_S G A s.heap H locs (wX8 G aMd Md mt) → lv_has ls 8 [(0, .ref (aMd 0)), (2, .int x2), (3, .int x3), (4, .int x4), (5, .int x5), (6, .int x6)] → F_X8_harm_86 (F_X8_harm_55 n55) Md x2 x3 x4 x5 x6 = some (rr, Md_) → W p l e RMX8_harm s m args below meth c H locs 0 0 (MQ below (zs_Qi G (wX8 G aMd Md_ mt) rr A) args s 0 0 A) (F0 m 86 ls []) := by
        intro Md x2 x3 x4 x5 x6 H locs ls S hl hF
        unfold F_X8_harm_86 at hF
        refine lv_iconst (v := (1 : Int32)) hx hb dX8_harm_86 (by decide) ?_
        refine lv_goto (tgt := 91) hx hb dX8_harm_87 (by decide) ?_
        exact j91 Md x2 x3 x4 x5 x6 (1 : Int32) _ _ _ S (lv_sub hl [0, 1, 2, 3, 4, 5] rfl) hF
      intro Md x2 x3 x4 x5 H locs ls S hl hF
      rw [F_X8_harm_55_n] at hF
      unfold F_X8_harm_55_s at hF
      refine lv_iload hx hb dX8_harm_55 (lv_at hl 4 rfl) ?_
      refine lv_aload_n hx hb dX8_harm_57 rfl (lv_at hl 0 rfl) ?_
      refine zs_get C hK S 0 10 (Cn := RX8) (T := TX8) (N := 33) (ci := 8) rfl rfl (by decide) zn_X8_harm_X8 (List.mem_of_getElem? (i := 3) rfl) rfl dX8_harm_58 ?_
      refine lv_icmp_ge (tgt := 125) hx hb dX8_harm_61 (by decide) (fun c5 => ?_) (fun c5 => ?_)
      · have hF := zs_t hF c5
        refine lv_iload_n hx hb dX8_harm_125 rfl (lv_at hl 2 rfl) ?_
        obtain ⟨e6, e7⟩ := zs_s2 hF
        exact zs_iretE C S e6 (by rw [e7]) dX8_harm_126
      · have hF := zs_f hF c5
        refine lv_aload_n hx hb dX8_harm_64 rfl (lv_at hl 0 rfl) ?_
        refine lv_iload hx hb dX8_harm_65 (lv_at hl 4 rfl) ?_
        refine lv_iload_n hx hb dX8_harm_67 rfl (lv_at hl 1 rfl) ?_
        obtain ⟨r8, Mdw9, f10, hF⟩ := zs_b2S hF
        refine zs_calli (wr := ([] : va_W)) (ws' := wX8 G aMd Mdw9 mt) S hA [0, 1, 2, 3, 4, 5, 6, 7, 8, 9, 10, 11, 12, 13, 14, 15, 16, 17] [] [0, 1, 2, 3, 4, 5, 6, 7, 8, 9, 10, 11, 12, 13, 14, 15, 16, 17] (zs_runV C hK hA S [.int x5, .int x2] [] [0, 1, 2, 3, 4, 5, 6, 7, 8, 9, 10, 11, 12, 13, 14, 15, 16, 17] 0 2 (c_X8_sumWith l G aMd Md mt x5 x2 H.size r8 Mdw9 f10) gX8_harm_X8_sumWith rfl rfl rfl zd_X8_sumWith ⟨Nat.le_of_ble_eq_true rfl, Nat.le_of_ble_eq_true rfl⟩ rfl rfl rfl rfl rfl hl rfl (Nat.le_of_ble_eq_true rfl) dX8_harm_68 ⟨Nat.le_of_ble_eq_true rfl, Nat.le_of_ble_eq_true rfl⟩) rfl rfl rfl (by decide) rfl rfl (fun H locs S => ?_)
        refine lv_istore (lv' := [(6, .int r8), (0, .ref (aMd 0)), (2, .int x2), (3, .int x3), (4, .int x4), (5, .int x5)]) hx hb dX8_harm_71 hl (by decide) rfl (fun ls hl => ?_)
        refine lv_iload_n hx hb dX8_harm_73 rfl (lv_at hl 3 rfl) ?_
        refine lv_bipush (v := (-9 : Int32)) hx hb dX8_harm_74 (by decide) ?_
        refine lv_icmp_eq (tgt := 86) hx hb dX8_harm_76 (by decide) (fun c11 => ?_) (fun c11 => ?_)
        · have hF := zs_t hF c11
          exact j86 Mdw9 x2 x3 x4 x5 r8 _ _ _ S (lv_sub hl [1, 2, 3, 4, 5, 0] rfl) hF
        · have hF := zs_f hF c11
          refine lv_iload hx hb dX8_harm_79 (lv_at hl 0 rfl) ?_
          refine lv_iload hx hb dX8_harm_81 (lv_at hl 4 rfl) ?_
          refine lv_icmp_ge (tgt := 90) hx hb dX8_harm_83 (by decide) (fun c12 => ?_) (fun c12 => ?_)
          · have hF := zs_t hF c12
            refine lv_iconst (v := (0 : Int32)) hx hb dX8_harm_90 (by decide) ?_
            exact j91 Mdw9 x2 x3 x4 x5 r8 (0 : Int32) _ _ _ S (lv_sub hl [1, 2, 3, 4, 5, 0] rfl) hF
          · have hF := zs_f hF c12
            exact j86 Mdw9 x2 x3 x4 x5 r8 _ _ _ S (lv_sub hl [1, 2, 3, 4, 5, 0] rfl) hF
  have j25 : ∀ (Md : Ob) (H : Heap) (locs : List Loc) (ls : Array Slot), zs_S G A s.heap H locs (wX8 G aMd Md mt) → lv_has ls 8 [] → F_X8_harm_25 Md = some (rr, Md_) → W p l e RMX8_harm s m args below meth c H locs 0 0 (MQ below (zs_Qi G (wX8 G aMd Md_ mt) rr A) args s 0 0 A) (F0 m 25 ls []) := by
    intro Md H locs ls S hl hF
    unfold F_X8_harm_25 at hF
    refine lv_ldc (v := (-1000000 : Int32)) hx hb C.1.2.2.2.1 (C.1.2.2.2.2 (.constant RX8 207 (-1000000 : Int32)) (List.mem_of_getElem? (i := 2) rfl)) dX8_harm_25 ?_
    obtain ⟨e13, e14⟩ := zs_s2 hF
    exact zs_iretE C S e13 (by rw [e14]) dX8_harm_27
  have j13 : ∀ (Md : Ob) (x1 : Int32) (x2 : Int32) (H : Heap) (locs : List Loc) (ls : Array Slot), zs_S G A s.heap H locs (wX8 G aMd Md mt) → lv_has ls 8 [(0, .ref (aMd 0)), (1, .int x1), (2, .int x2)] → F_X8_harm_13 Md x1 x2 = some (rr, Md_) → W p l e RMX8_harm s m args below meth c H locs 0 0 (MQ below (zs_Qi G (wX8 G aMd Md_ mt) rr A) args s 0 0 A) (F0 m 13 ls []) := by
    intro Md x1 x2 H locs ls S hl hF
    unfold F_X8_harm_13 at hF
    refine lv_iload_n hx hb dX8_harm_13 rfl (lv_at hl 2 rfl) ?_
    refine lv_i2l (v := ((x2).toInt64)) hx hb dX8_harm_14 rfl ?_
    refine lv_lconst (v := (1 : Int64)) hx hb dX8_harm_15 rfl ?_
    refine lv_ldc2 (v := (50 : Int64)) hx hb C.1.2.2.2.1 (C.1.2.2.2.2 (.constantLong RX8 190 (50 : Int64)) (List.mem_of_getElem? (i := 1) rfl)) dX8_harm_16 ?_
    obtain ⟨r15, f16, hF⟩ := zs_bdS hF
    refine zs_calliP S hA (zs_runS C hK hA S [.long ((x2).toInt64), .long (1 : Int64), .long (50 : Int64)] [] [] 3 (c_X8_in l G (((x2).toInt64)) ((1 : Int64)) ((50 : Int64)) H.size r15 f16) gX8_harm_X8_in rfl rfl rfl zd_X8_in ⟨Nat.le_of_ble_eq_true rfl, Nat.le_of_ble_eq_true rfl⟩ rfl rfl rfl hl rfl (Nat.le_of_ble_eq_true rfl) dX8_harm_19 ⟨Nat.le_of_ble_eq_true rfl, Nat.le_of_ble_eq_true rfl⟩) (fun H locs S => ?_)
    refine lv_if_ne (tgt := 28) hx hb dX8_harm_22 (by decide) (fun c17 => ?_) (fun c17 => ?_)
    · have hF := zs_f hF c17
      refine lv_iload_n hx hb dX8_harm_28 rfl (lv_at hl 1 rfl) ?_
      refine lv_if_lt (tgt := 46) hx hb dX8_harm_29 (by decide) (fun c18 => ?_) (fun c18 => ?_)
      · have hF := zs_t hF c18
        refine lv_bipush (v := (-9 : Int32)) hx hb dX8_harm_46 (by decide) ?_
        refine lv_istore_n (lv' := [(3, .int (-9 : Int32)), (0, .ref (aMd 0)), (1, .int x1), (2, .int x2)]) hx hb dX8_harm_48 rfl hl (by decide) rfl (fun ls hl => ?_)
        refine lv_iconst (v := (0 : Int32)) hx hb dX8_harm_49 (by decide) ?_
        refine lv_istore (lv' := [(4, .int (0 : Int32)), (3, .int (-9 : Int32)), (0, .ref (aMd 0)), (1, .int x1), (2, .int x2)]) hx hb dX8_harm_50 hl (by decide) rfl (fun ls hl => ?_)
        refine lv_iconst (v := (0 : Int32)) hx hb dX8_harm_52 (by decide) ?_
        refine lv_istore (lv' := [(5, .int (0 : Int32)), (4, .int (0 : Int32)), (3, .int (-9 : Int32)), (0, .ref (aMd 0)), (1, .int x1), (2, .int x2)]) hx hb dX8_harm_53 hl (by decide) rfl (fun ls hl => ?_)
        exact j55 1000 Md x2 (-9 : Int32) (0 : Int32) (0 : Int32) _ _ _ S (lv_sub hl [3, 5, 2, 1, 0] rfl) hF
      · have hF := zs_f hF c18
        refine lv_aload_n hx hb dX8_harm_32 rfl (lv_at hl 0 rfl) ?_
        refine lv_iload_n hx hb dX8_harm_33 rfl (lv_at hl 1 rfl) ?_
        refine lv_iload_n hx hb dX8_harm_34 rfl (lv_at hl 2 rfl) ?_
        obtain ⟨r19, Mdw20, f21, hF⟩ := zs_b2S hF
        refine zs_calli (wr := ([] : va_W)) (ws' := wX8 G aMd Mdw20 mt) S hA [0, 1, 2, 3, 4, 5, 6, 7, 8, 9, 10, 11, 12, 13, 14, 15, 16, 17] [] [0, 1, 2, 3, 4, 5, 6, 7, 8, 9, 10, 11, 12, 13, 14, 15, 16, 17] (zs_runV C hK hA S [.int x1, .int x2] [] [0, 1, 2, 3, 4, 5, 6, 7, 8, 9, 10, 11, 12, 13, 14, 15, 16, 17] 0 2 (c_X8_sumWith l G aMd Md mt x1 x2 H.size r19 Mdw20 f21) gX8_harm_X8_sumWith rfl rfl rfl zd_X8_sumWith ⟨Nat.le_of_ble_eq_true rfl, Nat.le_of_ble_eq_true rfl⟩ rfl rfl rfl rfl rfl hl rfl (Nat.le_of_ble_eq_true rfl) dX8_harm_35 ⟨Nat.le_of_ble_eq_true rfl, Nat.le_of_ble_eq_true rfl⟩) rfl rfl rfl (by decide) rfl rfl (fun H locs S => ?_)
        refine lv_aload_n hx hb dX8_harm_38 rfl (lv_at hl 0 rfl) ?_
        refine lv_iconst (v := (-1 : Int32)) hx hb dX8_harm_39 (by decide) ?_
        refine lv_iconst (v := (0 : Int32)) hx hb dX8_harm_40 (by decide) ?_
        obtain ⟨r22, Mdw23, f24, hF⟩ := zs_b2S hF
        refine zs_calli (wr := ([] : va_W)) (ws' := wX8 G aMd Mdw23 mt) S hA [0, 1, 2, 3, 4, 5, 6, 7, 8, 9, 10, 11, 12, 13, 14, 15, 16, 17] [] [0, 1, 2, 3, 4, 5, 6, 7, 8, 9, 10, 11, 12, 13, 14, 15, 16, 17] (zs_runV C hK hA S [.int (-1 : Int32), .int (0 : Int32)] [.int r19] [0, 1, 2, 3, 4, 5, 6, 7, 8, 9, 10, 11, 12, 13, 14, 15, 16, 17] 0 2 (c_X8_sumWith l G aMd Mdw20 mt ((-1 : Int32)) ((0 : Int32)) H.size r22 Mdw23 f24) gX8_harm_X8_sumWith rfl rfl rfl zd_X8_sumWith ⟨Nat.le_of_ble_eq_true rfl, Nat.le_of_ble_eq_true rfl⟩ rfl rfl rfl rfl rfl hl rfl (Nat.le_of_ble_eq_true rfl) dX8_harm_41 ⟨Nat.le_of_ble_eq_true rfl, Nat.le_of_ble_eq_true rfl⟩) rfl rfl rfl (by decide) rfl rfl (fun H locs S => ?_)
        refine lv_isub hx hb dX8_harm_44 ?_
        obtain ⟨e25, e26⟩ := zs_s2 hF
        exact zs_iretE C S e25 (by rw [e26]) dX8_harm_45
    · have hF := zs_t hF c17
      exact j25 Md _ _ _ S (lv_sub hl [] rfl) hF
  refine lv_iload_n hx hb dX8_harm_0 rfl (lv_at hl 1 rfl) ?_
  refine lv_iconst (v := (-1 : Int32)) hx hb dX8_harm_1 (by decide) ?_
  refine lv_icmp_eq (tgt := 13) hx hb dX8_harm_2 (by decide) (fun c27 => ?_) (fun c27 => ?_)
  · have hF := zs_t hF c27
    exact j13 Md u1 u2 _ _ _ S (lv_sub hl [0, 1, 2] rfl) hF
  · have hF := zs_f hF c27
    refine lv_aload_n hx hb dX8_harm_5 rfl (lv_at hl 0 rfl) ?_
    refine lv_iload_n hx hb dX8_harm_6 rfl (lv_at hl 1 rfl) ?_
    obtain ⟨r28, f29, hF⟩ := zs_bdS hF
    refine zs_calli (wr := ([] : va_W)) (ws' := wX8 G aMd Md mt) S hA [0, 1, 2, 3, 4, 5, 6, 7, 8, 9, 10, 11, 12, 13, 14, 15, 16, 17] [] [0, 1, 2, 3, 4, 5, 6, 7, 8, 9, 10, 11, 12, 13, 14, 15, 16, 17] (zs_runV C hK hA S [.int u1] [] [0, 1, 2, 3, 4, 5, 6, 7, 8, 9, 10, 11, 12, 13, 14, 15, 16, 17] 0 1 (c_X8_isWall l G aMd Md mt u1 s.heap.size r28 f29) gX8_harm_X8_isWall rfl rfl rfl zd_X8_isWall ⟨Nat.le_of_ble_eq_true rfl, Nat.le_of_ble_eq_true rfl⟩ rfl rfl rfl rfl rfl hl rfl (Nat.le_of_ble_eq_true rfl) dX8_harm_7 ⟨Nat.le_of_ble_eq_true rfl, Nat.le_of_ble_eq_true rfl⟩) rfl rfl rfl (by decide) rfl rfl (fun H locs S => ?_)
    refine lv_if_eq (tgt := 25) hx hb dX8_harm_10 (by decide) (fun c30 => ?_) (fun c30 => ?_)
    · have hF := zs_t hF c30
      exact j25 Md _ _ _ S (lv_sub hl [] rfl) hF
    · have hF := zs_f hF c30
      exact j13 Md u1 u2 _ _ _ S (lv_sub hl [0, 1, 2] rfl) hF

abbrev RMX8_isSo : Room := { frames := 1, cells := 0, slots := 0, locals := 32 }
theorem zn_X8_isSo_X8 : ∀ w ∈ wsX80, w ∈ wsX8_isSo := zs_inl wsX80 [18, 19, 20, 21, 22, 23, 24, 25, 26, 27, 28, 29, 30, 31, 32, 33, 34, 35, 36, 37, 38, 39, 40, 41, 42, 43, 44, 45, 46, 47, 48, 49, 50] (by decide +kernel)
set_option maxRecDepth 100000 in
set_option maxHeartbeats 4000000 in
theorem c_X8_isSo (l : Launch) (G : GG) (aMd : Ad) (Md : Ob) (mt : Int64) (sz : Nat) (rr : Int32) (Md_ : Ob) (hF : F_X8_isSo Md = some (rr, Md_)) : Met l yX8_isSo wsX8_isSo RMX8_isSo (va_Pc [.ref (aMd 0)] (zs_pre G (wX8 G aMd Md mt) sz)) (zs_Qi G (wX8 G aMd Md_ mt) rr (va_A (wX8 G aMd Md mt) sz)) 0 0 (va_A (wX8 G aMd Md mt) sz) := by
  refine zs_met (cc := cX8_isSo) (maxL := 3) (ret := (some .boolean)) (own := RX8) (Qc := zs_Qi G (wX8 G aMd Md_ mt) rr) (by decide) rfl rfl (Nat.le_of_ble_eq_true rfl) ?_
  intro p e s m args below meth c C A hK hA S _ _ ls hl
  have hl : lv_has ls 3 [(0, .ref (aMd 0))] := hl
  have hx := C.1.1
  have hb := C.1.2.1
  unfold F_X8_isSo at hF
  have j30 : ∀ (n30 : Nat) (Md : Ob) (x1 : Int32) (H : Heap) (locs : List Loc) (ls : Array Slot), zs_S G A s.heap H locs (wX8 G aMd Md mt) → lv_has ls 3 [(0, .ref (aMd 0)), (1, .int x1)] → F_X8_isSo_30 n30 Md x1 = some (rr, Md_) → W p l e RMX8_isSo s m args below meth c H locs 0 0 (MQ below (zs_Qi G (wX8 G aMd Md_ mt) rr A) args s 0 0 A) (F0 m 30 ls []) := by
    intro n30
    induction n30 with
    | zero => intro Md x1 H locs ls _ _ hF; rw [F_X8_isSo_30_z] at hF; cases hF
    | succ n30 ih30 =>
      have j84 : ∀ (Md : Ob) (x1 : Int32) (H : Heap) (locs : List Loc) (ls : Array Slot), zs_S G A s.heap H locs (wX8 G aMd Md mt) → lv_has ls 3 [(0, .ref (aMd 0)), (1, .int x1)] → F_X8_isSo_84 (F_X8_isSo_30 n30) Md x1 = some (rr, Md_) → W p l e RMX8_isSo s m args below meth c H locs 0 0 (MQ below (zs_Qi G (wX8 G aMd Md_ mt) rr A) args s 0 0 A) (F0 m 84 ls []) := by
        intro Md x1 H locs ls S hl hF
        unfold F_X8_isSo_84 at hF
        refine lv_aload_n hx hb dX8_isSo_84 rfl (lv_at hl 0 rfl) ?_
        refine lv_aload_n hx hb dX8_isSo_85 rfl (lv_at hl 0 rfl) ?_
        refine zs_get C hK S 0 25 (Cn := RX8) (T := TX8) (N := 33) (ci := 8) rfl rfl (by decide) zn_X8_isSo_X8 (List.mem_of_getElem? (i := 2) rfl) rfl dX8_isSo_86 ?_
        refine lv_iload_n hx hb dX8_isSo_89 rfl (lv_at hl 1 rfl) ?_
        refine lv_iconst (v := (0 : Int32)) hx hb dX8_isSo_90 (by decide) ?_
        refine lv_iconst (v := (0 : Int32)) hx hb dX8_isSo_91 (by decide) ?_
        obtain ⟨r1, Mdw2, f3, hF⟩ := zs_b2S hF
        refine zs_calli (wr := ([] : va_W)) (ws' := wX8 G aMd Mdw2 mt) S hA [0, 1, 2, 3, 4, 5, 6, 7, 8, 9, 10, 11, 12, 13, 14, 15, 16, 17] [] [0, 1, 2, 3, 4, 5, 6, 7, 8, 9, 10, 11, 12, 13, 14, 15, 16, 17] (zs_runV C hK hA S [.ref (aMd 12), .int x1, .int (0 : Int32), .int (0 : Int32)] [] [0, 1, 2, 3, 4, 5, 6, 7, 8, 9, 10, 11, 12, 13, 14, 15, 16, 17] 0 4 (c_X8_goes_row l G aMd Md mt x1 ((0 : Int32)) ((0 : Int32)) H.size r1 Mdw2 f3) gX8_isSo_X8_goes rfl rfl rfl zd_X8_goes ⟨Nat.le_of_ble_eq_true rfl, Nat.le_of_ble_eq_true rfl⟩ rfl rfl rfl rfl rfl hl rfl (Nat.le_of_ble_eq_true rfl) dX8_isSo_92 ⟨Nat.le_of_ble_eq_true rfl, Nat.le_of_ble_eq_true rfl⟩) rfl rfl rfl (by decide) rfl rfl (fun H locs S => ?_)
        refine lv_pop hx hb dX8_isSo_95 rfl ?_
        obtain ⟨z4, e5⟩ : ∃ q : Int32, q = x1 + (1 : Int32) := ⟨_, rfl⟩
        have hF := zs_letS hF e5
        refine lv_iinc (v := z4) (lv' := [(1, .int z4), (0, .ref (aMd 0))]) hx hb dX8_isSo_96 hl (k := 1) rfl (by rw [e5]; rfl) (by decide) rfl (fun ls hl => ?_)
        refine lv_goto (tgt := 30) hx hb dX8_isSo_99 (by decide) ?_
        exact ih30 Mdw2 z4 _ _ _ S (lv_sub hl [1, 0] rfl) hF
      have j38 : ∀ (n38 : Nat) (Md : Ob) (x1 : Int32) (x2 : Int32) (H : Heap) (locs : List Loc) (ls : Array Slot), zs_S G A s.heap H locs (wX8 G aMd Md mt) → lv_has ls 3 [(0, .ref (aMd 0)), (1, .int x1), (2, .int x2)] → F_X8_isSo_38 (F_X8_isSo_30 n30) n38 Md x1 x2 = some (rr, Md_) → W p l e RMX8_isSo s m args below meth c H locs 0 0 (MQ below (zs_Qi G (wX8 G aMd Md_ mt) rr A) args s 0 0 A) (F0 m 38 ls []) := by
        intro n38
        induction n38 with
        | zero => intro Md x1 x2 H locs ls _ _ hF; rw [F_X8_isSo_38_z] at hF; cases hF
        | succ n38 ih38 =>
          have j78 : ∀ (Md : Ob) (x1 : Int32) (x2 : Int32) (H : Heap) (locs : List Loc) (ls : Array Slot), zs_S G A s.heap H locs (wX8 G aMd Md mt) → lv_has ls 3 [(0, .ref (aMd 0)), (1, .int x1), (2, .int x2)] → F_X8_isSo_78 (F_X8_isSo_30 n30) (F_X8_isSo_38 (F_X8_isSo_30 n30) n38) Md x1 x2 = some (rr, Md_) → W p l e RMX8_isSo s m args below meth c H locs 0 0 (MQ below (zs_Qi G (wX8 G aMd Md_ mt) rr A) args s 0 0 A) (F0 m 78 ls []) := by
            intro Md x1 x2 H locs ls S hl hF
            unfold F_X8_isSo_78 at hF
            obtain ⟨z6, e7⟩ : ∃ q : Int32, q = x2 + (1 : Int32) := ⟨_, rfl⟩
            have hF := zs_letS hF e7
            refine lv_iinc (v := z6) (lv' := [(2, .int z6), (0, .ref (aMd 0)), (1, .int x1)]) hx hb dX8_isSo_78 hl (k := 2) rfl (by rw [e7]; rfl) (by decide) rfl (fun ls hl => ?_)
            refine lv_goto (tgt := 38) hx hb dX8_isSo_81 (by decide) ?_
            exact ih38 Md x1 z6 _ _ _ S (lv_sub hl [1, 2, 0] rfl) hF
          intro Md x1 x2 H locs ls S hl hF
          rw [F_X8_isSo_38_n] at hF
          unfold F_X8_isSo_38_s at hF
          refine lv_iload_n hx hb dX8_isSo_38 rfl (lv_at hl 2 rfl) ?_
          refine lv_aload_n hx hb dX8_isSo_39 rfl (lv_at hl 0 rfl) ?_
          refine zs_get C hK S 0 27 (Cn := RX8) (T := TX8) (N := 33) (ci := 8) rfl rfl (by decide) zn_X8_isSo_X8 (List.mem_of_getElem? (i := 4) rfl) rfl dX8_isSo_40 ?_
          refine lv_icmp_ge (tgt := 84) hx hb dX8_isSo_43 (by decide) (fun c8 => ?_) (fun c8 => ?_)
          · have hF := zs_t hF c8
            exact j84 Md x1 _ _ _ S (lv_sub hl [0, 1] rfl) hF
          · have hF := zs_f hF c8
            refine lv_aload_n hx hb dX8_isSo_46 rfl (lv_at hl 0 rfl) ?_
            refine zs_get C hK S 0 28 (Cn := RX8) (T := TX8) (N := 33) (ci := 8) rfl rfl (by decide) zn_X8_isSo_X8 (List.mem_of_getElem? (i := 5) rfl) rfl dX8_isSo_47 ?_
            refine lv_iload_n hx hb dX8_isSo_50 rfl (lv_at hl 2 rfl) ?_
            obtain ⟨h9, hF⟩ := zs_ckS hF
            refine zs_iald C hK S 14 rfl h9 dX8_isSo_51 ?_
            refine lv_iload_n hx hb dX8_isSo_52 rfl (lv_at hl 1 rfl) ?_
            refine lv_icmp_ne (tgt := 78) hx hb dX8_isSo_53 (by decide) (fun c10 => ?_) (fun c10 => ?_)
            · have hF := zs_f hF c10
              exact j78 Md x1 x2 _ _ _ S (lv_sub hl [0, 1, 2] rfl) hF
            · have hF := zs_t hF c10
              refine lv_aload_n hx hb dX8_isSo_56 rfl (lv_at hl 0 rfl) ?_
              refine zs_get C hK S 0 25 (Cn := RX8) (T := TX8) (N := 33) (ci := 8) rfl rfl (by decide) zn_X8_isSo_X8 (List.mem_of_getElem? (i := 2) rfl) rfl dX8_isSo_57 ?_
              refine lv_aload_n hx hb dX8_isSo_60 rfl (lv_at hl 0 rfl) ?_
              refine zs_get C hK S 0 29 (Cn := RX8) (T := TX8) (N := 33) (ci := 8) rfl rfl (by decide) zn_X8_isSo_X8 (List.mem_of_getElem? (i := 6) rfl) rfl dX8_isSo_61 ?_
              refine lv_iload_n hx hb dX8_isSo_64 rfl (lv_at hl 2 rfl) ?_
              obtain ⟨h11, hF⟩ := zs_ckS hF
              refine zs_iald C hK S 15 rfl h11 dX8_isSo_65 ?_
              obtain ⟨h12, hF⟩ := zs_ckS hF
              refine zs_iald C hK S 12 rfl h12 dX8_isSo_66 ?_
              refine lv_aload_n hx hb dX8_isSo_67 rfl (lv_at hl 0 rfl) ?_
              refine zs_get C hK S 0 30 (Cn := RX8) (T := TX8) (N := 33) (ci := 8) rfl rfl (by decide) zn_X8_isSo_X8 (List.mem_of_getElem? (i := 7) rfl) rfl dX8_isSo_68 ?_
              refine lv_iload_n hx hb dX8_isSo_71 rfl (lv_at hl 2 rfl) ?_
              obtain ⟨h13, hF⟩ := zs_ckS hF
              refine zs_iald C hK S 16 rfl h13 dX8_isSo_72 ?_
              refine lv_icmp_eq (tgt := 78) hx hb dX8_isSo_73 (by decide) (fun c14 => ?_) (fun c14 => ?_)
              · have hF := zs_t hF c14
                exact j78 Md x1 x2 _ _ _ S (lv_sub hl [0, 1, 2] rfl) hF
              · have hF := zs_f hF c14
                refine lv_iconst (v := (0 : Int32)) hx hb dX8_isSo_76 (by decide) ?_
                obtain ⟨e15, e16⟩ := zs_s2 hF
                exact zs_zretE C S rfl e15 (by rw [e16]) dX8_isSo_77
      intro Md x1 H locs ls S hl hF
      rw [F_X8_isSo_30_n] at hF
      unfold F_X8_isSo_30_s at hF
      refine lv_iload_n hx hb dX8_isSo_30 rfl (lv_at hl 1 rfl) ?_
      refine lv_bipush (v := (20 : Int32)) hx hb dX8_isSo_31 (by decide) ?_
      refine lv_icmp_gt (tgt := 102) hx hb dX8_isSo_33 (by decide) (fun c17 => ?_) (fun c17 => ?_)
      · have hF := zs_t hF c17
        refine lv_iconst (v := (1 : Int32)) hx hb dX8_isSo_102 (by decide) ?_
        obtain ⟨e18, e19⟩ := zs_s2 hF
        exact zs_zretE C S rfl e18 (by rw [e19]) dX8_isSo_103
      · have hF := zs_f hF c17
        refine lv_iconst (v := (0 : Int32)) hx hb dX8_isSo_36 (by decide) ?_
        refine lv_istore_n (lv' := [(2, .int (0 : Int32)), (0, .ref (aMd 0)), (1, .int x1)]) hx hb dX8_isSo_37 rfl hl (by decide) rfl (fun ls hl => ?_)
        exact j38 1000 Md x1 (0 : Int32) _ _ _ S (lv_sub hl [1, 2, 0] rfl) hF
  have j28 : ∀ (Md : Ob) (H : Heap) (locs : List Loc) (ls : Array Slot), zs_S G A s.heap H locs (wX8 G aMd Md mt) → lv_has ls 3 [(0, .ref (aMd 0))] → F_X8_isSo_28 Md = some (rr, Md_) → W p l e RMX8_isSo s m args below meth c H locs 0 0 (MQ below (zs_Qi G (wX8 G aMd Md_ mt) rr A) args s 0 0 A) (F0 m 28 ls []) := by
    intro Md H locs ls S hl hF
    unfold F_X8_isSo_28 at hF
    refine lv_iconst (v := (0 : Int32)) hx hb dX8_isSo_28 (by decide) ?_
    refine lv_istore_n (lv' := [(1, .int (0 : Int32)), (0, .ref (aMd 0))]) hx hb dX8_isSo_29 rfl hl (by decide) rfl (fun ls hl => ?_)
    exact j30 1000 Md (0 : Int32) _ _ _ S (lv_sub hl [1, 0] rfl) hF
  have j2 : ∀ (n2 : Nat) (Md : Ob) (x1 : Int32) (H : Heap) (locs : List Loc) (ls : Array Slot), zs_S G A s.heap H locs (wX8 G aMd Md mt) → lv_has ls 3 [(0, .ref (aMd 0)), (1, .int x1)] → F_X8_isSo_2 n2 Md x1 = some (rr, Md_) → W p l e RMX8_isSo s m args below meth c H locs 0 0 (MQ below (zs_Qi G (wX8 G aMd Md_ mt) rr A) args s 0 0 A) (F0 m 2 ls []) := by
    intro n2
    induction n2 with
    | zero => intro Md x1 H locs ls _ _ hF; rw [F_X8_isSo_2_z] at hF; cases hF
    | succ n2 ih2 =>
      intro Md x1 H locs ls S hl hF
      rw [F_X8_isSo_2_n] at hF
      unfold F_X8_isSo_2_s at hF
      refine lv_iload_n hx hb dX8_isSo_2 rfl (lv_at hl 1 rfl) ?_
      refine lv_aload_n hx hb dX8_isSo_3 rfl (lv_at hl 0 rfl) ?_
      refine zs_get C hK S 0 10 (Cn := RX8) (T := TX8) (N := 33) (ci := 8) rfl rfl (by decide) zn_X8_isSo_X8 (List.mem_of_getElem? (i := 1) rfl) rfl dX8_isSo_4 ?_
      refine lv_icmp_ge (tgt := 28) hx hb dX8_isSo_7 (by decide) (fun c20 => ?_) (fun c20 => ?_)
      · have hF := zs_t hF c20
        exact j28 Md _ _ _ S (lv_sub hl [0] rfl) hF
      · have hF := zs_f hF c20
        refine lv_aload_n hx hb dX8_isSo_10 rfl (lv_at hl 0 rfl) ?_
        refine zs_get C hK S 0 25 (Cn := RX8) (T := TX8) (N := 33) (ci := 8) rfl rfl (by decide) zn_X8_isSo_X8 (List.mem_of_getElem? (i := 2) rfl) rfl dX8_isSo_11 ?_
        refine lv_iload_n hx hb dX8_isSo_14 rfl (lv_at hl 1 rfl) ?_
        refine lv_aload_n hx hb dX8_isSo_15 rfl (lv_at hl 0 rfl) ?_
        refine zs_get C hK S 0 12 (Cn := RX8) (T := TX8) (N := 33) (ci := 8) rfl rfl (by decide) zn_X8_isSo_X8 (List.mem_of_getElem? (i := 3) rfl) rfl dX8_isSo_16 ?_
        refine lv_iload_n hx hb dX8_isSo_19 rfl (lv_at hl 1 rfl) ?_
        obtain ⟨h21, hF⟩ := zs_ckS hF
        refine zs_iald C hK S 4 rfl h21 dX8_isSo_20 ?_
        obtain ⟨h22, hF⟩ := zs_ckS hF
        obtain ⟨Mdw23, e24⟩ : ∃ q : Ob, q = zs_up Md 12 (x1).toNatClampNeg (Md 4 (x1).toNatClampNeg) := ⟨_, rfl⟩
        have hF := zs_letS hF e24
        refine zs_iast C hK S 12 (ws' := wX8 G aMd Mdw23 mt) rfl h22 (by rw [e24]; rfl) dX8_isSo_21 (fun H locs S => ?_)
        obtain ⟨z25, e26⟩ : ∃ q : Int32, q = x1 + (1 : Int32) := ⟨_, rfl⟩
        have hF := zs_letS hF e26
        refine lv_iinc (v := z25) (lv' := [(1, .int z25), (0, .ref (aMd 0))]) hx hb dX8_isSo_22 hl (k := 1) rfl (by rw [e26]; rfl) (by decide) rfl (fun ls hl => ?_)
        refine lv_goto (tgt := 2) hx hb dX8_isSo_25 (by decide) ?_
        exact ih2 Mdw23 z25 _ _ _ S (lv_sub hl [1, 0] rfl) hF
  refine lv_iconst (v := (0 : Int32)) hx hb dX8_isSo_0 (by decide) ?_
  refine lv_istore_n (lv' := [(1, .int (0 : Int32)), (0, .ref (aMd 0))]) hx hb dX8_isSo_1 rfl hl (by decide) rfl (fun ls hl => ?_)
  exact j2 1000 Md (0 : Int32) _ _ _ S (lv_sub hl [1, 0] rfl) hF

theorem zd_X8_isSo : yX8_isSo.cls = RX8 ∧ yX8_isSo.cls ≠ "java/lang/invoke/MethodHandle" ∧ yX8_isSo.cls ≠ "java/lang/invoke/VarHandle" ∧ (parseMethodDescriptor yX8_isSo.desc).map (fun d => d.parameters.length) = some 0 := by decide +kernel
abbrev RMX8_hole : Room := { frames := 2, cells := 0, slots := 0, locals := 54 }
theorem zn_X8_hole_X8 : ∀ w ∈ wsX80, w ∈ wsX8_hole := zs_inl wsX80 [22, 23, 24, 25, 26, 27, 28, 29, 30, 31, 32, 33, 34, 35, 36, 37, 38, 39, 40, 41, 42, 43, 44, 45, 46, 47, 48, 49, 50, 51, 52, 53, 54] (by decide +kernel)
set_option maxRecDepth 100000 in
set_option maxHeartbeats 4000000 in
theorem c_X8_hole (l : Launch) (G : GG) (aMd : Ad) (Md : Ob) (mt : Int64) (u1 : Int32) (sz : Nat) (rr : Int32) (Md_ : Ob) (hF : F_X8_hole Md u1 = some (rr, Md_)) : Met l yX8_hole wsX8_hole RMX8_hole (va_Pc [.ref (aMd 0), .int u1] (zs_pre G (wX8 G aMd Md mt) sz)) (zs_Qi G (wX8 G aMd Md_ mt) rr (va_A (wX8 G aMd Md mt) sz)) 0 0 (va_A (wX8 G aMd Md mt) sz) := by
  refine zs_met (cc := cX8_hole) (maxL := 5) (ret := (some .int)) (own := RX8) (Qc := zs_Qi G (wX8 G aMd Md_ mt) rr) (by decide) rfl rfl (Nat.le_of_ble_eq_true rfl) ?_
  intro p e s m args below meth c C A hK hA S _ _ ls hl
  have hl : lv_has ls 5 [(0, .ref (aMd 0)), (1, .int u1)] := hl
  have hx := C.1.1
  have hb := C.1.2.1
  unfold F_X8_hole at hF
  have j61 : ∀ (Md : Ob) (x1 : Int32) (x2 : Int32) (x3 : Int32) (H : Heap) (locs : List Loc) (ls : Array Slot), zs_S G A s.heap H locs (wX8 G aMd Md mt) → lv_has ls 5 [(0, .ref (aMd 0)), (1, .int x1), (2, .int x2), (3, .int x3)] → F_X8_hole_61 Md x1 x2 x3 = some (rr, Md_) → W p l e RMX8_hole s m args below meth c H locs 0 0 (MQ below (zs_Qi G (wX8 G aMd Md_ mt) rr A) args s 0 0 A) (F0 m 61 ls []) := by
    intro Md x1 x2 x3 H locs ls S hl hF
    unfold F_X8_hole_61 at hF
    refine lv_aload_n hx hb dX8_hole_61 rfl (lv_at hl 0 rfl) ?_
    refine zs_get C hK S 0 13 (Cn := RX8) (T := TX8) (N := 33) (ci := 8) rfl rfl (by decide) zn_X8_hole_X8 (List.mem_of_getElem? (i := 1) rfl) rfl dX8_hole_62 ?_
    refine lv_iload_n hx hb dX8_hole_65 rfl (lv_at hl 1 rfl) ?_
    refine lv_iload_n hx hb dX8_hole_66 rfl (lv_at hl 2 rfl) ?_
    obtain ⟨h1, hF⟩ := zs_ckS hF
    obtain ⟨Mdw2, e3⟩ : ∃ q : Ob, q = zs_up Md 5 (x1).toNatClampNeg x2 := ⟨_, rfl⟩
    have hF := zs_letS hF e3
    refine zs_iast C hK S 5 (ws' := wX8 G aMd Mdw2 mt) rfl h1 (by rw [e3]; rfl) dX8_hole_67 (fun H locs S => ?_)
    refine lv_iload_n hx hb dX8_hole_68 rfl (lv_at hl 3 rfl) ?_
    obtain ⟨e4, e5⟩ := zs_s2 hF
    exact zs_iretE C S e4 (by rw [e5]) dX8_hole_69
  have j13 : ∀ (n13 : Nat) (Md : Ob) (x1 : Int32) (x2 : Int32) (x3 : Int32) (x4 : Int32) (H : Heap) (locs : List Loc) (ls : Array Slot), zs_S G A s.heap H locs (wX8 G aMd Md mt) → lv_has ls 5 [(0, .ref (aMd 0)), (1, .int x1), (2, .int x2), (3, .int x3), (4, .int x4)] → F_X8_hole_13 n13 Md x1 x2 x3 x4 = some (rr, Md_) → W p l e RMX8_hole s m args below meth c H locs 0 0 (MQ below (zs_Qi G (wX8 G aMd Md_ mt) rr A) args s 0 0 A) (F0 m 13 ls []) := by
    intro n13
    induction n13 with
    | zero => intro Md x1 x2 x3 x4 H locs ls _ _ hF; rw [F_X8_hole_13_z] at hF; cases hF
    | succ n13 ih13 =>
      have j54 : ∀ (Md : Ob) (x1 : Int32) (x2 : Int32) (x4 : Int32) (y0 : Int32) (H : Heap) (locs : List Loc) (ls : Array Slot), zs_S G A s.heap H locs (wX8 G aMd Md mt) → lv_has ls 5 [(0, .ref (aMd 0)), (1, .int x1), (2, .int x2), (4, .int x4)] → F_X8_hole_54 (F_X8_hole_13 n13) Md x1 x2 x4 y0 = some (rr, Md_) → W p l e RMX8_hole s m args below meth c H locs 0 0 (MQ below (zs_Qi G (wX8 G aMd Md_ mt) rr A) args s 0 0 A) (F0 m 54 ls [.int y0]) := by
        intro Md x1 x2 x4 y0 H locs ls S hl hF
        unfold F_X8_hole_54 at hF
        refine lv_istore_n (lv' := [(3, .int y0), (0, .ref (aMd 0)), (1, .int x1), (2, .int x2), (4, .int x4)]) hx hb dX8_hole_54 rfl hl (by decide) rfl (fun ls hl => ?_)
        obtain ⟨z6, e7⟩ : ∃ q : Int32, q = x4 + (1 : Int32) := ⟨_, rfl⟩
        have hF := zs_letS hF e7
        refine lv_iinc (v := z6) (lv' := [(4, .int z6), (3, .int y0), (0, .ref (aMd 0)), (1, .int x1), (2, .int x2)]) hx hb dX8_hole_55 hl (k := 4) rfl (by rw [e7]; rfl) (by decide) rfl (fun ls hl => ?_)
        refine lv_goto (tgt := 13) hx hb dX8_hole_58 (by decide) ?_
        exact ih13 Md x1 x2 y0 z6 _ _ _ S (lv_sub hl [2, 3, 4, 1, 0] rfl) hF
      have j52 : ∀ (Md : Ob) (x1 : Int32) (x2 : Int32) (x4 : Int32) (H : Heap) (locs : List Loc) (ls : Array Slot), zs_S G A s.heap H locs (wX8 G aMd Md mt) → lv_has ls 5 [(0, .ref (aMd 0)), (1, .int x1), (2, .int x2), (4, .int x4)] → F_X8_hole_52 (F_X8_hole_13 n13) Md x1 x2 x4 = some (rr, Md_) → W p l e RMX8_hole s m args below meth c H locs 0 0 (MQ below (zs_Qi G (wX8 G aMd Md_ mt) rr A) args s 0 0 A) (F0 m 52 ls []) := by
        intro Md x1 x2 x4 H locs ls S hl hF
        unfold F_X8_hole_52 at hF
        refine lv_bipush (v := (-9 : Int32)) hx hb dX8_hole_52 (by decide) ?_
        exact j54 Md x1 x2 x4 (-9 : Int32) _ _ _ S (lv_sub hl [0, 1, 2, 3] rfl) hF
      intro Md x1 x2 x3 x4 H locs ls S hl hF
      rw [F_X8_hole_13_n] at hF
      unfold F_X8_hole_13_s at hF
      refine lv_iload hx hb dX8_hole_13 (lv_at hl 4 rfl) ?_
      refine lv_bipush (v := (10 : Int32)) hx hb dX8_hole_15 (by decide) ?_
      refine lv_icmp_ge (tgt := 61) hx hb dX8_hole_17 (by decide) (fun c8 => ?_) (fun c8 => ?_)
      · have hF := zs_t hF c8
        exact j61 Md x1 x2 x3 _ _ _ S (lv_sub hl [0, 1, 2, 3] rfl) hF
      · have hF := zs_f hF c8
        refine lv_iload_n hx hb dX8_hole_20 rfl (lv_at hl 3 rfl) ?_
        refine lv_bipush (v := (-9 : Int32)) hx hb dX8_hole_21 (by decide) ?_
        refine lv_icmp_ne (tgt := 61) hx hb dX8_hole_23 (by decide) (fun c9 => ?_) (fun c9 => ?_)
        · have hF := zs_f hF c9
          exact j61 Md x1 x2 x3 _ _ _ S (lv_sub hl [0, 1, 2, 3] rfl) hF
        · have hF := zs_t hF c9
          refine lv_aload_n hx hb dX8_hole_26 rfl (lv_at hl 0 rfl) ?_
          refine zs_get C hK S 0 13 (Cn := RX8) (T := TX8) (N := 33) (ci := 8) rfl rfl (by decide) zn_X8_hole_X8 (List.mem_of_getElem? (i := 1) rfl) rfl dX8_hole_27 ?_
          refine lv_iload_n hx hb dX8_hole_30 rfl (lv_at hl 1 rfl) ?_
          refine lv_iload hx hb dX8_hole_31 (lv_at hl 4 rfl) ?_
          obtain ⟨h10, hF⟩ := zs_ckS hF
          obtain ⟨Mdw11, e12⟩ : ∃ q : Ob, q = zs_up Md 5 (x1).toNatClampNeg x4 := ⟨_, rfl⟩
          have hF := zs_letS hF e12
          refine zs_iast C hK S 5 (ws' := wX8 G aMd Mdw11 mt) rfl h10 (by rw [e12]; rfl) dX8_hole_33 (fun H locs S => ?_)
          refine lv_iload hx hb dX8_hole_34 (lv_at hl 4 rfl) ?_
          refine lv_iload_n hx hb dX8_hole_36 rfl (lv_at hl 2 rfl) ?_
          refine lv_icmp_eq (tgt := 52) hx hb dX8_hole_37 (by decide) (fun c13 => ?_) (fun c13 => ?_)
          · have hF := zs_t hF c13
            exact j52 Mdw11 x1 x2 x4 _ _ _ S (lv_sub hl [0, 1, 2, 4] rfl) hF
          · have hF := zs_f hF c13
            refine lv_aload_n hx hb dX8_hole_40 rfl (lv_at hl 0 rfl) ?_
            obtain ⟨r14, Mdw15, f16, hF⟩ := zs_b2S hF
            refine zs_calli (wr := ([] : va_W)) (ws' := wX8 G aMd Mdw15 mt) S hA [0, 1, 2, 3, 4, 5, 6, 7, 8, 9, 10, 11, 12, 13, 14, 15, 16, 17] [] [0, 1, 2, 3, 4, 5, 6, 7, 8, 9, 10, 11, 12, 13, 14, 15, 16, 17] (zs_runV C hK hA S [] [] [0, 1, 2, 3, 4, 5, 6, 7, 8, 9, 10, 11, 12, 13, 14, 15, 16, 17] 0 0 (c_X8_isSo l G aMd Mdw11 mt H.size r14 Mdw15 f16) gX8_hole_X8_isSo rfl rfl rfl zd_X8_isSo ⟨Nat.le_of_ble_eq_true rfl, Nat.le_of_ble_eq_true rfl⟩ rfl rfl rfl rfl rfl hl rfl (Nat.le_of_ble_eq_true rfl) dX8_hole_41 ⟨Nat.le_of_ble_eq_true rfl, Nat.le_of_ble_eq_true rfl⟩) rfl rfl rfl (by decide) rfl rfl (fun H locs S => ?_)
            refine lv_if_eq (tgt := 52) hx hb dX8_hole_44 (by decide) (fun c17 => ?_) (fun c17 => ?_)
            · have hF := zs_t hF c17
              exact j52 Mdw15 x1 x2 x4 _ _ _ S (lv_sub hl [0, 1, 2, 4] rfl) hF
            · have hF := zs_f hF c17
              refine lv_iload hx hb dX8_hole_47 (lv_at hl 4 rfl) ?_
              refine lv_goto (tgt := 54) hx hb dX8_hole_49 (by decide) ?_
              exact j54 Mdw15 x1 x2 x4 x4 _ _ _ S (lv_sub hl [0, 1, 2, 4] rfl) hF
  refine lv_aload_n hx hb dX8_hole_0 rfl (lv_at hl 0 rfl) ?_
  refine zs_get C hK S 0 13 (Cn := RX8) (T := TX8) (N := 33) (ci := 8) rfl rfl (by decide) zn_X8_hole_X8 (List.mem_of_getElem? (i := 1) rfl) rfl dX8_hole_1 ?_
  refine lv_iload_n hx hb dX8_hole_4 rfl (lv_at hl 1 rfl) ?_
  obtain ⟨h18, hF⟩ := zs_ckS hF
  refine zs_iald C hK S 5 rfl h18 dX8_hole_5 ?_
  refine lv_topi (fun z19 e20 => ?_)
  have hF := zs_letS hF e20
  refine lv_istore_n (lv' := [(2, .int z19), (0, .ref (aMd 0)), (1, .int u1)]) hx hb dX8_hole_6 rfl hl (by decide) rfl (fun ls hl => ?_)
  refine lv_bipush (v := (-9 : Int32)) hx hb dX8_hole_7 (by decide) ?_
  refine lv_istore_n (lv' := [(3, .int (-9 : Int32)), (2, .int z19), (0, .ref (aMd 0)), (1, .int u1)]) hx hb dX8_hole_9 rfl hl (by decide) rfl (fun ls hl => ?_)
  refine lv_iconst (v := (0 : Int32)) hx hb dX8_hole_10 (by decide) ?_
  refine lv_istore (lv' := [(4, .int (0 : Int32)), (3, .int (-9 : Int32)), (2, .int z19), (0, .ref (aMd 0)), (1, .int u1)]) hx hb dX8_hole_11 hl (by decide) rfl (fun ls hl => ?_)
  exact j13 1000 Md u1 z19 (-9 : Int32) (0 : Int32) _ _ _ S (lv_sub hl [3, 4, 2, 1, 0] rfl) hF

theorem zd_X8_hole : yX8_hole.cls = RX8 ∧ yX8_hole.cls ≠ "java/lang/invoke/MethodHandle" ∧ yX8_hole.cls ≠ "java/lang/invoke/VarHandle" ∧ (parseMethodDescriptor yX8_hole.desc).map (fun d => d.parameters.length) = some 1 := by decide +kernel
abbrev RMX8_holes : Room := { frames := 3, cells := 0, slots := 0, locals := 78 }
theorem zn_X8_holes_X8 : ∀ w ∈ wsX80, w ∈ wsX8_holes := zs_inl wsX80 [33, 34, 35, 36, 37, 38, 39, 40, 41, 42, 43, 44, 45, 46, 47, 48, 49, 50, 51, 52, 53, 54, 55, 56, 57, 58, 59, 60, 61, 62, 63, 64, 65] (by decide +kernel)
set_option maxRecDepth 100000 in
set_option maxHeartbeats 4000000 in
theorem c_X8_holes (l : Launch) (G : GG) (aMd : Ad) (Md : Ob) (mt : Int64) (u1 : Int32) (sz : Nat) (rr : Int32) (Md_ : Ob) (hF : F_X8_holes Md u1 = some (rr, Md_)) : Met l yX8_holes wsX8_holes RMX8_holes (va_Pc [.ref (aMd 0), .int u1] (zs_pre G (wX8 G aMd Md mt) sz)) (zs_Qi G (wX8 G aMd Md_ mt) rr (va_A (wX8 G aMd Md mt) sz)) 0 0 (va_A (wX8 G aMd Md mt) sz) := by
  refine zs_met (cc := cX8_holes) (maxL := 4) (ret := (some .int)) (own := RX8) (Qc := zs_Qi G (wX8 G aMd Md_ mt) rr) (by decide) rfl rfl (Nat.le_of_ble_eq_true rfl) ?_
  intro p e s m args below meth c C A hK hA S _ _ ls hl
  have hl : lv_has ls 4 [(0, .ref (aMd 0)), (1, .int u1)] := hl
  have hx := C.1.1
  have hb := C.1.2.1
  unfold F_X8_holes at hF
  have j41 : ∀ (n41 : Nat) (Md : Ob) (x2 : Int32) (x3 : Int32) (H : Heap) (locs : List Loc) (ls : Array Slot), zs_S G A s.heap H locs (wX8 G aMd Md mt) → lv_has ls 4 [(0, .ref (aMd 0)), (2, .int x2), (3, .int x3)] → F_X8_holes_41 n41 Md x2 x3 = some (rr, Md_) → W p l e RMX8_holes s m args below meth c H locs 0 0 (MQ below (zs_Qi G (wX8 G aMd Md_ mt) rr A) args s 0 0 A) (F0 m 41 ls []) := by
    intro n41
    induction n41 with
    | zero => intro Md x2 x3 H locs ls _ _ hF; rw [F_X8_holes_41_z] at hF; cases hF
    | succ n41 ih41 =>
      have j67 : ∀ (Md : Ob) (x3 : Int32) (y0 : Int32) (y1 : Int32) (H : Heap) (locs : List Loc) (ls : Array Slot), zs_S G A s.heap H locs (wX8 G aMd Md mt) → lv_has ls 4 [(0, .ref (aMd 0)), (3, .int x3)] → F_X8_holes_67 (F_X8_holes_41 n41) Md x3 y0 y1 = some (rr, Md_) → W p l e RMX8_holes s m args below meth c H locs 0 0 (MQ below (zs_Qi G (wX8 G aMd Md_ mt) rr A) args s 0 0 A) (F0 m 67 ls [.int y0, .int y1]) := by
        intro Md x3 y0 y1 H locs ls S hl hF
        unfold F_X8_holes_67 at hF
        refine lv_ior hx hb dX8_holes_67 ?_
        refine lv_topi (fun z1 e2 => ?_)
        have hF := zs_letS hF e2
        refine lv_istore_n (lv' := [(2, .int z1), (0, .ref (aMd 0)), (3, .int x3)]) hx hb dX8_holes_68 rfl hl (by decide) rfl (fun ls hl => ?_)
        obtain ⟨z3, e4⟩ : ∃ q : Int32, q = x3 + (1 : Int32) := ⟨_, rfl⟩
        have hF := zs_letS hF e4
        refine lv_iinc (v := z3) (lv' := [(3, .int z3), (2, .int z1), (0, .ref (aMd 0))]) hx hb dX8_holes_69 hl (k := 2) rfl (by rw [e4]; rfl) (by decide) rfl (fun ls hl => ?_)
        refine lv_goto (tgt := 41) hx hb dX8_holes_72 (by decide) ?_
        exact ih41 Md z1 z3 _ _ _ S (lv_sub hl [2, 1, 0] rfl) hF
      intro Md x2 x3 H locs ls S hl hF
      rw [F_X8_holes_41_n] at hF
      unfold F_X8_holes_41_s at hF
      refine lv_iload_n hx hb dX8_holes_41 rfl (lv_at hl 2 rfl) ?_
      refine lv_aload_n hx hb dX8_holes_42 rfl (lv_at hl 0 rfl) ?_
      refine zs_get C hK S 0 10 (Cn := RX8) (T := TX8) (N := 33) (ci := 8) rfl rfl (by decide) zn_X8_holes_X8 (List.mem_of_getElem? (i := 1) rfl) rfl dX8_holes_43 ?_
      refine lv_icmp_ge (tgt := 75) hx hb dX8_holes_46 (by decide) (fun c5 => ?_) (fun c5 => ?_)
      · have hF := zs_t hF c5
        refine lv_iload_n hx hb dX8_holes_75 rfl (lv_at hl 1 rfl) ?_
        obtain ⟨e6, e7⟩ := zs_s2 hF
        exact zs_iretE C S e6 (by rw [e7]) dX8_holes_76
      · have hF := zs_f hF c5
        refine lv_iload_n hx hb dX8_holes_49 rfl (lv_at hl 1 rfl) ?_
        refine lv_aload_n hx hb dX8_holes_50 rfl (lv_at hl 0 rfl) ?_
        refine lv_iload_n hx hb dX8_holes_51 rfl (lv_at hl 2 rfl) ?_
        obtain ⟨r8, Mdw9, f10, hF⟩ := zs_b2S hF
        refine zs_calli (wr := ([] : va_W)) (ws' := wX8 G aMd Mdw9 mt) S hA [0, 1, 2, 3, 4, 5, 6, 7, 8, 9, 10, 11, 12, 13, 14, 15, 16, 17] [] [0, 1, 2, 3, 4, 5, 6, 7, 8, 9, 10, 11, 12, 13, 14, 15, 16, 17] (zs_runV C hK hA S [.int x3] [.int x2] [0, 1, 2, 3, 4, 5, 6, 7, 8, 9, 10, 11, 12, 13, 14, 15, 16, 17] 0 1 (c_X8_hole l G aMd Md mt x3 H.size r8 Mdw9 f10) gX8_holes_X8_hole rfl rfl rfl zd_X8_hole ⟨Nat.le_of_ble_eq_true rfl, Nat.le_of_ble_eq_true rfl⟩ rfl rfl rfl rfl rfl hl rfl (Nat.le_of_ble_eq_true rfl) dX8_holes_52 ⟨Nat.le_of_ble_eq_true rfl, Nat.le_of_ble_eq_true rfl⟩) rfl rfl rfl (by decide) rfl rfl (fun H locs S => ?_)
        refine lv_bipush (v := (-9 : Int32)) hx hb dX8_holes_55 (by decide) ?_
        refine lv_icmp_ne (tgt := 64) hx hb dX8_holes_57 (by decide) (fun c11 => ?_) (fun c11 => ?_)
        · have hF := zs_f hF c11
          refine lv_iconst (v := (1 : Int32)) hx hb dX8_holes_64 (by decide) ?_
          refine lv_iload_n hx hb dX8_holes_65 rfl (lv_at hl 2 rfl) ?_
          refine lv_ishl hx hb dX8_holes_66 ?_
          exact j67 Mdw9 x3 ((1 : Int32) <<< (x3 &&& 31)) x2 _ _ _ S (lv_sub hl [0, 2] rfl) hF
        · have hF := zs_t hF c11
          refine lv_iconst (v := (0 : Int32)) hx hb dX8_holes_60 (by decide) ?_
          refine lv_goto (tgt := 67) hx hb dX8_holes_61 (by decide) ?_
          exact j67 Mdw9 x3 (0 : Int32) x2 _ _ _ S (lv_sub hl [0, 2] rfl) hF
  have j38 : ∀ (Md : Ob) (y0 : Int32) (H : Heap) (locs : List Loc) (ls : Array Slot), zs_S G A s.heap H locs (wX8 G aMd Md mt) → lv_has ls 4 [(0, .ref (aMd 0))] → F_X8_holes_38 Md y0 = some (rr, Md_) → W p l e RMX8_holes s m args below meth c H locs 0 0 (MQ below (zs_Qi G (wX8 G aMd Md_ mt) rr A) args s 0 0 A) (F0 m 38 ls [.int y0]) := by
    intro Md y0 H locs ls S hl hF
    unfold F_X8_holes_38 at hF
    refine lv_istore_n (lv' := [(2, .int y0), (0, .ref (aMd 0))]) hx hb dX8_holes_38 rfl hl (by decide) rfl (fun ls hl => ?_)
    refine lv_iconst (v := (0 : Int32)) hx hb dX8_holes_39 (by decide) ?_
    refine lv_istore_n (lv' := [(3, .int (0 : Int32)), (2, .int y0), (0, .ref (aMd 0))]) hx hb dX8_holes_40 rfl hl (by decide) rfl (fun ls hl => ?_)
    exact j41 1000 Md y0 (0 : Int32) _ _ _ S (lv_sub hl [2, 1, 0] rfl) hF
  have j15 : ∀ (Md : Ob) (x1 : Int32) (H : Heap) (locs : List Loc) (ls : Array Slot), zs_S G A s.heap H locs (wX8 G aMd Md mt) → lv_has ls 4 [(0, .ref (aMd 0)), (1, .int x1)] → F_X8_holes_15 Md x1 = some (rr, Md_) → W p l e RMX8_holes s m args below meth c H locs 0 0 (MQ below (zs_Qi G (wX8 G aMd Md_ mt) rr A) args s 0 0 A) (F0 m 15 ls []) := by
    intro Md x1 H locs ls S hl hF
    unfold F_X8_holes_15 at hF
    refine lv_iload_n hx hb dX8_holes_15 rfl (lv_at hl 1 rfl) ?_
    refine lv_if_lt (tgt := 25) hx hb dX8_holes_16 (by decide) (fun c12 => ?_) (fun c12 => ?_)
    · have hF := zs_t hF c12
      refine lv_aload_n hx hb dX8_holes_25 rfl (lv_at hl 0 rfl) ?_
      obtain ⟨r13, Mdw14, f15, hF⟩ := zs_b2S hF
      refine zs_calli (wr := ([] : va_W)) (ws' := wX8 G aMd Mdw14 mt) S hA [0, 1, 2, 3, 4, 5, 6, 7, 8, 9, 10, 11, 12, 13, 14, 15, 16, 17] [] [0, 1, 2, 3, 4, 5, 6, 7, 8, 9, 10, 11, 12, 13, 14, 15, 16, 17] (zs_runV C hK hA S [] [] [0, 1, 2, 3, 4, 5, 6, 7, 8, 9, 10, 11, 12, 13, 14, 15, 16, 17] 0 0 (c_X8_isSo l G aMd Md mt H.size r13 Mdw14 f15) gX8_holes_X8_isSo rfl rfl rfl zd_X8_isSo ⟨Nat.le_of_ble_eq_true rfl, Nat.le_of_ble_eq_true rfl⟩ rfl rfl rfl rfl rfl hl rfl (Nat.le_of_ble_eq_true rfl) dX8_holes_26 ⟨Nat.le_of_ble_eq_true rfl, Nat.le_of_ble_eq_true rfl⟩) rfl rfl rfl (by decide) rfl rfl (fun H locs S => ?_)
      refine lv_if_eq (tgt := 37) hx hb dX8_holes_29 (by decide) (fun c16 => ?_) (fun c16 => ?_)
      · have hF := zs_t hF c16
        refine lv_iconst (v := (0 : Int32)) hx hb dX8_holes_37 (by decide) ?_
        exact j38 Mdw14 (0 : Int32) _ _ _ S (lv_sub hl [0] rfl) hF
      · have hF := zs_f hF c16
        refine lv_bipush (v := (64 : Int32)) hx hb dX8_holes_32 (by decide) ?_
        refine lv_goto (tgt := 38) hx hb dX8_holes_34 (by decide) ?_
        exact j38 Mdw14 (64 : Int32) _ _ _ S (lv_sub hl [0] rfl) hF
    · have hF := zs_f hF c12
      refine lv_aload_n hx hb dX8_holes_19 rfl (lv_at hl 0 rfl) ?_
      refine lv_iload_n hx hb dX8_holes_20 rfl (lv_at hl 1 rfl) ?_
      obtain ⟨r17, Mdw18, f19, hF⟩ := zs_b2S hF
      refine zs_calli (wr := ([] : va_W)) (ws' := wX8 G aMd Mdw18 mt) S hA [0, 1, 2, 3, 4, 5, 6, 7, 8, 9, 10, 11, 12, 13, 14, 15, 16, 17] [] [0, 1, 2, 3, 4, 5, 6, 7, 8, 9, 10, 11, 12, 13, 14, 15, 16, 17] (zs_runV C hK hA S [.int x1] [] [0, 1, 2, 3, 4, 5, 6, 7, 8, 9, 10, 11, 12, 13, 14, 15, 16, 17] 0 1 (c_X8_hole l G aMd Md mt x1 H.size r17 Mdw18 f19) gX8_holes_X8_hole rfl rfl rfl zd_X8_hole ⟨Nat.le_of_ble_eq_true rfl, Nat.le_of_ble_eq_true rfl⟩ rfl rfl rfl rfl rfl hl rfl (Nat.le_of_ble_eq_true rfl) dX8_holes_21 ⟨Nat.le_of_ble_eq_true rfl, Nat.le_of_ble_eq_true rfl⟩) rfl rfl rfl (by decide) rfl rfl (fun H locs S => ?_)
      obtain ⟨e20, e21⟩ := zs_s2 hF
      exact zs_iretE C S e20 (by rw [e21]) dX8_holes_24
  refine lv_iload_n hx hb dX8_holes_0 rfl (lv_at hl 1 rfl) ?_
  refine lv_iconst (v := (-1 : Int32)) hx hb dX8_holes_1 (by decide) ?_
  refine lv_icmp_eq (tgt := 15) hx hb dX8_holes_2 (by decide) (fun c22 => ?_) (fun c22 => ?_)
  · have hF := zs_t hF c22
    exact j15 Md u1 _ _ _ S (lv_sub hl [0, 1] rfl) hF
  · have hF := zs_f hF c22
    refine lv_aload_n hx hb dX8_holes_5 rfl (lv_at hl 0 rfl) ?_
    refine lv_iload_n hx hb dX8_holes_6 rfl (lv_at hl 1 rfl) ?_
    obtain ⟨r23, f24, hF⟩ := zs_bdS hF
    refine zs_calli (wr := ([] : va_W)) (ws' := wX8 G aMd Md mt) S hA [0, 1, 2, 3, 4, 5, 6, 7, 8, 9, 10, 11, 12, 13, 14, 15, 16, 17] [] [0, 1, 2, 3, 4, 5, 6, 7, 8, 9, 10, 11, 12, 13, 14, 15, 16, 17] (zs_runV C hK hA S [.int u1] [] [0, 1, 2, 3, 4, 5, 6, 7, 8, 9, 10, 11, 12, 13, 14, 15, 16, 17] 0 1 (c_X8_isWall l G aMd Md mt u1 s.heap.size r23 f24) gX8_holes_X8_isWall rfl rfl rfl zd_X8_isWall ⟨Nat.le_of_ble_eq_true rfl, Nat.le_of_ble_eq_true rfl⟩ rfl rfl rfl rfl rfl hl rfl (Nat.le_of_ble_eq_true rfl) dX8_holes_7 ⟨Nat.le_of_ble_eq_true rfl, Nat.le_of_ble_eq_true rfl⟩) rfl rfl rfl (by decide) rfl rfl (fun H locs S => ?_)
    refine lv_if_ne (tgt := 15) hx hb dX8_holes_10 (by decide) (fun c25 => ?_) (fun c25 => ?_)
    · have hF := zs_f hF c25
      exact j15 Md u1 _ _ _ S (lv_sub hl [0, 1] rfl) hF
    · have hF := zs_t hF c25
      refine lv_iconst (v := (-1 : Int32)) hx hb dX8_holes_13 (by decide) ?_
      obtain ⟨e26, e27⟩ := zs_s2 hF
      exact zs_iretE C S e26 (by rw [e27]) dX8_holes_14

