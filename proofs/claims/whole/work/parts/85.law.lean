abbrev NCL : Nat := 73
abbrev NSL : Nat := 1972
theorem zd_X7_back : yX7_back.cls = RX7 ∧ yX7_back.cls ≠ "java/lang/invoke/MethodHandle" ∧ yX7_back.cls ≠ "java/lang/invoke/VarHandle" ∧ (parseMethodDescriptor yX7_back.desc).map (fun d => d.parameters.length) = some 1 := by decide +kernel
theorem zd_X7_behind : yX7_behind.cls = RX7 ∧ yX7_behind.cls ≠ "java/lang/invoke/MethodHandle" ∧ yX7_behind.cls ≠ "java/lang/invoke/VarHandle" ∧ (parseMethodDescriptor yX7_behind.desc).map (fun d => d.parameters.length) = some 2 := by decide +kernel
theorem zd_X7_blanket : yX7_blanket.cls = RX7 ∧ yX7_blanket.cls ≠ "java/lang/invoke/MethodHandle" ∧ yX7_blanket.cls ≠ "java/lang/invoke/VarHandle" ∧ (parseMethodDescriptor yX7_blanket.desc).map (fun d => d.parameters.length) = some 3 := by decide +kernel
theorem zd_X7_busy : yX7_busy.cls = RX7 ∧ yX7_busy.cls ≠ "java/lang/invoke/MethodHandle" ∧ yX7_busy.cls ≠ "java/lang/invoke/VarHandle" ∧ (parseMethodDescriptor yX7_busy.desc).map (fun d => d.parameters.length) = some 2 := by decide +kernel
theorem zd_X7_clear : yX7_clear.cls = RX7 ∧ yX7_clear.cls ≠ "java/lang/invoke/MethodHandle" ∧ yX7_clear.cls ≠ "java/lang/invoke/VarHandle" ∧ (parseMethodDescriptor yX7_clear.desc).map (fun d => d.parameters.length) = some 0 := by decide +kernel
theorem zd_X7_coolest : yX7_coolest.cls = RX7 ∧ yX7_coolest.cls ≠ "java/lang/invoke/MethodHandle" ∧ yX7_coolest.cls ≠ "java/lang/invoke/VarHandle" ∧ (parseMethodDescriptor yX7_coolest.desc).map (fun d => d.parameters.length) = some 2 := by decide +kernel
theorem zd_X7_count : yX7_count.cls = RX7 ∧ yX7_count.cls ≠ "java/lang/invoke/MethodHandle" ∧ yX7_count.cls ≠ "java/lang/invoke/VarHandle" ∧ (parseMethodDescriptor yX7_count.desc).map (fun d => d.parameters.length) = some 1 := by decide +kernel
theorem zd_X7_first : yX7_first.cls = RX7 ∧ yX7_first.cls ≠ "java/lang/invoke/MethodHandle" ∧ yX7_first.cls ≠ "java/lang/invoke/VarHandle" ∧ (parseMethodDescriptor yX7_first.desc).map (fun d => d.parameters.length) = some 1 := by decide +kernel
theorem zd_X7_forget : yX7_forget.cls = RX7 ∧ yX7_forget.cls ≠ "java/lang/invoke/MethodHandle" ∧ yX7_forget.cls ≠ "java/lang/invoke/VarHandle" ∧ (parseMethodDescriptor yX7_forget.desc).map (fun d => d.parameters.length) = some 0 := by decide +kernel
theorem zd_X7_harm : yX7_harm.cls = RX7 ∧ yX7_harm.cls ≠ "java/lang/invoke/MethodHandle" ∧ yX7_harm.cls ≠ "java/lang/invoke/VarHandle" ∧ (parseMethodDescriptor yX7_harm.desc).map (fun d => d.parameters.length) = some 2 := by decide +kernel
theorem zd_X7_holes : yX7_holes.cls = RX7 ∧ yX7_holes.cls ≠ "java/lang/invoke/MethodHandle" ∧ yX7_holes.cls ≠ "java/lang/invoke/VarHandle" ∧ (parseMethodDescriptor yX7_holes.desc).map (fun d => d.parameters.length) = some 1 := by decide +kernel
theorem zd_X7_hour : yX7_hour.cls = RX7 ∧ yX7_hour.cls ≠ "java/lang/invoke/MethodHandle" ∧ yX7_hour.cls ≠ "java/lang/invoke/VarHandle" ∧ (parseMethodDescriptor yX7_hour.desc).map (fun d => d.parameters.length) = some 0 := by decide +kernel
theorem zd_X7_keep : yX7_keep.cls = RX7 ∧ yX7_keep.cls ≠ "java/lang/invoke/MethodHandle" ∧ yX7_keep.cls ≠ "java/lang/invoke/VarHandle" ∧ (parseMethodDescriptor yX7_keep.desc).map (fun d => d.parameters.length) = some 1 := by decide +kernel
theorem zd_X7_mark : yX7_mark.cls = RX7 ∧ yX7_mark.cls ≠ "java/lang/invoke/MethodHandle" ∧ yX7_mark.cls ≠ "java/lang/invoke/VarHandle" ∧ (parseMethodDescriptor yX7_mark.desc).map (fun d => d.parameters.length) = some 2 := by decide +kernel
theorem zd_X7_mirror : yX7_mirror.cls = RX7 ∧ yX7_mirror.cls ≠ "java/lang/invoke/MethodHandle" ∧ yX7_mirror.cls ≠ "java/lang/invoke/VarHandle" ∧ (parseMethodDescriptor yX7_mirror.desc).map (fun d => d.parameters.length) = some 2 := by decide +kernel
theorem zd_X7_now : yX7_now.cls = RX7 ∧ yX7_now.cls ≠ "java/lang/invoke/MethodHandle" ∧ yX7_now.cls ≠ "java/lang/invoke/VarHandle" ∧ (parseMethodDescriptor yX7_now.desc).map (fun d => d.parameters.length) = some 1 := by decide +kernel
theorem zd_X7_rest : yX7_rest.cls = RX7 ∧ yX7_rest.cls ≠ "java/lang/invoke/MethodHandle" ∧ yX7_rest.cls ≠ "java/lang/invoke/VarHandle" ∧ (parseMethodDescriptor yX7_rest.desc).map (fun d => d.parameters.length) = some 0 := by decide +kernel
theorem zd_X7_saw : yX7_saw.cls = RX7 ∧ yX7_saw.cls ≠ "java/lang/invoke/MethodHandle" ∧ yX7_saw.cls ≠ "java/lang/invoke/VarHandle" ∧ (parseMethodDescriptor yX7_saw.desc).map (fun d => d.parameters.length) = some 3 := by decide +kernel
theorem zd_X7_sees : yX7_sees.cls = RX7 ∧ yX7_sees.cls ≠ "java/lang/invoke/MethodHandle" ∧ yX7_sees.cls ≠ "java/lang/invoke/VarHandle" ∧ (parseMethodDescriptor yX7_sees.desc).map (fun d => d.parameters.length) = some 2 := by decide +kernel
theorem zd_X7_shut : yX7_shut.cls = RX7 ∧ yX7_shut.cls ≠ "java/lang/invoke/MethodHandle" ∧ yX7_shut.cls ≠ "java/lang/invoke/VarHandle" ∧ (parseMethodDescriptor yX7_shut.desc).map (fun d => d.parameters.length) = some 2 := by decide +kernel
theorem zd_X7_trace : yX7_trace.cls = RX7 ∧ yX7_trace.cls ≠ "java/lang/invoke/MethodHandle" ∧ yX7_trace.cls ≠ "java/lang/invoke/VarHandle" ∧ (parseMethodDescriptor yX7_trace.desc).map (fun d => d.parameters.length) = some 0 := by decide +kernel
theorem zd_X7_type : yX7_type.cls = RX7 ∧ yX7_type.cls ≠ "java/lang/invoke/MethodHandle" ∧ yX7_type.cls ≠ "java/lang/invoke/VarHandle" ∧ (parseMethodDescriptor yX7_type.desc).map (fun d => d.parameters.length) = some 2 := by decide +kernel
theorem zd_X7_undo : yX7_undo.cls = RX7 ∧ yX7_undo.cls ≠ "java/lang/invoke/MethodHandle" ∧ yX7_undo.cls ≠ "java/lang/invoke/VarHandle" ∧ (parseMethodDescriptor yX7_undo.desc).map (fun d => d.parameters.length) = some 0 := by decide +kernel
theorem zd_X7_wall : yX7_wall.cls = RX7 ∧ yX7_wall.cls ≠ "java/lang/invoke/MethodHandle" ∧ yX7_wall.cls ≠ "java/lang/invoke/VarHandle" ∧ (parseMethodDescriptor yX7_wall.desc).map (fun d => d.parameters.length) = some 2 := by decide +kernel
theorem zd_X7_walls : yX7_walls.cls = RX7 ∧ yX7_walls.cls ≠ "java/lang/invoke/MethodHandle" ∧ yX7_walls.cls ≠ "java/lang/invoke/VarHandle" ∧ (parseMethodDescriptor yX7_walls.desc).map (fun d => d.parameters.length) = some 0 := by decide +kernel
theorem zd_X8_back : yX8_back.cls = RX8 ∧ yX8_back.cls ≠ "java/lang/invoke/MethodHandle" ∧ yX8_back.cls ≠ "java/lang/invoke/VarHandle" ∧ (parseMethodDescriptor yX8_back.desc).map (fun d => d.parameters.length) = some 1 := by decide +kernel
theorem zd_X8_behind : yX8_behind.cls = RX8 ∧ yX8_behind.cls ≠ "java/lang/invoke/MethodHandle" ∧ yX8_behind.cls ≠ "java/lang/invoke/VarHandle" ∧ (parseMethodDescriptor yX8_behind.desc).map (fun d => d.parameters.length) = some 2 := by decide +kernel
theorem zd_X8_blanket : yX8_blanket.cls = RX8 ∧ yX8_blanket.cls ≠ "java/lang/invoke/MethodHandle" ∧ yX8_blanket.cls ≠ "java/lang/invoke/VarHandle" ∧ (parseMethodDescriptor yX8_blanket.desc).map (fun d => d.parameters.length) = some 3 := by decide +kernel
theorem zd_X8_busy : yX8_busy.cls = RX8 ∧ yX8_busy.cls ≠ "java/lang/invoke/MethodHandle" ∧ yX8_busy.cls ≠ "java/lang/invoke/VarHandle" ∧ (parseMethodDescriptor yX8_busy.desc).map (fun d => d.parameters.length) = some 2 := by decide +kernel
theorem zd_X8_clear : yX8_clear.cls = RX8 ∧ yX8_clear.cls ≠ "java/lang/invoke/MethodHandle" ∧ yX8_clear.cls ≠ "java/lang/invoke/VarHandle" ∧ (parseMethodDescriptor yX8_clear.desc).map (fun d => d.parameters.length) = some 0 := by decide +kernel
theorem zd_X8_coolest : yX8_coolest.cls = RX8 ∧ yX8_coolest.cls ≠ "java/lang/invoke/MethodHandle" ∧ yX8_coolest.cls ≠ "java/lang/invoke/VarHandle" ∧ (parseMethodDescriptor yX8_coolest.desc).map (fun d => d.parameters.length) = some 2 := by decide +kernel
theorem zd_X8_count : yX8_count.cls = RX8 ∧ yX8_count.cls ≠ "java/lang/invoke/MethodHandle" ∧ yX8_count.cls ≠ "java/lang/invoke/VarHandle" ∧ (parseMethodDescriptor yX8_count.desc).map (fun d => d.parameters.length) = some 1 := by decide +kernel
theorem zd_X8_first : yX8_first.cls = RX8 ∧ yX8_first.cls ≠ "java/lang/invoke/MethodHandle" ∧ yX8_first.cls ≠ "java/lang/invoke/VarHandle" ∧ (parseMethodDescriptor yX8_first.desc).map (fun d => d.parameters.length) = some 1 := by decide +kernel
theorem zd_X8_forget : yX8_forget.cls = RX8 ∧ yX8_forget.cls ≠ "java/lang/invoke/MethodHandle" ∧ yX8_forget.cls ≠ "java/lang/invoke/VarHandle" ∧ (parseMethodDescriptor yX8_forget.desc).map (fun d => d.parameters.length) = some 0 := by decide +kernel
theorem zd_X8_harm : yX8_harm.cls = RX8 ∧ yX8_harm.cls ≠ "java/lang/invoke/MethodHandle" ∧ yX8_harm.cls ≠ "java/lang/invoke/VarHandle" ∧ (parseMethodDescriptor yX8_harm.desc).map (fun d => d.parameters.length) = some 2 := by decide +kernel
theorem zd_X8_holes : yX8_holes.cls = RX8 ∧ yX8_holes.cls ≠ "java/lang/invoke/MethodHandle" ∧ yX8_holes.cls ≠ "java/lang/invoke/VarHandle" ∧ (parseMethodDescriptor yX8_holes.desc).map (fun d => d.parameters.length) = some 1 := by decide +kernel
theorem zd_X8_hour : yX8_hour.cls = RX8 ∧ yX8_hour.cls ≠ "java/lang/invoke/MethodHandle" ∧ yX8_hour.cls ≠ "java/lang/invoke/VarHandle" ∧ (parseMethodDescriptor yX8_hour.desc).map (fun d => d.parameters.length) = some 0 := by decide +kernel
theorem zd_X8_keep : yX8_keep.cls = RX8 ∧ yX8_keep.cls ≠ "java/lang/invoke/MethodHandle" ∧ yX8_keep.cls ≠ "java/lang/invoke/VarHandle" ∧ (parseMethodDescriptor yX8_keep.desc).map (fun d => d.parameters.length) = some 1 := by decide +kernel
theorem zd_X8_mark : yX8_mark.cls = RX8 ∧ yX8_mark.cls ≠ "java/lang/invoke/MethodHandle" ∧ yX8_mark.cls ≠ "java/lang/invoke/VarHandle" ∧ (parseMethodDescriptor yX8_mark.desc).map (fun d => d.parameters.length) = some 2 := by decide +kernel
theorem zd_X8_mirror : yX8_mirror.cls = RX8 ∧ yX8_mirror.cls ≠ "java/lang/invoke/MethodHandle" ∧ yX8_mirror.cls ≠ "java/lang/invoke/VarHandle" ∧ (parseMethodDescriptor yX8_mirror.desc).map (fun d => d.parameters.length) = some 2 := by decide +kernel
theorem zd_X8_now : yX8_now.cls = RX8 ∧ yX8_now.cls ≠ "java/lang/invoke/MethodHandle" ∧ yX8_now.cls ≠ "java/lang/invoke/VarHandle" ∧ (parseMethodDescriptor yX8_now.desc).map (fun d => d.parameters.length) = some 1 := by decide +kernel
theorem zd_X8_rest : yX8_rest.cls = RX8 ∧ yX8_rest.cls ≠ "java/lang/invoke/MethodHandle" ∧ yX8_rest.cls ≠ "java/lang/invoke/VarHandle" ∧ (parseMethodDescriptor yX8_rest.desc).map (fun d => d.parameters.length) = some 0 := by decide +kernel
theorem zd_X8_saw : yX8_saw.cls = RX8 ∧ yX8_saw.cls ≠ "java/lang/invoke/MethodHandle" ∧ yX8_saw.cls ≠ "java/lang/invoke/VarHandle" ∧ (parseMethodDescriptor yX8_saw.desc).map (fun d => d.parameters.length) = some 3 := by decide +kernel
theorem zd_X8_sees : yX8_sees.cls = RX8 ∧ yX8_sees.cls ≠ "java/lang/invoke/MethodHandle" ∧ yX8_sees.cls ≠ "java/lang/invoke/VarHandle" ∧ (parseMethodDescriptor yX8_sees.desc).map (fun d => d.parameters.length) = some 2 := by decide +kernel
theorem zd_X8_shut : yX8_shut.cls = RX8 ∧ yX8_shut.cls ≠ "java/lang/invoke/MethodHandle" ∧ yX8_shut.cls ≠ "java/lang/invoke/VarHandle" ∧ (parseMethodDescriptor yX8_shut.desc).map (fun d => d.parameters.length) = some 2 := by decide +kernel
theorem zd_X8_trace : yX8_trace.cls = RX8 ∧ yX8_trace.cls ≠ "java/lang/invoke/MethodHandle" ∧ yX8_trace.cls ≠ "java/lang/invoke/VarHandle" ∧ (parseMethodDescriptor yX8_trace.desc).map (fun d => d.parameters.length) = some 0 := by decide +kernel
theorem zd_X8_type : yX8_type.cls = RX8 ∧ yX8_type.cls ≠ "java/lang/invoke/MethodHandle" ∧ yX8_type.cls ≠ "java/lang/invoke/VarHandle" ∧ (parseMethodDescriptor yX8_type.desc).map (fun d => d.parameters.length) = some 2 := by decide +kernel
theorem zd_X8_undo : yX8_undo.cls = RX8 ∧ yX8_undo.cls ≠ "java/lang/invoke/MethodHandle" ∧ yX8_undo.cls ≠ "java/lang/invoke/VarHandle" ∧ (parseMethodDescriptor yX8_undo.desc).map (fun d => d.parameters.length) = some 0 := by decide +kernel
theorem zd_X8_wall : yX8_wall.cls = RX8 ∧ yX8_wall.cls ≠ "java/lang/invoke/MethodHandle" ∧ yX8_wall.cls ≠ "java/lang/invoke/VarHandle" ∧ (parseMethodDescriptor yX8_wall.desc).map (fun d => d.parameters.length) = some 2 := by decide +kernel
theorem zd_X8_walls : yX8_walls.cls = RX8 ∧ yX8_walls.cls ≠ "java/lang/invoke/MethodHandle" ∧ yX8_walls.cls ≠ "java/lang/invoke/VarHandle" ∧ (parseMethodDescriptor yX8_walls.desc).map (fun d => d.parameters.length) = some 0 := by decide +kernel
theorem zs_sw25 {x : Int32} (h0 : ¬ x = (0 : Int32)) (h1 : ¬ x = (1 : Int32)) (h2 : ¬ x = (2 : Int32)) (h3 : ¬ x = (3 : Int32)) (h4 : ¬ x = (4 : Int32)) (h5 : ¬ x = (5 : Int32)) (h6 : ¬ x = (6 : Int32)) (h7 : ¬ x = (7 : Int32)) (h8 : ¬ x = (8 : Int32)) (h9 : ¬ x = (9 : Int32)) (h10 : ¬ x = (10 : Int32)) (h11 : ¬ x = (11 : Int32)) (h12 : ¬ x = (12 : Int32)) (h13 : ¬ x = (13 : Int32)) (h14 : ¬ x = (14 : Int32)) (h15 : ¬ x = (15 : Int32)) (h16 : ¬ x = (16 : Int32)) (h17 : ¬ x = (17 : Int32)) (h18 : ¬ x = (18 : Int32)) (h19 : ¬ x = (19 : Int32)) (h20 : ¬ x = (20 : Int32)) (h21 : ¬ x = (21 : Int32)) (h22 : ¬ x = (22 : Int32)) (h23 : ¬ x = (23 : Int32)) (h24 : ¬ x = (24 : Int32)) : x.toInt < 0 ∨ (24 : Int) < x.toInt := by
  have e0 := zs_ne (n := 0) (by decide) h0
  have e1 := zs_ne (n := 1) (by decide) h1
  have e2 := zs_ne (n := 2) (by decide) h2
  have e3 := zs_ne (n := 3) (by decide) h3
  have e4 := zs_ne (n := 4) (by decide) h4
  have e5 := zs_ne (n := 5) (by decide) h5
  have e6 := zs_ne (n := 6) (by decide) h6
  have e7 := zs_ne (n := 7) (by decide) h7
  have e8 := zs_ne (n := 8) (by decide) h8
  have e9 := zs_ne (n := 9) (by decide) h9
  have e10 := zs_ne (n := 10) (by decide) h10
  have e11 := zs_ne (n := 11) (by decide) h11
  have e12 := zs_ne (n := 12) (by decide) h12
  have e13 := zs_ne (n := 13) (by decide) h13
  have e14 := zs_ne (n := 14) (by decide) h14
  have e15 := zs_ne (n := 15) (by decide) h15
  have e16 := zs_ne (n := 16) (by decide) h16
  have e17 := zs_ne (n := 17) (by decide) h17
  have e18 := zs_ne (n := 18) (by decide) h18
  have e19 := zs_ne (n := 19) (by decide) h19
  have e20 := zs_ne (n := 20) (by decide) h20
  have e21 := zs_ne (n := 21) (by decide) h21
  have e22 := zs_ne (n := 22) (by decide) h22
  have e23 := zs_ne (n := 23) (by decide) h23
  have e24 := zs_ne (n := 24) (by decide) h24
  omega
set_option maxRecDepth 100000 in
set_option maxHeartbeats 8000000 in
theorem law_loop {p : Program} {l : Launch} {e : Env} {s : State} {m : MethodId} {below : List Frame} {meth : Method} {c : Code} {b L : Nat} {xs : Nat → Int32} (C0 : lw_At p s m meth c b L xs) (G : GG) (hK : zs_E G (fun q => s.heap.size ≤ q) s) (aXm aTx aRd aPr aSg aAh aIm0 aIm1 aMd aTk aTn aYi : Ad) (n : Nat) (Xm : Ob) (tr : Int64) (Tx : Ob) (Rd : Ob) (Tk : Ob) (Pr : Ob) (Sg : Ob) (Ah : Ob) (Tn : Ob) (Yi : Ob) (Im0 : Ob) (Im1 : Ob) (Yt : Ob) (Yr : Ob) (Md : Ob) (mt : Int64) (aYt : Ad) (aYr : Ad) (x3 : Int32) (H : Heap) (locs : List Loc) (ls : Array Slot) (S : zs_S G (fun q => s.heap.size ≤ q) s.heap H locs (zs_fl [wX7 G aXm aTx aRd aPr aSg aAh aIm0 aIm1 aYt aYr Xm tr, wX8 G aMd Md mt, wX4 G aTx Tx, wX2 G aRd aTk Rd, wX5 G aTk Tk, wX1 G aPr Pr, wX3 G aSg Sg, wX0 G aAh aTn aYi Ah, wX1 G aTn Tn, wX6 G aYi Yi, wX1 G aIm0 Im0, wX1 G aIm1 Im1, wX6 G aYt Yt, wX6 G aYr Yr])) (hl : lv_has ls 4 [(0, .ref b), (1, .ref (aXm 0)), (2, .ref (aMd 0)), (3, .int x3)]) (hF : F_L_law_18 xs L n Xm tr Tx Rd Tk Pr Sg Ah Tn Yi Im0 Im1 Yt Yr Md mt aYt aYr x3 = some 1) : W p l e room_1 s m #[Value.ref b] below meth c H locs NCL NSL (lw_Z below #[Value.ref b] s) (F0 m 18 ls []) := by
  obtain ⟨hx, hb, hr, hml, hown, hts, hX, hbl, hlocks, hgv⟩ := C0
  have hA : ∀ q : Nat, s.heap.size ≤ q → (fun q : Nat => s.heap.size ≤ q) q := fun _ h => h
  have hbA : ¬ (fun q : Nat => s.heap.size ≤ q) b := Nat.not_le.mpr hbl
  have C : zs_C p s m #[Value.ref b] meth c cL_law 4 ret wsL_law RL := ⟨⟨hx, hb, hml, hown, fun w h => hts w (wsL_law_in w h)⟩, hr, hlocks⟩
  revert hK S hA hbA
  generalize hAe : (fun q : Nat => s.heap.size ≤ q) = A
  intro hK S hA hbA
  have j18 : ∀ (n18 : Nat) (Xm : Ob) (tr : Int64) (Tx : Ob) (Rd : Ob) (Tk : Ob) (Pr : Ob) (Sg : Ob) (Ah : Ob) (Tn : Ob) (Yi : Ob) (Im0 : Ob) (Im1 : Ob) (Yt : Ob) (Yr : Ob) (Md : Ob) (mt : Int64) (aYt : Ad) (aYr : Ad) (x3 : Int32) (H : Heap) (locs : List Loc) (ls : Array Slot), zs_S G A s.heap H locs (zs_fl [wX7 G aXm aTx aRd aPr aSg aAh aIm0 aIm1 aYt aYr Xm tr, wX8 G aMd Md mt, wX4 G aTx Tx, wX2 G aRd aTk Rd, wX5 G aTk Tk, wX1 G aPr Pr, wX3 G aSg Sg, wX0 G aAh aTn aYi Ah, wX1 G aTn Tn, wX6 G aYi Yi, wX1 G aIm0 Im0, wX1 G aIm1 Im1, wX6 G aYt Yt, wX6 G aYr Yr]) → lv_has ls 4 [(0, .ref b), (1, .ref (aXm 0)), (2, .ref (aMd 0)), (3, .int x3)] → F_L_law_18 xs L n18 Xm tr Tx Rd Tk Pr Sg Ah Tn Yi Im0 Im1 Yt Yr Md mt aYt aYr x3 = some (1 : Int32) → W p l e room_1 s m #[Value.ref b] below meth c H locs NCL NSL (lw_Z below #[Value.ref b] s) (F0 m 18 ls []) := by
    intro n18
    induction n18 with
    | zero => intro Xm tr Tx Rd Tk Pr Sg Ah Tn Yi Im0 Im1 Yt Yr Md mt aYt aYr x3 H locs ls _ _ hF; rw [F_L_law_18_z] at hF; cases hF
    | succ n18 ih18 =>
      have j824 : ∀ (Xm : Ob) (tr : Int64) (Tx : Ob) (Rd : Ob) (Tk : Ob) (Pr : Ob) (Sg : Ob) (Ah : Ob) (Tn : Ob) (Yi : Ob) (Im0 : Ob) (Im1 : Ob) (Yt : Ob) (Yr : Ob) (Md : Ob) (mt : Int64) (aYt : Ad) (aYr : Ad) (x3 : Int32) (H : Heap) (locs : List Loc) (ls : Array Slot), zs_S G A s.heap H locs (zs_fl [wX7 G aXm aTx aRd aPr aSg aAh aIm0 aIm1 aYt aYr Xm tr, wX8 G aMd Md mt, wX4 G aTx Tx, wX2 G aRd aTk Rd, wX5 G aTk Tk, wX1 G aPr Pr, wX3 G aSg Sg, wX0 G aAh aTn aYi Ah, wX1 G aTn Tn, wX6 G aYi Yi, wX1 G aIm0 Im0, wX1 G aIm1 Im1, wX6 G aYt Yt, wX6 G aYr Yr]) → lv_has ls 4 [(0, .ref b), (1, .ref (aXm 0)), (2, .ref (aMd 0)), (3, .int x3)] → F_L_law_824 xs L (F_L_law_18 xs L n18) Xm tr Tx Rd Tk Pr Sg Ah Tn Yi Im0 Im1 Yt Yr Md mt aYt aYr x3 = some (1 : Int32) → W p l e room_1 s m #[Value.ref b] below meth c H locs NCL NSL (lw_Z below #[Value.ref b] s) (F0 m 824 ls []) := by
        intro Xm tr Tx Rd Tk Pr Sg Ah Tn Yi Im0 Im1 Yt Yr Md mt aYt aYr x3 H locs ls S hl hF
        unfold F_L_law_824 at hF
        obtain ⟨z1, e2⟩ : ∃ q : Int32, q = x3 + (4 : Int32) := ⟨_, rfl⟩
        have hF := zs_letS hF e2
        refine lv_iinc (v := z1) (lv' := [(3, .int z1), (0, .ref b), (1, .ref (aXm 0)), (2, .ref (aMd 0))]) hx hb dL_law_824 hl (k := 3) rfl (by rw [e2]; rfl) (by decide) rfl (fun ls hl => ?_)
        refine lv_goto (tgt := 18) hx hb dL_law_827 (by decide) ?_
        exact ih18 Xm tr Tx Rd Tk Pr Sg Ah Tn Yi Im0 Im1 Yt Yr Md mt aYt aYr z1 _ _ _ S (lv_sub hl [1, 2, 3, 0] rfl) hF
      have j810 : ∀ (Xm : Ob) (tr : Int64) (Tx : Ob) (Rd : Ob) (Tk : Ob) (Pr : Ob) (Sg : Ob) (Ah : Ob) (Tn : Ob) (Yi : Ob) (Im0 : Ob) (Im1 : Ob) (Yt : Ob) (Yr : Ob) (Md : Ob) (mt : Int64) (aYt : Ad) (aYr : Ad) (x3 : Int32) (H : Heap) (locs : List Loc) (ls : Array Slot), zs_S G A s.heap H locs (zs_fl [wX7 G aXm aTx aRd aPr aSg aAh aIm0 aIm1 aYt aYr Xm tr, wX8 G aMd Md mt, wX4 G aTx Tx, wX2 G aRd aTk Rd, wX5 G aTk Tk, wX1 G aPr Pr, wX3 G aSg Sg, wX0 G aAh aTn aYi Ah, wX1 G aTn Tn, wX6 G aYi Yi, wX1 G aIm0 Im0, wX1 G aIm1 Im1, wX6 G aYt Yt, wX6 G aYr Yr]) → lv_has ls 4 [(0, .ref b), (1, .ref (aXm 0)), (2, .ref (aMd 0)), (3, .int x3)] → F_L_law_810 xs L (F_L_law_18 xs L n18) Xm tr Tx Rd Tk Pr Sg Ah Tn Yi Im0 Im1 Yt Yr Md mt aYt aYr x3 = some (1 : Int32) → W p l e room_1 s m #[Value.ref b] below meth c H locs NCL NSL (lw_Z below #[Value.ref b] s) (F0 m 810 ls []) := by
        intro Xm tr Tx Rd Tk Pr Sg Ah Tn Yi Im0 Im1 Yt Yr Md mt aYt aYr x3 H locs ls S hl hF
        unfold F_L_law_810 at hF
        refine lv_aload_n hx hb dL_law_810 rfl (lv_at hl 1 rfl) ?_
        obtain ⟨r3, f4, hF⟩ := zs_bdS hF
        have S1 := zs_cut (Rs := [wX8 G aMd Md mt, wX4 G aTx Tx, wX2 G aRd aTk Rd, wX5 G aTk Tk, wX1 G aPr Pr, wX3 G aSg Sg, wX0 G aAh aTn aYi Ah, wX1 G aTn Tn, wX6 G aYi Yi, wX1 G aIm0 Im0, wX1 G aIm1 Im1, wX6 G aYt Yt, wX6 G aYr Yr]) S 14 [1, 2, 3, 4, 5, 6, 7, 8, 9, 10, 11, 12, 13] [0] rfl rfl rfl (by decide) (zs_f1 _)
        refine zs_ll (Bs' := [wX7 G aXm aTx aRd aPr aSg aAh aIm0 aIm1 aYt aYr Xm tr, wX8 G aMd Md mt, wX4 G aTx Tx, wX2 G aRd aTk Rd, wX5 G aTk Tk, wX1 G aPr Pr, wX3 G aSg Sg, wX0 G aAh aTn aYi Ah, wX1 G aTn Tn, wX6 G aYi Yi, wX1 G aIm0 Im0, wX1 G aIm1 Im1, wX6 G aYt Yt, wX6 G aYr Yr]) S1 hA 14 [1, 2, 3, 4, 5, 6, 7, 8, 9, 10, 11, 12, 13] [0] (zs_lrun C hK hA S S1 [] [] 0 0 (c_X7_trace (l) (G) (aXm) (aTx) (aRd) (aPr) (aSg) (aAh) (aIm0) (aIm1) (aYt) (aYr) (Xm) (tr) (H.size) (r3) (f4)) gL_law_X7_trace rfl rfl rfl zd_X7_trace ⟨(Nat.le_of_ble_eq_true rfl), (Nat.le_of_ble_eq_true rfl)⟩ rfl rfl rfl hl rfl (Nat.le_of_ble_eq_true rfl) dL_law_811 ⟨(Nat.le_of_ble_eq_true rfl), (Nat.le_of_ble_eq_true rfl)⟩) (zs_f1 _) rfl rfl rfl (by decide) (fun H locs S => ?_)
        refine lv_aload_n hx hb dL_law_814 rfl (lv_at hl 2 rfl) ?_
        obtain ⟨r5, f6, hF⟩ := zs_bdS hF
        have S1 := zs_cut (Rs := [wX7 G aXm aTx aRd aPr aSg aAh aIm0 aIm1 aYt aYr Xm tr, wX4 G aTx Tx, wX2 G aRd aTk Rd, wX5 G aTk Tk, wX1 G aPr Pr, wX3 G aSg Sg, wX0 G aAh aTn aYi Ah, wX1 G aTn Tn, wX6 G aYi Yi, wX1 G aIm0 Im0, wX1 G aIm1 Im1, wX6 G aYt Yt, wX6 G aYr Yr]) S 14 [0, 2, 3, 4, 5, 6, 7, 8, 9, 10, 11, 12, 13] [1] rfl rfl rfl (by decide) (zs_f1 _)
        refine zs_ll (Bs' := [wX7 G aXm aTx aRd aPr aSg aAh aIm0 aIm1 aYt aYr Xm tr, wX8 G aMd Md mt, wX4 G aTx Tx, wX2 G aRd aTk Rd, wX5 G aTk Tk, wX1 G aPr Pr, wX3 G aSg Sg, wX0 G aAh aTn aYi Ah, wX1 G aTn Tn, wX6 G aYi Yi, wX1 G aIm0 Im0, wX1 G aIm1 Im1, wX6 G aYt Yt, wX6 G aYr Yr]) S1 hA 14 [0, 2, 3, 4, 5, 6, 7, 8, 9, 10, 11, 12, 13] [1] (zs_lrun C hK hA S S1 [] [.long r3] 2 0 (c_X8_trace (l) (G) (aMd) (Md) (mt) (H.size) (r5) (f6)) gL_law_X8_trace rfl rfl rfl zd_X8_trace ⟨(Nat.le_of_ble_eq_true rfl), (Nat.le_of_ble_eq_true rfl)⟩ rfl rfl rfl hl rfl (Nat.le_of_ble_eq_true rfl) dL_law_815 ⟨(Nat.le_of_ble_eq_true rfl), (Nat.le_of_ble_eq_true rfl)⟩) (zs_f1 _) rfl rfl rfl (by decide) (fun H locs S => ?_)
        refine W.lcmp hx hb dL_law_818 ?_
        refine lv_if_eq (tgt := 824) hx hb dL_law_819 (by decide) (fun c7 => ?_) (fun c7 => ?_)
        · have hF := zs_t hF c7
          exact j824 Xm tr Tx Rd Tk Pr Sg Ah Tn Yi Im0 Im1 Yt Yr Md mt aYt aYr x3 _ _ _ S (lv_sub hl [0, 1, 2, 3] rfl) hF
        · have hF := zs_f hF c7
          refine lv_iconst (v := (0 : Int32)) hx hb dL_law_822 (by decide) ?_
          exact absurd (zs_s1 hF) (by decide)
      have j787 : ∀ (Xm : Ob) (tr : Int64) (Tx : Ob) (Rd : Ob) (Tk : Ob) (Pr : Ob) (Sg : Ob) (Ah : Ob) (Tn : Ob) (Yi : Ob) (Im0 : Ob) (Im1 : Ob) (Yt : Ob) (Yr : Ob) (Md : Ob) (mt : Int64) (aYt : Ad) (aYr : Ad) (x3 : Int32) (H : Heap) (locs : List Loc) (ls : Array Slot), zs_S G A s.heap H locs (zs_fl [wX7 G aXm aTx aRd aPr aSg aAh aIm0 aIm1 aYt aYr Xm tr, wX8 G aMd Md mt, wX4 G aTx Tx, wX2 G aRd aTk Rd, wX5 G aTk Tk, wX1 G aPr Pr, wX3 G aSg Sg, wX0 G aAh aTn aYi Ah, wX1 G aTn Tn, wX6 G aYi Yi, wX1 G aIm0 Im0, wX1 G aIm1 Im1, wX6 G aYt Yt, wX6 G aYr Yr]) → lv_has ls 4 [(0, .ref b), (1, .ref (aXm 0)), (2, .ref (aMd 0)), (3, .int x3)] → F_L_law_787 xs L (F_L_law_18 xs L n18) Xm tr Tx Rd Tk Pr Sg Ah Tn Yi Im0 Im1 Yt Yr Md mt aYt aYr x3 = some (1 : Int32) → W p l e room_1 s m #[Value.ref b] below meth c H locs NCL NSL (lw_Z below #[Value.ref b] s) (F0 m 787 ls []) := by
        intro Xm tr Tx Rd Tk Pr Sg Ah Tn Yi Im0 Im1 Yt Yr Md mt aYt aYr x3 H locs ls S hl hF
        unfold F_L_law_787 at hF
        refine lv_aload_n hx hb dL_law_787 rfl (lv_at hl 1 rfl) ?_
        refine lv_aload_n hx hb dL_law_788 rfl (lv_at hl 0 rfl) ?_
        refine lv_iload_n hx hb dL_law_789 rfl (lv_at hl 3 rfl) ?_
        refine lv_iconst (v := (1 : Int32)) hx hb dL_law_790 (by decide) ?_
        refine lv_iadd hx hb dL_law_791 ?_
        obtain ⟨h8, hF⟩ := zs_ckS hF
        refine va_sld hx hb hX hbl hbA S.2.2 h8 dL_law_792 ?_
        obtain ⟨r9, f10, hF⟩ := zs_bdS hF
        have S1 := zs_cut (Rs := [wX8 G aMd Md mt, wX2 G aRd aTk Rd, wX5 G aTk Tk, wX0 G aAh aTn aYi Ah, wX1 G aTn Tn, wX6 G aYi Yi, wX1 G aIm0 Im0, wX1 G aIm1 Im1, wX6 G aYr Yr]) S 14 [1, 3, 4, 7, 8, 9, 10, 11, 13] [0, 2, 5, 6, 12] rfl rfl rfl (by decide) (zs_f5 _ _ _ _ _)
        refine zs_li (Bs' := [wX7 G aXm aTx aRd aPr aSg aAh aIm0 aIm1 aYt aYr Xm tr, wX8 G aMd Md mt, wX4 G aTx Tx, wX2 G aRd aTk Rd, wX5 G aTk Tk, wX1 G aPr Pr, wX3 G aSg Sg, wX0 G aAh aTn aYi Ah, wX1 G aTn Tn, wX6 G aYi Yi, wX1 G aIm0 Im0, wX1 G aIm1 Im1, wX6 G aYt Yt, wX6 G aYr Yr]) S1 hA 14 [1, 3, 4, 7, 8, 9, 10, 11, 13] [0, 2, 5, 6, 12] (zs_lrun C hK hA S S1 [.int (xs ((x3 + (1 : Int32))).toNatClampNeg)] [] 0 1 (c_X7_count (l) (G) (aXm) (aTx) (aRd) (aPr) (aSg) (aAh) (aIm0) (aIm1) (aYt) (aYr) (Xm) (tr) (Tx) (Pr) (Sg) (Yt) ((xs ((x3 + (1 : Int32))).toNatClampNeg)) (H.size) (r9) (f10)) gL_law_X7_count rfl rfl rfl zd_X7_count ⟨(Nat.le_of_ble_eq_true rfl), (Nat.le_of_ble_eq_true rfl)⟩ rfl rfl rfl hl rfl (Nat.le_of_ble_eq_true rfl) dL_law_793 ⟨(Nat.le_of_ble_eq_true rfl), (Nat.le_of_ble_eq_true rfl)⟩) (zs_f5 _ _ _ _ _) rfl rfl rfl (by decide) (fun H locs S => ?_)
        refine lv_aload_n hx hb dL_law_796 rfl (lv_at hl 2 rfl) ?_
        refine lv_aload_n hx hb dL_law_797 rfl (lv_at hl 0 rfl) ?_
        refine lv_iload_n hx hb dL_law_798 rfl (lv_at hl 3 rfl) ?_
        refine lv_iconst (v := (1 : Int32)) hx hb dL_law_799 (by decide) ?_
        refine lv_iadd hx hb dL_law_800 ?_
        obtain ⟨h11, hF⟩ := zs_ckS hF
        refine va_sld hx hb hX hbl hbA S.2.2 h11 dL_law_801 ?_
        obtain ⟨r12, f13, hF⟩ := zs_bdS hF
        have S1 := zs_cut (Rs := [wX7 G aXm aTx aRd aPr aSg aAh aIm0 aIm1 aYt aYr Xm tr, wX4 G aTx Tx, wX2 G aRd aTk Rd, wX5 G aTk Tk, wX1 G aPr Pr, wX3 G aSg Sg, wX0 G aAh aTn aYi Ah, wX1 G aTn Tn, wX6 G aYi Yi, wX1 G aIm0 Im0, wX1 G aIm1 Im1, wX6 G aYt Yt, wX6 G aYr Yr]) S 14 [0, 2, 3, 4, 5, 6, 7, 8, 9, 10, 11, 12, 13] [1] rfl rfl rfl (by decide) (zs_f1 _)
        refine zs_li (Bs' := [wX7 G aXm aTx aRd aPr aSg aAh aIm0 aIm1 aYt aYr Xm tr, wX8 G aMd Md mt, wX4 G aTx Tx, wX2 G aRd aTk Rd, wX5 G aTk Tk, wX1 G aPr Pr, wX3 G aSg Sg, wX0 G aAh aTn aYi Ah, wX1 G aTn Tn, wX6 G aYi Yi, wX1 G aIm0 Im0, wX1 G aIm1 Im1, wX6 G aYt Yt, wX6 G aYr Yr]) S1 hA 14 [0, 2, 3, 4, 5, 6, 7, 8, 9, 10, 11, 12, 13] [1] (zs_lrun C hK hA S S1 [.int (xs ((x3 + (1 : Int32))).toNatClampNeg)] [.int r9] 2 1 (c_X8_count (l) (G) (aMd) (Md) (mt) ((xs ((x3 + (1 : Int32))).toNatClampNeg)) (H.size) (r12) (f13)) gL_law_X8_count rfl rfl rfl zd_X8_count ⟨(Nat.le_of_ble_eq_true rfl), (Nat.le_of_ble_eq_true rfl)⟩ rfl rfl rfl hl rfl (Nat.le_of_ble_eq_true rfl) dL_law_802 ⟨(Nat.le_of_ble_eq_true rfl), (Nat.le_of_ble_eq_true rfl)⟩) (zs_f1 _) rfl rfl rfl (by decide) (fun H locs S => ?_)
        refine lv_icmp_eq (tgt := 824) hx hb dL_law_805 (by decide) (fun c14 => ?_) (fun c14 => ?_)
        · have hF := zs_t hF c14
          exact j824 Xm tr Tx Rd Tk Pr Sg Ah Tn Yi Im0 Im1 Yt Yr Md mt aYt aYr x3 _ _ _ S (lv_sub hl [0, 1, 2, 3] rfl) hF
        · have hF := zs_f hF c14
          refine lv_iconst (v := (0 : Int32)) hx hb dL_law_808 (by decide) ?_
          exact absurd (zs_s1 hF) (by decide)
      have j764 : ∀ (Xm : Ob) (tr : Int64) (Tx : Ob) (Rd : Ob) (Tk : Ob) (Pr : Ob) (Sg : Ob) (Ah : Ob) (Tn : Ob) (Yi : Ob) (Im0 : Ob) (Im1 : Ob) (Yt : Ob) (Yr : Ob) (Md : Ob) (mt : Int64) (aYt : Ad) (aYr : Ad) (x3 : Int32) (H : Heap) (locs : List Loc) (ls : Array Slot), zs_S G A s.heap H locs (zs_fl [wX7 G aXm aTx aRd aPr aSg aAh aIm0 aIm1 aYt aYr Xm tr, wX8 G aMd Md mt, wX4 G aTx Tx, wX2 G aRd aTk Rd, wX5 G aTk Tk, wX1 G aPr Pr, wX3 G aSg Sg, wX0 G aAh aTn aYi Ah, wX1 G aTn Tn, wX6 G aYi Yi, wX1 G aIm0 Im0, wX1 G aIm1 Im1, wX6 G aYt Yt, wX6 G aYr Yr]) → lv_has ls 4 [(0, .ref b), (1, .ref (aXm 0)), (2, .ref (aMd 0)), (3, .int x3)] → F_L_law_764 xs L (F_L_law_18 xs L n18) Xm tr Tx Rd Tk Pr Sg Ah Tn Yi Im0 Im1 Yt Yr Md mt aYt aYr x3 = some (1 : Int32) → W p l e room_1 s m #[Value.ref b] below meth c H locs NCL NSL (lw_Z below #[Value.ref b] s) (F0 m 764 ls []) := by
        intro Xm tr Tx Rd Tk Pr Sg Ah Tn Yi Im0 Im1 Yt Yr Md mt aYt aYr x3 H locs ls S hl hF
        unfold F_L_law_764 at hF
        refine lv_aload_n hx hb dL_law_764 rfl (lv_at hl 1 rfl) ?_
        refine lv_aload_n hx hb dL_law_765 rfl (lv_at hl 0 rfl) ?_
        refine lv_iload_n hx hb dL_law_766 rfl (lv_at hl 3 rfl) ?_
        refine lv_iconst (v := (1 : Int32)) hx hb dL_law_767 (by decide) ?_
        refine lv_iadd hx hb dL_law_768 ?_
        obtain ⟨h15, hF⟩ := zs_ckS hF
        refine va_sld hx hb hX hbl hbA S.2.2 h15 dL_law_769 ?_
        obtain ⟨r16, Prw17, f18, hF⟩ := zs_b2S hF
        have S1 := zs_cut (Rs := [wX8 G aMd Md mt, wX4 G aTx Tx, wX2 G aRd aTk Rd, wX5 G aTk Tk, wX3 G aSg Sg, wX0 G aAh aTn aYi Ah, wX1 G aTn Tn, wX6 G aYi Yi, wX6 G aYt Yt, wX6 G aYr Yr]) S 14 [1, 2, 3, 4, 6, 7, 8, 9, 12, 13] [0, 5, 10, 11] rfl rfl rfl (by decide) (zs_f4 _ _ _ _)
        refine zs_li (Bs' := [wX7 G aXm aTx aRd aPr aSg aAh aIm0 aIm1 aYt aYr Xm tr, wX8 G aMd Md mt, wX4 G aTx Tx, wX2 G aRd aTk Rd, wX5 G aTk Tk, wX1 G aPr Prw17, wX3 G aSg Sg, wX0 G aAh aTn aYi Ah, wX1 G aTn Tn, wX6 G aYi Yi, wX1 G aIm0 Im0, wX1 G aIm1 Im1, wX6 G aYt Yt, wX6 G aYr Yr]) S1 hA 14 [1, 2, 3, 4, 6, 7, 8, 9, 12, 13] [0, 5, 10, 11] (zs_lrun C hK hA S S1 [.int (xs ((x3 + (1 : Int32))).toNatClampNeg)] [] 0 1 (c_X7_back (l) (G) (aXm) (aTx) (aRd) (aPr) (aSg) (aAh) (aIm0) (aIm1) (aYt) (aYr) (Xm) (tr) (Pr) (Im0) (Im1) ((xs ((x3 + (1 : Int32))).toNatClampNeg)) (H.size) (r16) (Prw17) (f18)) gL_law_X7_back rfl rfl rfl zd_X7_back ⟨(Nat.le_of_ble_eq_true rfl), (Nat.le_of_ble_eq_true rfl)⟩ rfl rfl rfl hl rfl (Nat.le_of_ble_eq_true rfl) dL_law_770 ⟨(Nat.le_of_ble_eq_true rfl), (Nat.le_of_ble_eq_true rfl)⟩) (zs_f4 _ _ _ _) rfl rfl rfl (by decide) (fun H locs S => ?_)
        refine lv_aload_n hx hb dL_law_773 rfl (lv_at hl 2 rfl) ?_
        refine lv_aload_n hx hb dL_law_774 rfl (lv_at hl 0 rfl) ?_
        refine lv_iload_n hx hb dL_law_775 rfl (lv_at hl 3 rfl) ?_
        refine lv_iconst (v := (1 : Int32)) hx hb dL_law_776 (by decide) ?_
        refine lv_iadd hx hb dL_law_777 ?_
        obtain ⟨h19, hF⟩ := zs_ckS hF
        refine va_sld hx hb hX hbl hbA S.2.2 h19 dL_law_778 ?_
        obtain ⟨r20, Mdw21, f22, hF⟩ := zs_b2S hF
        have S1 := zs_cut (Rs := [wX7 G aXm aTx aRd aPr aSg aAh aIm0 aIm1 aYt aYr Xm tr, wX4 G aTx Tx, wX2 G aRd aTk Rd, wX5 G aTk Tk, wX1 G aPr Prw17, wX3 G aSg Sg, wX0 G aAh aTn aYi Ah, wX1 G aTn Tn, wX6 G aYi Yi, wX1 G aIm0 Im0, wX1 G aIm1 Im1, wX6 G aYt Yt, wX6 G aYr Yr]) S 14 [0, 2, 3, 4, 5, 6, 7, 8, 9, 10, 11, 12, 13] [1] rfl rfl rfl (by decide) (zs_f1 _)
        refine zs_li (Bs' := [wX7 G aXm aTx aRd aPr aSg aAh aIm0 aIm1 aYt aYr Xm tr, wX8 G aMd Mdw21 mt, wX4 G aTx Tx, wX2 G aRd aTk Rd, wX5 G aTk Tk, wX1 G aPr Prw17, wX3 G aSg Sg, wX0 G aAh aTn aYi Ah, wX1 G aTn Tn, wX6 G aYi Yi, wX1 G aIm0 Im0, wX1 G aIm1 Im1, wX6 G aYt Yt, wX6 G aYr Yr]) S1 hA 14 [0, 2, 3, 4, 5, 6, 7, 8, 9, 10, 11, 12, 13] [1] (zs_lrun C hK hA S S1 [.int (xs ((x3 + (1 : Int32))).toNatClampNeg)] [.int r16] 2 1 (c_X8_back (l) (G) (aMd) (Md) (mt) ((xs ((x3 + (1 : Int32))).toNatClampNeg)) (H.size) (r20) (Mdw21) (f22)) gL_law_X8_back rfl rfl rfl zd_X8_back ⟨(Nat.le_of_ble_eq_true rfl), (Nat.le_of_ble_eq_true rfl)⟩ rfl rfl rfl hl rfl (Nat.le_of_ble_eq_true rfl) dL_law_779 ⟨(Nat.le_of_ble_eq_true rfl), (Nat.le_of_ble_eq_true rfl)⟩) (zs_f1 _) rfl rfl rfl (by decide) (fun H locs S => ?_)
        refine lv_icmp_eq (tgt := 824) hx hb dL_law_782 (by decide) (fun c23 => ?_) (fun c23 => ?_)
        · have hF := zs_t hF c23
          exact j824 Xm tr Tx Rd Tk Prw17 Sg Ah Tn Yi Im0 Im1 Yt Yr Mdw21 mt aYt aYr x3 _ _ _ S (lv_sub hl [0, 1, 2, 3] rfl) hF
        · have hF := zs_f hF c23
          refine lv_iconst (v := (0 : Int32)) hx hb dL_law_785 (by decide) ?_
          exact absurd (zs_s1 hF) (by decide)
      have j741 : ∀ (Xm : Ob) (tr : Int64) (Tx : Ob) (Rd : Ob) (Tk : Ob) (Pr : Ob) (Sg : Ob) (Ah : Ob) (Tn : Ob) (Yi : Ob) (Im0 : Ob) (Im1 : Ob) (Yt : Ob) (Yr : Ob) (Md : Ob) (mt : Int64) (aYt : Ad) (aYr : Ad) (x3 : Int32) (H : Heap) (locs : List Loc) (ls : Array Slot), zs_S G A s.heap H locs (zs_fl [wX7 G aXm aTx aRd aPr aSg aAh aIm0 aIm1 aYt aYr Xm tr, wX8 G aMd Md mt, wX4 G aTx Tx, wX2 G aRd aTk Rd, wX5 G aTk Tk, wX1 G aPr Pr, wX3 G aSg Sg, wX0 G aAh aTn aYi Ah, wX1 G aTn Tn, wX6 G aYi Yi, wX1 G aIm0 Im0, wX1 G aIm1 Im1, wX6 G aYt Yt, wX6 G aYr Yr]) → lv_has ls 4 [(0, .ref b), (1, .ref (aXm 0)), (2, .ref (aMd 0)), (3, .int x3)] → F_L_law_741 xs L (F_L_law_18 xs L n18) Xm tr Tx Rd Tk Pr Sg Ah Tn Yi Im0 Im1 Yt Yr Md mt aYt aYr x3 = some (1 : Int32) → W p l e room_1 s m #[Value.ref b] below meth c H locs NCL NSL (lw_Z below #[Value.ref b] s) (F0 m 741 ls []) := by
        intro Xm tr Tx Rd Tk Pr Sg Ah Tn Yi Im0 Im1 Yt Yr Md mt aYt aYr x3 H locs ls S hl hF
        unfold F_L_law_741 at hF
        refine lv_aload_n hx hb dL_law_741 rfl (lv_at hl 1 rfl) ?_
        refine lv_aload_n hx hb dL_law_742 rfl (lv_at hl 0 rfl) ?_
        refine lv_iload_n hx hb dL_law_743 rfl (lv_at hl 3 rfl) ?_
        refine lv_iconst (v := (1 : Int32)) hx hb dL_law_744 (by decide) ?_
        refine lv_iadd hx hb dL_law_745 ?_
        obtain ⟨h24, hF⟩ := zs_ckS hF
        refine va_sld hx hb hX hbl hbA S.2.2 h24 dL_law_746 ?_
        obtain ⟨r25, Xmw26, Im0w27, Im1w28, f29, hF⟩ := zs_b4S hF
        have S1 := zs_cut (Rs := [wX8 G aMd Md mt, wX4 G aTx Tx, wX2 G aRd aTk Rd, wX5 G aTk Tk, wX3 G aSg Sg, wX0 G aAh aTn aYi Ah, wX1 G aTn Tn, wX6 G aYi Yi, wX6 G aYt Yt, wX6 G aYr Yr]) S 14 [1, 2, 3, 4, 6, 7, 8, 9, 12, 13] [0, 5, 10, 11] rfl rfl rfl (by decide) (zs_f4 _ _ _ _)
        refine zs_li (Bs' := [wX7 G aXm aTx aRd aPr aSg aAh aIm0 aIm1 aYt aYr Xmw26 tr, wX8 G aMd Md mt, wX4 G aTx Tx, wX2 G aRd aTk Rd, wX5 G aTk Tk, wX1 G aPr Pr, wX3 G aSg Sg, wX0 G aAh aTn aYi Ah, wX1 G aTn Tn, wX6 G aYi Yi, wX1 G aIm0 Im0w27, wX1 G aIm1 Im1w28, wX6 G aYt Yt, wX6 G aYr Yr]) S1 hA 14 [1, 2, 3, 4, 6, 7, 8, 9, 12, 13] [0, 5, 10, 11] (zs_lrun C hK hA S S1 [.int (xs ((x3 + (1 : Int32))).toNatClampNeg)] [] 0 1 (c_X7_keep (l) (G) (aXm) (aTx) (aRd) (aPr) (aSg) (aAh) (aIm0) (aIm1) (aYt) (aYr) (Xm) (tr) (Pr) (Im0) (Im1) ((xs ((x3 + (1 : Int32))).toNatClampNeg)) (H.size) (r25) (Xmw26) (Im0w27) (Im1w28) (f29)) gL_law_X7_keep rfl rfl rfl zd_X7_keep ⟨(Nat.le_of_ble_eq_true rfl), (Nat.le_of_ble_eq_true rfl)⟩ rfl rfl rfl hl rfl (Nat.le_of_ble_eq_true rfl) dL_law_747 ⟨(Nat.le_of_ble_eq_true rfl), (Nat.le_of_ble_eq_true rfl)⟩) (zs_f4 _ _ _ _) rfl rfl rfl (by decide) (fun H locs S => ?_)
        refine lv_aload_n hx hb dL_law_750 rfl (lv_at hl 2 rfl) ?_
        refine lv_aload_n hx hb dL_law_751 rfl (lv_at hl 0 rfl) ?_
        refine lv_iload_n hx hb dL_law_752 rfl (lv_at hl 3 rfl) ?_
        refine lv_iconst (v := (1 : Int32)) hx hb dL_law_753 (by decide) ?_
        refine lv_iadd hx hb dL_law_754 ?_
        obtain ⟨h30, hF⟩ := zs_ckS hF
        refine va_sld hx hb hX hbl hbA S.2.2 h30 dL_law_755 ?_
        obtain ⟨r31, Mdw32, f33, hF⟩ := zs_b2S hF
        have S1 := zs_cut (Rs := [wX7 G aXm aTx aRd aPr aSg aAh aIm0 aIm1 aYt aYr Xmw26 tr, wX4 G aTx Tx, wX2 G aRd aTk Rd, wX5 G aTk Tk, wX1 G aPr Pr, wX3 G aSg Sg, wX0 G aAh aTn aYi Ah, wX1 G aTn Tn, wX6 G aYi Yi, wX1 G aIm0 Im0w27, wX1 G aIm1 Im1w28, wX6 G aYt Yt, wX6 G aYr Yr]) S 14 [0, 2, 3, 4, 5, 6, 7, 8, 9, 10, 11, 12, 13] [1] rfl rfl rfl (by decide) (zs_f1 _)
        refine zs_li (Bs' := [wX7 G aXm aTx aRd aPr aSg aAh aIm0 aIm1 aYt aYr Xmw26 tr, wX8 G aMd Mdw32 mt, wX4 G aTx Tx, wX2 G aRd aTk Rd, wX5 G aTk Tk, wX1 G aPr Pr, wX3 G aSg Sg, wX0 G aAh aTn aYi Ah, wX1 G aTn Tn, wX6 G aYi Yi, wX1 G aIm0 Im0w27, wX1 G aIm1 Im1w28, wX6 G aYt Yt, wX6 G aYr Yr]) S1 hA 14 [0, 2, 3, 4, 5, 6, 7, 8, 9, 10, 11, 12, 13] [1] (zs_lrun C hK hA S S1 [.int (xs ((x3 + (1 : Int32))).toNatClampNeg)] [.int r25] 2 1 (c_X8_keep (l) (G) (aMd) (Md) (mt) ((xs ((x3 + (1 : Int32))).toNatClampNeg)) (H.size) (r31) (Mdw32) (f33)) gL_law_X8_keep rfl rfl rfl zd_X8_keep ⟨(Nat.le_of_ble_eq_true rfl), (Nat.le_of_ble_eq_true rfl)⟩ rfl rfl rfl hl rfl (Nat.le_of_ble_eq_true rfl) dL_law_756 ⟨(Nat.le_of_ble_eq_true rfl), (Nat.le_of_ble_eq_true rfl)⟩) (zs_f1 _) rfl rfl rfl (by decide) (fun H locs S => ?_)
        refine lv_icmp_eq (tgt := 824) hx hb dL_law_759 (by decide) (fun c34 => ?_) (fun c34 => ?_)
        · have hF := zs_t hF c34
          exact j824 Xmw26 tr Tx Rd Tk Pr Sg Ah Tn Yi Im0w27 Im1w28 Yt Yr Mdw32 mt aYt aYr x3 _ _ _ S (lv_sub hl [0, 1, 2, 3] rfl) hF
        · have hF := zs_f hF c34
          refine lv_iconst (v := (0 : Int32)) hx hb dL_law_762 (by decide) ?_
          exact absurd (zs_s1 hF) (by decide)
      have j708 : ∀ (Xm : Ob) (tr : Int64) (Tx : Ob) (Rd : Ob) (Tk : Ob) (Pr : Ob) (Sg : Ob) (Ah : Ob) (Tn : Ob) (Yi : Ob) (Im0 : Ob) (Im1 : Ob) (Yt : Ob) (Yr : Ob) (Md : Ob) (mt : Int64) (aYt : Ad) (aYr : Ad) (x3 : Int32) (H : Heap) (locs : List Loc) (ls : Array Slot), zs_S G A s.heap H locs (zs_fl [wX7 G aXm aTx aRd aPr aSg aAh aIm0 aIm1 aYt aYr Xm tr, wX8 G aMd Md mt, wX4 G aTx Tx, wX2 G aRd aTk Rd, wX5 G aTk Tk, wX1 G aPr Pr, wX3 G aSg Sg, wX0 G aAh aTn aYi Ah, wX1 G aTn Tn, wX6 G aYi Yi, wX1 G aIm0 Im0, wX1 G aIm1 Im1, wX6 G aYt Yt, wX6 G aYr Yr]) → lv_has ls 4 [(0, .ref b), (1, .ref (aXm 0)), (2, .ref (aMd 0)), (3, .int x3)] → F_L_law_708 xs L (F_L_law_18 xs L n18) Xm tr Tx Rd Tk Pr Sg Ah Tn Yi Im0 Im1 Yt Yr Md mt aYt aYr x3 = some (1 : Int32) → W p l e room_1 s m #[Value.ref b] below meth c H locs NCL NSL (lw_Z below #[Value.ref b] s) (F0 m 708 ls []) := by
        intro Xm tr Tx Rd Tk Pr Sg Ah Tn Yi Im0 Im1 Yt Yr Md mt aYt aYr x3 H locs ls S hl hF
        unfold F_L_law_708 at hF
        refine lv_aload_n hx hb dL_law_708 rfl (lv_at hl 1 rfl) ?_
        refine lv_aload_n hx hb dL_law_709 rfl (lv_at hl 0 rfl) ?_
        refine lv_iload_n hx hb dL_law_710 rfl (lv_at hl 3 rfl) ?_
        refine lv_iconst (v := (1 : Int32)) hx hb dL_law_711 (by decide) ?_
        refine lv_iadd hx hb dL_law_712 ?_
        obtain ⟨h35, hF⟩ := zs_ckS hF
        refine va_sld hx hb hX hbl hbA S.2.2 h35 dL_law_713 ?_
        refine lv_aload_n hx hb dL_law_714 rfl (lv_at hl 0 rfl) ?_
        refine lv_iload_n hx hb dL_law_715 rfl (lv_at hl 3 rfl) ?_
        refine lv_iconst (v := (2 : Int32)) hx hb dL_law_716 (by decide) ?_
        refine lv_iadd hx hb dL_law_717 ?_
        obtain ⟨h36, hF⟩ := zs_ckS hF
        refine va_sld hx hb hX hbl hbA S.2.2 h36 dL_law_718 ?_
        obtain ⟨r37, trw38, f39, hF⟩ := zs_b2S hF
        have S1 := zs_cut (Rs := [wX8 G aMd Md mt, wX4 G aTx Tx, wX2 G aRd aTk Rd, wX5 G aTk Tk, wX3 G aSg Sg, wX0 G aAh aTn aYi Ah, wX1 G aTn Tn, wX6 G aYi Yi, wX1 G aIm0 Im0, wX1 G aIm1 Im1, wX6 G aYr Yr]) S 14 [1, 2, 3, 4, 6, 7, 8, 9, 10, 11, 13] [0, 5, 12] rfl rfl rfl (by decide) (zs_f3 _ _ _)
        refine zs_li (Bs' := [wX7 G aXm aTx aRd aPr aSg aAh aIm0 aIm1 aYt aYr Xm trw38, wX8 G aMd Md mt, wX4 G aTx Tx, wX2 G aRd aTk Rd, wX5 G aTk Tk, wX1 G aPr Pr, wX3 G aSg Sg, wX0 G aAh aTn aYi Ah, wX1 G aTn Tn, wX6 G aYi Yi, wX1 G aIm0 Im0, wX1 G aIm1 Im1, wX6 G aYt Yt, wX6 G aYr Yr]) S1 hA 14 [1, 2, 3, 4, 6, 7, 8, 9, 10, 11, 13] [0, 5, 12] (zs_lrun C hK hA S S1 [.int (xs ((x3 + (1 : Int32))).toNatClampNeg), .int (xs ((x3 + (2 : Int32))).toNatClampNeg)] [] 0 2 (c_X7_mark (l) (G) (aXm) (aTx) (aRd) (aPr) (aSg) (aAh) (aIm0) (aIm1) (aYt) (aYr) (Xm) (tr) (Pr) (Yt) ((xs ((x3 + (1 : Int32))).toNatClampNeg)) ((xs ((x3 + (2 : Int32))).toNatClampNeg)) (H.size) (r37) (trw38) (f39)) gL_law_X7_mark rfl rfl rfl zd_X7_mark ⟨(Nat.le_of_ble_eq_true rfl), (Nat.le_of_ble_eq_true rfl)⟩ rfl rfl rfl hl rfl (Nat.le_of_ble_eq_true rfl) dL_law_719 ⟨(Nat.le_of_ble_eq_true rfl), (Nat.le_of_ble_eq_true rfl)⟩) (zs_f3 _ _ _) rfl rfl rfl (by decide) (fun H locs S => ?_)
        refine lv_aload_n hx hb dL_law_722 rfl (lv_at hl 2 rfl) ?_
        refine lv_aload_n hx hb dL_law_723 rfl (lv_at hl 0 rfl) ?_
        refine lv_iload_n hx hb dL_law_724 rfl (lv_at hl 3 rfl) ?_
        refine lv_iconst (v := (1 : Int32)) hx hb dL_law_725 (by decide) ?_
        refine lv_iadd hx hb dL_law_726 ?_
        obtain ⟨h40, hF⟩ := zs_ckS hF
        refine va_sld hx hb hX hbl hbA S.2.2 h40 dL_law_727 ?_
        refine lv_aload_n hx hb dL_law_728 rfl (lv_at hl 0 rfl) ?_
        refine lv_iload_n hx hb dL_law_729 rfl (lv_at hl 3 rfl) ?_
        refine lv_iconst (v := (2 : Int32)) hx hb dL_law_730 (by decide) ?_
        refine lv_iadd hx hb dL_law_731 ?_
        obtain ⟨h41, hF⟩ := zs_ckS hF
        refine va_sld hx hb hX hbl hbA S.2.2 h41 dL_law_732 ?_
        obtain ⟨r42, mtw43, f44, hF⟩ := zs_b2S hF
        have S1 := zs_cut (Rs := [wX7 G aXm aTx aRd aPr aSg aAh aIm0 aIm1 aYt aYr Xm trw38, wX4 G aTx Tx, wX2 G aRd aTk Rd, wX5 G aTk Tk, wX1 G aPr Pr, wX3 G aSg Sg, wX0 G aAh aTn aYi Ah, wX1 G aTn Tn, wX6 G aYi Yi, wX1 G aIm0 Im0, wX1 G aIm1 Im1, wX6 G aYt Yt, wX6 G aYr Yr]) S 14 [0, 2, 3, 4, 5, 6, 7, 8, 9, 10, 11, 12, 13] [1] rfl rfl rfl (by decide) (zs_f1 _)
        refine zs_li (Bs' := [wX7 G aXm aTx aRd aPr aSg aAh aIm0 aIm1 aYt aYr Xm trw38, wX8 G aMd Md mtw43, wX4 G aTx Tx, wX2 G aRd aTk Rd, wX5 G aTk Tk, wX1 G aPr Pr, wX3 G aSg Sg, wX0 G aAh aTn aYi Ah, wX1 G aTn Tn, wX6 G aYi Yi, wX1 G aIm0 Im0, wX1 G aIm1 Im1, wX6 G aYt Yt, wX6 G aYr Yr]) S1 hA 14 [0, 2, 3, 4, 5, 6, 7, 8, 9, 10, 11, 12, 13] [1] (zs_lrun C hK hA S S1 [.int (xs ((x3 + (1 : Int32))).toNatClampNeg), .int (xs ((x3 + (2 : Int32))).toNatClampNeg)] [.int r37] 2 2 (c_X8_mark (l) (G) (aMd) (Md) (mt) ((xs ((x3 + (1 : Int32))).toNatClampNeg)) ((xs ((x3 + (2 : Int32))).toNatClampNeg)) (H.size) (r42) (mtw43) (f44)) gL_law_X8_mark rfl rfl rfl zd_X8_mark ⟨(Nat.le_of_ble_eq_true rfl), (Nat.le_of_ble_eq_true rfl)⟩ rfl rfl rfl hl rfl (Nat.le_of_ble_eq_true rfl) dL_law_733 ⟨(Nat.le_of_ble_eq_true rfl), (Nat.le_of_ble_eq_true rfl)⟩) (zs_f1 _) rfl rfl rfl (by decide) (fun H locs S => ?_)
        refine lv_icmp_eq (tgt := 824) hx hb dL_law_736 (by decide) (fun c45 => ?_) (fun c45 => ?_)
        · have hF := zs_t hF c45
          exact j824 Xm trw38 Tx Rd Tk Pr Sg Ah Tn Yi Im0 Im1 Yt Yr Md mtw43 aYt aYr x3 _ _ _ S (lv_sub hl [0, 1, 2, 3] rfl) hF
        · have hF := zs_f hF c45
          refine lv_iconst (v := (0 : Int32)) hx hb dL_law_739 (by decide) ?_
          exact absurd (zs_s1 hF) (by decide)
      have j685 : ∀ (Xm : Ob) (tr : Int64) (Tx : Ob) (Rd : Ob) (Tk : Ob) (Pr : Ob) (Sg : Ob) (Ah : Ob) (Tn : Ob) (Yi : Ob) (Im0 : Ob) (Im1 : Ob) (Yt : Ob) (Yr : Ob) (Md : Ob) (mt : Int64) (aYt : Ad) (aYr : Ad) (x3 : Int32) (H : Heap) (locs : List Loc) (ls : Array Slot), zs_S G A s.heap H locs (zs_fl [wX7 G aXm aTx aRd aPr aSg aAh aIm0 aIm1 aYt aYr Xm tr, wX8 G aMd Md mt, wX4 G aTx Tx, wX2 G aRd aTk Rd, wX5 G aTk Tk, wX1 G aPr Pr, wX3 G aSg Sg, wX0 G aAh aTn aYi Ah, wX1 G aTn Tn, wX6 G aYi Yi, wX1 G aIm0 Im0, wX1 G aIm1 Im1, wX6 G aYt Yt, wX6 G aYr Yr]) → lv_has ls 4 [(0, .ref b), (1, .ref (aXm 0)), (2, .ref (aMd 0)), (3, .int x3)] → F_L_law_685 xs L (F_L_law_18 xs L n18) Xm tr Tx Rd Tk Pr Sg Ah Tn Yi Im0 Im1 Yt Yr Md mt aYt aYr x3 = some (1 : Int32) → W p l e room_1 s m #[Value.ref b] below meth c H locs NCL NSL (lw_Z below #[Value.ref b] s) (F0 m 685 ls []) := by
        intro Xm tr Tx Rd Tk Pr Sg Ah Tn Yi Im0 Im1 Yt Yr Md mt aYt aYr x3 H locs ls S hl hF
        unfold F_L_law_685 at hF
        refine lv_aload_n hx hb dL_law_685 rfl (lv_at hl 1 rfl) ?_
        refine lv_aload_n hx hb dL_law_686 rfl (lv_at hl 0 rfl) ?_
        refine lv_iload_n hx hb dL_law_687 rfl (lv_at hl 3 rfl) ?_
        refine lv_iconst (v := (1 : Int32)) hx hb dL_law_688 (by decide) ?_
        refine lv_iadd hx hb dL_law_689 ?_
        obtain ⟨h46, hF⟩ := zs_ckS hF
        refine va_sld hx hb hX hbl hbA S.2.2 h46 dL_law_690 ?_
        obtain ⟨r47, Tnw48, Yiw49, f50, hF⟩ := zs_b3S hF
        have S1 := zs_cut (Rs := [wX8 G aMd Md mt, wX4 G aTx Tx, wX2 G aRd aTk Rd, wX5 G aTk Tk, wX1 G aPr Pr, wX1 G aIm0 Im0, wX1 G aIm1 Im1, wX6 G aYr Yr]) S 14 [1, 2, 3, 4, 5, 10, 11, 13] [0, 12, 6, 7, 8, 9] rfl rfl rfl (by decide) (zs_f6 _ _ _ _ _ _)
        refine zs_li (Bs' := [wX7 G aXm aTx aRd aPr aSg aAh aIm0 aIm1 aYt aYr Xm tr, wX8 G aMd Md mt, wX4 G aTx Tx, wX2 G aRd aTk Rd, wX5 G aTk Tk, wX1 G aPr Pr, wX3 G aSg Sg, wX0 G aAh aTn aYi Ah, wX1 G aTn Tnw48, wX6 G aYi Yiw49, wX1 G aIm0 Im0, wX1 G aIm1 Im1, wX6 G aYt Yt, wX6 G aYr Yr]) S1 hA 14 [1, 2, 3, 4, 5, 10, 11, 13] [0, 12, 6, 7, 8, 9] (zs_lrun C hK hA S S1 [.int (xs ((x3 + (1 : Int32))).toNatClampNeg)] [] 0 1 (c_X7_holes (l) (G) (aXm) (aTx) (aRd) (aPr) (aSg) (aAh) (aIm0) (aIm1) (aYt) (aYr) (aTn) (aYi) (Xm) (tr) (Yt) (Sg) (Ah) (Tn) (Yi) ((xs ((x3 + (1 : Int32))).toNatClampNeg)) (H.size) (r47) (Tnw48) (Yiw49) (f50)) gL_law_X7_holes rfl rfl rfl zd_X7_holes ⟨(Nat.le_of_ble_eq_true rfl), (Nat.le_of_ble_eq_true rfl)⟩ rfl rfl rfl hl rfl (Nat.le_of_ble_eq_true rfl) dL_law_691 ⟨(Nat.le_of_ble_eq_true rfl), (Nat.le_of_ble_eq_true rfl)⟩) (zs_f6 _ _ _ _ _ _) rfl rfl rfl (by decide) (fun H locs S => ?_)
        refine lv_aload_n hx hb dL_law_694 rfl (lv_at hl 2 rfl) ?_
        refine lv_aload_n hx hb dL_law_695 rfl (lv_at hl 0 rfl) ?_
        refine lv_iload_n hx hb dL_law_696 rfl (lv_at hl 3 rfl) ?_
        refine lv_iconst (v := (1 : Int32)) hx hb dL_law_697 (by decide) ?_
        refine lv_iadd hx hb dL_law_698 ?_
        obtain ⟨h51, hF⟩ := zs_ckS hF
        refine va_sld hx hb hX hbl hbA S.2.2 h51 dL_law_699 ?_
        obtain ⟨r52, Mdw53, f54, hF⟩ := zs_b2S hF
        have S1 := zs_cut (Rs := [wX7 G aXm aTx aRd aPr aSg aAh aIm0 aIm1 aYt aYr Xm tr, wX4 G aTx Tx, wX2 G aRd aTk Rd, wX5 G aTk Tk, wX1 G aPr Pr, wX3 G aSg Sg, wX0 G aAh aTn aYi Ah, wX1 G aTn Tnw48, wX6 G aYi Yiw49, wX1 G aIm0 Im0, wX1 G aIm1 Im1, wX6 G aYt Yt, wX6 G aYr Yr]) S 14 [0, 2, 3, 4, 5, 6, 7, 8, 9, 10, 11, 12, 13] [1] rfl rfl rfl (by decide) (zs_f1 _)
        refine zs_li (Bs' := [wX7 G aXm aTx aRd aPr aSg aAh aIm0 aIm1 aYt aYr Xm tr, wX8 G aMd Mdw53 mt, wX4 G aTx Tx, wX2 G aRd aTk Rd, wX5 G aTk Tk, wX1 G aPr Pr, wX3 G aSg Sg, wX0 G aAh aTn aYi Ah, wX1 G aTn Tnw48, wX6 G aYi Yiw49, wX1 G aIm0 Im0, wX1 G aIm1 Im1, wX6 G aYt Yt, wX6 G aYr Yr]) S1 hA 14 [0, 2, 3, 4, 5, 6, 7, 8, 9, 10, 11, 12, 13] [1] (zs_lrun C hK hA S S1 [.int (xs ((x3 + (1 : Int32))).toNatClampNeg)] [.int r47] 2 1 (c_X8_holes (l) (G) (aMd) (Md) (mt) ((xs ((x3 + (1 : Int32))).toNatClampNeg)) (H.size) (r52) (Mdw53) (f54)) gL_law_X8_holes rfl rfl rfl zd_X8_holes ⟨(Nat.le_of_ble_eq_true rfl), (Nat.le_of_ble_eq_true rfl)⟩ rfl rfl rfl hl rfl (Nat.le_of_ble_eq_true rfl) dL_law_700 ⟨(Nat.le_of_ble_eq_true rfl), (Nat.le_of_ble_eq_true rfl)⟩) (zs_f1 _) rfl rfl rfl (by decide) (fun H locs S => ?_)
        refine lv_icmp_eq (tgt := 824) hx hb dL_law_703 (by decide) (fun c55 => ?_) (fun c55 => ?_)
        · have hF := zs_t hF c55
          exact j824 Xm tr Tx Rd Tk Pr Sg Ah Tnw48 Yiw49 Im0 Im1 Yt Yr Mdw53 mt aYt aYr x3 _ _ _ S (lv_sub hl [0, 1, 2, 3] rfl) hF
        · have hF := zs_f hF c55
          refine lv_iconst (v := (0 : Int32)) hx hb dL_law_706 (by decide) ?_
          exact absurd (zs_s1 hF) (by decide)
      have j672 : ∀ (Xm : Ob) (tr : Int64) (Tx : Ob) (Rd : Ob) (Tk : Ob) (Pr : Ob) (Sg : Ob) (Ah : Ob) (Tn : Ob) (Yi : Ob) (Im0 : Ob) (Im1 : Ob) (Yt : Ob) (Yr : Ob) (Md : Ob) (mt : Int64) (aYt : Ad) (aYr : Ad) (x3 : Int32) (H : Heap) (locs : List Loc) (ls : Array Slot), zs_S G A s.heap H locs (zs_fl [wX7 G aXm aTx aRd aPr aSg aAh aIm0 aIm1 aYt aYr Xm tr, wX8 G aMd Md mt, wX4 G aTx Tx, wX2 G aRd aTk Rd, wX5 G aTk Tk, wX1 G aPr Pr, wX3 G aSg Sg, wX0 G aAh aTn aYi Ah, wX1 G aTn Tn, wX6 G aYi Yi, wX1 G aIm0 Im0, wX1 G aIm1 Im1, wX6 G aYt Yt, wX6 G aYr Yr]) → lv_has ls 4 [(0, .ref b), (1, .ref (aXm 0)), (2, .ref (aMd 0)), (3, .int x3)] → F_L_law_672 xs L (F_L_law_18 xs L n18) Xm tr Tx Rd Tk Pr Sg Ah Tn Yi Im0 Im1 Yt Yr Md mt aYt aYr x3 = some (1 : Int32) → W p l e room_1 s m #[Value.ref b] below meth c H locs NCL NSL (lw_Z below #[Value.ref b] s) (F0 m 672 ls []) := by
        intro Xm tr Tx Rd Tk Pr Sg Ah Tn Yi Im0 Im1 Yt Yr Md mt aYt aYr x3 H locs ls S hl hF
        unfold F_L_law_672 at hF
        refine lv_aload_n hx hb dL_law_672 rfl (lv_at hl 1 rfl) ?_
        obtain ⟨r56, Sgw57, f58, hF⟩ := zs_b2S hF
        have S1 := zs_cut (Rs := [wX8 G aMd Md mt, wX4 G aTx Tx, wX2 G aRd aTk Rd, wX5 G aTk Tk, wX1 G aPr Pr, wX0 G aAh aTn aYi Ah, wX1 G aTn Tn, wX6 G aYi Yi, wX1 G aIm0 Im0, wX1 G aIm1 Im1, wX6 G aYt Yt, wX6 G aYr Yr]) S 14 [1, 2, 3, 4, 5, 7, 8, 9, 10, 11, 12, 13] [0, 6] rfl rfl rfl (by decide) (zs_f2 _ _)
        refine zs_li (Bs' := [wX7 G aXm aTx aRd aPr aSg aAh aIm0 aIm1 aYt aYr Xm tr, wX8 G aMd Md mt, wX4 G aTx Tx, wX2 G aRd aTk Rd, wX5 G aTk Tk, wX1 G aPr Pr, wX3 G aSg Sgw57, wX0 G aAh aTn aYi Ah, wX1 G aTn Tn, wX6 G aYi Yi, wX1 G aIm0 Im0, wX1 G aIm1 Im1, wX6 G aYt Yt, wX6 G aYr Yr]) S1 hA 14 [1, 2, 3, 4, 5, 7, 8, 9, 10, 11, 12, 13] [0, 6] (zs_lrun C hK hA S S1 [] [] 0 0 (c_X7_forget (l) (G) (aXm) (aTx) (aRd) (aPr) (aSg) (aAh) (aIm0) (aIm1) (aYt) (aYr) (Xm) (tr) (Sg) (H.size) (r56) (Sgw57) (f58)) gL_law_X7_forget rfl rfl rfl zd_X7_forget ⟨(Nat.le_of_ble_eq_true rfl), (Nat.le_of_ble_eq_true rfl)⟩ rfl rfl rfl hl rfl (Nat.le_of_ble_eq_true rfl) dL_law_673 ⟨(Nat.le_of_ble_eq_true rfl), (Nat.le_of_ble_eq_true rfl)⟩) (zs_f2 _ _) rfl rfl rfl (by decide) (fun H locs S => ?_)
        refine lv_aload_n hx hb dL_law_676 rfl (lv_at hl 2 rfl) ?_
        obtain ⟨r59, Mdw60, f61, hF⟩ := zs_b2S hF
        have S1 := zs_cut (Rs := [wX7 G aXm aTx aRd aPr aSg aAh aIm0 aIm1 aYt aYr Xm tr, wX4 G aTx Tx, wX2 G aRd aTk Rd, wX5 G aTk Tk, wX1 G aPr Pr, wX3 G aSg Sgw57, wX0 G aAh aTn aYi Ah, wX1 G aTn Tn, wX6 G aYi Yi, wX1 G aIm0 Im0, wX1 G aIm1 Im1, wX6 G aYt Yt, wX6 G aYr Yr]) S 14 [0, 2, 3, 4, 5, 6, 7, 8, 9, 10, 11, 12, 13] [1] rfl rfl rfl (by decide) (zs_f1 _)
        refine zs_li (Bs' := [wX7 G aXm aTx aRd aPr aSg aAh aIm0 aIm1 aYt aYr Xm tr, wX8 G aMd Mdw60 mt, wX4 G aTx Tx, wX2 G aRd aTk Rd, wX5 G aTk Tk, wX1 G aPr Pr, wX3 G aSg Sgw57, wX0 G aAh aTn aYi Ah, wX1 G aTn Tn, wX6 G aYi Yi, wX1 G aIm0 Im0, wX1 G aIm1 Im1, wX6 G aYt Yt, wX6 G aYr Yr]) S1 hA 14 [0, 2, 3, 4, 5, 6, 7, 8, 9, 10, 11, 12, 13] [1] (zs_lrun C hK hA S S1 [] [.int r56] 2 0 (c_X8_forget (l) (G) (aMd) (Md) (mt) (H.size) (r59) (Mdw60) (f61)) gL_law_X8_forget rfl rfl rfl zd_X8_forget ⟨(Nat.le_of_ble_eq_true rfl), (Nat.le_of_ble_eq_true rfl)⟩ rfl rfl rfl hl rfl (Nat.le_of_ble_eq_true rfl) dL_law_677 ⟨(Nat.le_of_ble_eq_true rfl), (Nat.le_of_ble_eq_true rfl)⟩) (zs_f1 _) rfl rfl rfl (by decide) (fun H locs S => ?_)
        refine lv_icmp_eq (tgt := 824) hx hb dL_law_680 (by decide) (fun c62 => ?_) (fun c62 => ?_)
        · have hF := zs_t hF c62
          exact j824 Xm tr Tx Rd Tk Pr Sgw57 Ah Tn Yi Im0 Im1 Yt Yr Mdw60 mt aYt aYr x3 _ _ _ S (lv_sub hl [0, 1, 2, 3] rfl) hF
        · have hF := zs_f hF c62
          refine lv_iconst (v := (0 : Int32)) hx hb dL_law_683 (by decide) ?_
          exact absurd (zs_s1 hF) (by decide)
      have j629 : ∀ (Xm : Ob) (tr : Int64) (Tx : Ob) (Rd : Ob) (Tk : Ob) (Pr : Ob) (Sg : Ob) (Ah : Ob) (Tn : Ob) (Yi : Ob) (Im0 : Ob) (Im1 : Ob) (Yt : Ob) (Yr : Ob) (Md : Ob) (mt : Int64) (aYt : Ad) (aYr : Ad) (x3 : Int32) (H : Heap) (locs : List Loc) (ls : Array Slot), zs_S G A s.heap H locs (zs_fl [wX7 G aXm aTx aRd aPr aSg aAh aIm0 aIm1 aYt aYr Xm tr, wX8 G aMd Md mt, wX4 G aTx Tx, wX2 G aRd aTk Rd, wX5 G aTk Tk, wX1 G aPr Pr, wX3 G aSg Sg, wX0 G aAh aTn aYi Ah, wX1 G aTn Tn, wX6 G aYi Yi, wX1 G aIm0 Im0, wX1 G aIm1 Im1, wX6 G aYt Yt, wX6 G aYr Yr]) → lv_has ls 4 [(0, .ref b), (1, .ref (aXm 0)), (2, .ref (aMd 0)), (3, .int x3)] → F_L_law_629 xs L (F_L_law_18 xs L n18) Xm tr Tx Rd Tk Pr Sg Ah Tn Yi Im0 Im1 Yt Yr Md mt aYt aYr x3 = some (1 : Int32) → W p l e room_1 s m #[Value.ref b] below meth c H locs NCL NSL (lw_Z below #[Value.ref b] s) (F0 m 629 ls []) := by
        intro Xm tr Tx Rd Tk Pr Sg Ah Tn Yi Im0 Im1 Yt Yr Md mt aYt aYr x3 H locs ls S hl hF
        unfold F_L_law_629 at hF
        refine lv_aload_n hx hb dL_law_629 rfl (lv_at hl 1 rfl) ?_
        refine lv_aload_n hx hb dL_law_630 rfl (lv_at hl 0 rfl) ?_
        refine lv_iload_n hx hb dL_law_631 rfl (lv_at hl 3 rfl) ?_
        refine lv_iconst (v := (1 : Int32)) hx hb dL_law_632 (by decide) ?_
        refine lv_iadd hx hb dL_law_633 ?_
        obtain ⟨h63, hF⟩ := zs_ckS hF
        refine va_sld hx hb hX hbl hbA S.2.2 h63 dL_law_634 ?_
        refine lv_aload_n hx hb dL_law_635 rfl (lv_at hl 0 rfl) ?_
        refine lv_iload_n hx hb dL_law_636 rfl (lv_at hl 3 rfl) ?_
        refine lv_iconst (v := (2 : Int32)) hx hb dL_law_637 (by decide) ?_
        refine lv_iadd hx hb dL_law_638 ?_
        obtain ⟨h64, hF⟩ := zs_ckS hF
        refine va_sld hx hb hX hbl hbA S.2.2 h64 dL_law_639 ?_
        refine lv_aload_n hx hb dL_law_640 rfl (lv_at hl 0 rfl) ?_
        refine lv_iload_n hx hb dL_law_641 rfl (lv_at hl 3 rfl) ?_
        refine lv_iconst (v := (3 : Int32)) hx hb dL_law_642 (by decide) ?_
        refine lv_iadd hx hb dL_law_643 ?_
        obtain ⟨h65, hF⟩ := zs_ckS hF
        refine va_sld hx hb hX hbl hbA S.2.2 h65 dL_law_644 ?_
        obtain ⟨r66, Sgw67, f68, hF⟩ := zs_b2S hF
        have S1 := zs_cut (Rs := [wX8 G aMd Md mt, wX4 G aTx Tx, wX2 G aRd aTk Rd, wX5 G aTk Tk, wX1 G aPr Pr, wX0 G aAh aTn aYi Ah, wX1 G aTn Tn, wX6 G aYi Yi, wX1 G aIm0 Im0, wX1 G aIm1 Im1, wX6 G aYr Yr]) S 14 [1, 2, 3, 4, 5, 7, 8, 9, 10, 11, 13] [0, 12, 6] rfl rfl rfl (by decide) (zs_f3 _ _ _)
        refine zs_li (Bs' := [wX7 G aXm aTx aRd aPr aSg aAh aIm0 aIm1 aYt aYr Xm tr, wX8 G aMd Md mt, wX4 G aTx Tx, wX2 G aRd aTk Rd, wX5 G aTk Tk, wX1 G aPr Pr, wX3 G aSg Sgw67, wX0 G aAh aTn aYi Ah, wX1 G aTn Tn, wX6 G aYi Yi, wX1 G aIm0 Im0, wX1 G aIm1 Im1, wX6 G aYt Yt, wX6 G aYr Yr]) S1 hA 14 [1, 2, 3, 4, 5, 7, 8, 9, 10, 11, 13] [0, 12, 6] (zs_lrun C hK hA S S1 [.int (xs ((x3 + (1 : Int32))).toNatClampNeg), .int (xs ((x3 + (2 : Int32))).toNatClampNeg), .int (xs ((x3 + (3 : Int32))).toNatClampNeg)] [] 0 3 (c_X7_saw (l) (G) (aXm) (aTx) (aRd) (aPr) (aSg) (aAh) (aIm0) (aIm1) (aYt) (aYr) (Xm) (tr) (Yt) (Sg) ((xs ((x3 + (1 : Int32))).toNatClampNeg)) ((xs ((x3 + (2 : Int32))).toNatClampNeg)) ((xs ((x3 + (3 : Int32))).toNatClampNeg)) (H.size) (r66) (Sgw67) (f68)) gL_law_X7_saw rfl rfl rfl zd_X7_saw ⟨(Nat.le_of_ble_eq_true rfl), (Nat.le_of_ble_eq_true rfl)⟩ rfl rfl rfl hl rfl (Nat.le_of_ble_eq_true rfl) dL_law_645 ⟨(Nat.le_of_ble_eq_true rfl), (Nat.le_of_ble_eq_true rfl)⟩) (zs_f3 _ _ _) rfl rfl rfl (by decide) (fun H locs S => ?_)
        refine lv_aload_n hx hb dL_law_648 rfl (lv_at hl 2 rfl) ?_
        refine lv_aload_n hx hb dL_law_649 rfl (lv_at hl 0 rfl) ?_
        refine lv_iload_n hx hb dL_law_650 rfl (lv_at hl 3 rfl) ?_
        refine lv_iconst (v := (1 : Int32)) hx hb dL_law_651 (by decide) ?_
        refine lv_iadd hx hb dL_law_652 ?_
        obtain ⟨h69, hF⟩ := zs_ckS hF
        refine va_sld hx hb hX hbl hbA S.2.2 h69 dL_law_653 ?_
        refine lv_aload_n hx hb dL_law_654 rfl (lv_at hl 0 rfl) ?_
        refine lv_iload_n hx hb dL_law_655 rfl (lv_at hl 3 rfl) ?_
        refine lv_iconst (v := (2 : Int32)) hx hb dL_law_656 (by decide) ?_
        refine lv_iadd hx hb dL_law_657 ?_
        obtain ⟨h70, hF⟩ := zs_ckS hF
        refine va_sld hx hb hX hbl hbA S.2.2 h70 dL_law_658 ?_
        refine lv_aload_n hx hb dL_law_659 rfl (lv_at hl 0 rfl) ?_
        refine lv_iload_n hx hb dL_law_660 rfl (lv_at hl 3 rfl) ?_
        refine lv_iconst (v := (3 : Int32)) hx hb dL_law_661 (by decide) ?_
        refine lv_iadd hx hb dL_law_662 ?_
        obtain ⟨h71, hF⟩ := zs_ckS hF
        refine va_sld hx hb hX hbl hbA S.2.2 h71 dL_law_663 ?_
        obtain ⟨r72, Mdw73, f74, hF⟩ := zs_b2S hF
        have S1 := zs_cut (Rs := [wX7 G aXm aTx aRd aPr aSg aAh aIm0 aIm1 aYt aYr Xm tr, wX4 G aTx Tx, wX2 G aRd aTk Rd, wX5 G aTk Tk, wX1 G aPr Pr, wX3 G aSg Sgw67, wX0 G aAh aTn aYi Ah, wX1 G aTn Tn, wX6 G aYi Yi, wX1 G aIm0 Im0, wX1 G aIm1 Im1, wX6 G aYt Yt, wX6 G aYr Yr]) S 14 [0, 2, 3, 4, 5, 6, 7, 8, 9, 10, 11, 12, 13] [1] rfl rfl rfl (by decide) (zs_f1 _)
        refine zs_li (Bs' := [wX7 G aXm aTx aRd aPr aSg aAh aIm0 aIm1 aYt aYr Xm tr, wX8 G aMd Mdw73 mt, wX4 G aTx Tx, wX2 G aRd aTk Rd, wX5 G aTk Tk, wX1 G aPr Pr, wX3 G aSg Sgw67, wX0 G aAh aTn aYi Ah, wX1 G aTn Tn, wX6 G aYi Yi, wX1 G aIm0 Im0, wX1 G aIm1 Im1, wX6 G aYt Yt, wX6 G aYr Yr]) S1 hA 14 [0, 2, 3, 4, 5, 6, 7, 8, 9, 10, 11, 12, 13] [1] (zs_lrun C hK hA S S1 [.int (xs ((x3 + (1 : Int32))).toNatClampNeg), .int (xs ((x3 + (2 : Int32))).toNatClampNeg), .int (xs ((x3 + (3 : Int32))).toNatClampNeg)] [.int r66] 2 3 (c_X8_saw (l) (G) (aMd) (Md) (mt) ((xs ((x3 + (1 : Int32))).toNatClampNeg)) ((xs ((x3 + (2 : Int32))).toNatClampNeg)) ((xs ((x3 + (3 : Int32))).toNatClampNeg)) (H.size) (r72) (Mdw73) (f74)) gL_law_X8_saw rfl rfl rfl zd_X8_saw ⟨(Nat.le_of_ble_eq_true rfl), (Nat.le_of_ble_eq_true rfl)⟩ rfl rfl rfl hl rfl (Nat.le_of_ble_eq_true rfl) dL_law_664 ⟨(Nat.le_of_ble_eq_true rfl), (Nat.le_of_ble_eq_true rfl)⟩) (zs_f1 _) rfl rfl rfl (by decide) (fun H locs S => ?_)
        refine lv_icmp_eq (tgt := 824) hx hb dL_law_667 (by decide) (fun c75 => ?_) (fun c75 => ?_)
        · have hF := zs_t hF c75
          exact j824 Xm tr Tx Rd Tk Pr Sgw67 Ah Tn Yi Im0 Im1 Yt Yr Mdw73 mt aYt aYr x3 _ _ _ S (lv_sub hl [0, 1, 2, 3] rfl) hF
        · have hF := zs_f hF c75
          refine lv_iconst (v := (0 : Int32)) hx hb dL_law_670 (by decide) ?_
          exact absurd (zs_s1 hF) (by decide)
      have j596 : ∀ (Xm : Ob) (tr : Int64) (Tx : Ob) (Rd : Ob) (Tk : Ob) (Pr : Ob) (Sg : Ob) (Ah : Ob) (Tn : Ob) (Yi : Ob) (Im0 : Ob) (Im1 : Ob) (Yt : Ob) (Yr : Ob) (Md : Ob) (mt : Int64) (aYt : Ad) (aYr : Ad) (x3 : Int32) (H : Heap) (locs : List Loc) (ls : Array Slot), zs_S G A s.heap H locs (zs_fl [wX7 G aXm aTx aRd aPr aSg aAh aIm0 aIm1 aYt aYr Xm tr, wX8 G aMd Md mt, wX4 G aTx Tx, wX2 G aRd aTk Rd, wX5 G aTk Tk, wX1 G aPr Pr, wX3 G aSg Sg, wX0 G aAh aTn aYi Ah, wX1 G aTn Tn, wX6 G aYi Yi, wX1 G aIm0 Im0, wX1 G aIm1 Im1, wX6 G aYt Yt, wX6 G aYr Yr]) → lv_has ls 4 [(0, .ref b), (1, .ref (aXm 0)), (2, .ref (aMd 0)), (3, .int x3)] → F_L_law_596 xs L (F_L_law_18 xs L n18) Xm tr Tx Rd Tk Pr Sg Ah Tn Yi Im0 Im1 Yt Yr Md mt aYt aYr x3 = some (1 : Int32) → W p l e room_1 s m #[Value.ref b] below meth c H locs NCL NSL (lw_Z below #[Value.ref b] s) (F0 m 596 ls []) := by
        intro Xm tr Tx Rd Tk Pr Sg Ah Tn Yi Im0 Im1 Yt Yr Md mt aYt aYr x3 H locs ls S hl hF
        unfold F_L_law_596 at hF
        refine lv_aload_n hx hb dL_law_596 rfl (lv_at hl 1 rfl) ?_
        refine lv_aload_n hx hb dL_law_597 rfl (lv_at hl 0 rfl) ?_
        refine lv_iload_n hx hb dL_law_598 rfl (lv_at hl 3 rfl) ?_
        refine lv_iconst (v := (1 : Int32)) hx hb dL_law_599 (by decide) ?_
        refine lv_iadd hx hb dL_law_600 ?_
        obtain ⟨h76, hF⟩ := zs_ckS hF
        refine va_sld hx hb hX hbl hbA S.2.2 h76 dL_law_601 ?_
        refine lv_aload_n hx hb dL_law_602 rfl (lv_at hl 0 rfl) ?_
        refine lv_iload_n hx hb dL_law_603 rfl (lv_at hl 3 rfl) ?_
        refine lv_iconst (v := (2 : Int32)) hx hb dL_law_604 (by decide) ?_
        refine lv_iadd hx hb dL_law_605 ?_
        obtain ⟨h77, hF⟩ := zs_ckS hF
        refine va_sld hx hb hX hbl hbA S.2.2 h77 dL_law_606 ?_
        obtain ⟨r78, Tnw79, Yiw80, f81, hF⟩ := zs_b3S hF
        have S1 := zs_cut (Rs := [wX8 G aMd Md mt, wX4 G aTx Tx, wX2 G aRd aTk Rd, wX5 G aTk Tk, wX3 G aSg Sg, wX1 G aIm0 Im0, wX1 G aIm1 Im1, wX6 G aYr Yr]) S 14 [1, 2, 3, 4, 6, 10, 11, 13] [0, 5, 12, 7, 8, 9] rfl rfl rfl (by decide) (zs_f6 _ _ _ _ _ _)
        refine zs_li (Bs' := [wX7 G aXm aTx aRd aPr aSg aAh aIm0 aIm1 aYt aYr Xm tr, wX8 G aMd Md mt, wX4 G aTx Tx, wX2 G aRd aTk Rd, wX5 G aTk Tk, wX1 G aPr Pr, wX3 G aSg Sg, wX0 G aAh aTn aYi Ah, wX1 G aTn Tnw79, wX6 G aYi Yiw80, wX1 G aIm0 Im0, wX1 G aIm1 Im1, wX6 G aYt Yt, wX6 G aYr Yr]) S1 hA 14 [1, 2, 3, 4, 6, 10, 11, 13] [0, 5, 12, 7, 8, 9] (zs_lrun C hK hA S S1 [.int (xs ((x3 + (1 : Int32))).toNatClampNeg), .int (xs ((x3 + (2 : Int32))).toNatClampNeg)] [] 0 2 (c_X7_harm (l) (G) (aXm) (aTx) (aRd) (aPr) (aSg) (aAh) (aIm0) (aIm1) (aYt) (aYr) (aTn) (aYi) (Xm) (tr) (Pr) (Yt) (Ah) (Tn) (Yi) ((xs ((x3 + (1 : Int32))).toNatClampNeg)) ((xs ((x3 + (2 : Int32))).toNatClampNeg)) (H.size) (r78) (Tnw79) (Yiw80) (f81)) gL_law_X7_harm rfl rfl rfl zd_X7_harm ⟨(Nat.le_of_ble_eq_true rfl), (Nat.le_of_ble_eq_true rfl)⟩ rfl rfl rfl hl rfl (Nat.le_of_ble_eq_true rfl) dL_law_607 ⟨(Nat.le_of_ble_eq_true rfl), (Nat.le_of_ble_eq_true rfl)⟩) (zs_f6 _ _ _ _ _ _) rfl rfl rfl (by decide) (fun H locs S => ?_)
        refine lv_aload_n hx hb dL_law_610 rfl (lv_at hl 2 rfl) ?_
        refine lv_aload_n hx hb dL_law_611 rfl (lv_at hl 0 rfl) ?_
        refine lv_iload_n hx hb dL_law_612 rfl (lv_at hl 3 rfl) ?_
        refine lv_iconst (v := (1 : Int32)) hx hb dL_law_613 (by decide) ?_
        refine lv_iadd hx hb dL_law_614 ?_
        obtain ⟨h82, hF⟩ := zs_ckS hF
        refine va_sld hx hb hX hbl hbA S.2.2 h82 dL_law_615 ?_
        refine lv_aload_n hx hb dL_law_616 rfl (lv_at hl 0 rfl) ?_
        refine lv_iload_n hx hb dL_law_617 rfl (lv_at hl 3 rfl) ?_
        refine lv_iconst (v := (2 : Int32)) hx hb dL_law_618 (by decide) ?_
        refine lv_iadd hx hb dL_law_619 ?_
        obtain ⟨h83, hF⟩ := zs_ckS hF
        refine va_sld hx hb hX hbl hbA S.2.2 h83 dL_law_620 ?_
        obtain ⟨r84, Mdw85, f86, hF⟩ := zs_b2S hF
        have S1 := zs_cut (Rs := [wX7 G aXm aTx aRd aPr aSg aAh aIm0 aIm1 aYt aYr Xm tr, wX4 G aTx Tx, wX2 G aRd aTk Rd, wX5 G aTk Tk, wX1 G aPr Pr, wX3 G aSg Sg, wX0 G aAh aTn aYi Ah, wX1 G aTn Tnw79, wX6 G aYi Yiw80, wX1 G aIm0 Im0, wX1 G aIm1 Im1, wX6 G aYt Yt, wX6 G aYr Yr]) S 14 [0, 2, 3, 4, 5, 6, 7, 8, 9, 10, 11, 12, 13] [1] rfl rfl rfl (by decide) (zs_f1 _)
        refine zs_li (Bs' := [wX7 G aXm aTx aRd aPr aSg aAh aIm0 aIm1 aYt aYr Xm tr, wX8 G aMd Mdw85 mt, wX4 G aTx Tx, wX2 G aRd aTk Rd, wX5 G aTk Tk, wX1 G aPr Pr, wX3 G aSg Sg, wX0 G aAh aTn aYi Ah, wX1 G aTn Tnw79, wX6 G aYi Yiw80, wX1 G aIm0 Im0, wX1 G aIm1 Im1, wX6 G aYt Yt, wX6 G aYr Yr]) S1 hA 14 [0, 2, 3, 4, 5, 6, 7, 8, 9, 10, 11, 12, 13] [1] (zs_lrun C hK hA S S1 [.int (xs ((x3 + (1 : Int32))).toNatClampNeg), .int (xs ((x3 + (2 : Int32))).toNatClampNeg)] [.int r78] 2 2 (c_X8_harm (l) (G) (aMd) (Md) (mt) ((xs ((x3 + (1 : Int32))).toNatClampNeg)) ((xs ((x3 + (2 : Int32))).toNatClampNeg)) (H.size) (r84) (Mdw85) (f86)) gL_law_X8_harm rfl rfl rfl zd_X8_harm ⟨(Nat.le_of_ble_eq_true rfl), (Nat.le_of_ble_eq_true rfl)⟩ rfl rfl rfl hl rfl (Nat.le_of_ble_eq_true rfl) dL_law_621 ⟨(Nat.le_of_ble_eq_true rfl), (Nat.le_of_ble_eq_true rfl)⟩) (zs_f1 _) rfl rfl rfl (by decide) (fun H locs S => ?_)
        refine lv_icmp_eq (tgt := 824) hx hb dL_law_624 (by decide) (fun c87 => ?_) (fun c87 => ?_)
        · have hF := zs_t hF c87
          exact j824 Xm tr Tx Rd Tk Pr Sg Ah Tnw79 Yiw80 Im0 Im1 Yt Yr Mdw85 mt aYt aYr x3 _ _ _ S (lv_sub hl [0, 1, 2, 3] rfl) hF
        · have hF := zs_f hF c87
          refine lv_iconst (v := (0 : Int32)) hx hb dL_law_627 (by decide) ?_
          exact absurd (zs_s1 hF) (by decide)
      have j553 : ∀ (Xm : Ob) (tr : Int64) (Tx : Ob) (Rd : Ob) (Tk : Ob) (Pr : Ob) (Sg : Ob) (Ah : Ob) (Tn : Ob) (Yi : Ob) (Im0 : Ob) (Im1 : Ob) (Yt : Ob) (Yr : Ob) (Md : Ob) (mt : Int64) (aYt : Ad) (aYr : Ad) (x3 : Int32) (H : Heap) (locs : List Loc) (ls : Array Slot), zs_S G A s.heap H locs (zs_fl [wX7 G aXm aTx aRd aPr aSg aAh aIm0 aIm1 aYt aYr Xm tr, wX8 G aMd Md mt, wX4 G aTx Tx, wX2 G aRd aTk Rd, wX5 G aTk Tk, wX1 G aPr Pr, wX3 G aSg Sg, wX0 G aAh aTn aYi Ah, wX1 G aTn Tn, wX6 G aYi Yi, wX1 G aIm0 Im0, wX1 G aIm1 Im1, wX6 G aYt Yt, wX6 G aYr Yr]) → lv_has ls 4 [(0, .ref b), (1, .ref (aXm 0)), (2, .ref (aMd 0)), (3, .int x3)] → F_L_law_553 xs L (F_L_law_18 xs L n18) Xm tr Tx Rd Tk Pr Sg Ah Tn Yi Im0 Im1 Yt Yr Md mt aYt aYr x3 = some (1 : Int32) → W p l e room_1 s m #[Value.ref b] below meth c H locs NCL NSL (lw_Z below #[Value.ref b] s) (F0 m 553 ls []) := by
        intro Xm tr Tx Rd Tk Pr Sg Ah Tn Yi Im0 Im1 Yt Yr Md mt aYt aYr x3 H locs ls S hl hF
        unfold F_L_law_553 at hF
        refine lv_aload_n hx hb dL_law_553 rfl (lv_at hl 1 rfl) ?_
        refine lv_aload_n hx hb dL_law_554 rfl (lv_at hl 0 rfl) ?_
        refine lv_iload_n hx hb dL_law_555 rfl (lv_at hl 3 rfl) ?_
        refine lv_iconst (v := (1 : Int32)) hx hb dL_law_556 (by decide) ?_
        refine lv_iadd hx hb dL_law_557 ?_
        obtain ⟨h88, hF⟩ := zs_ckS hF
        refine va_sld hx hb hX hbl hbA S.2.2 h88 dL_law_558 ?_
        refine lv_aload_n hx hb dL_law_559 rfl (lv_at hl 0 rfl) ?_
        refine lv_iload_n hx hb dL_law_560 rfl (lv_at hl 3 rfl) ?_
        refine lv_iconst (v := (2 : Int32)) hx hb dL_law_561 (by decide) ?_
        refine lv_iadd hx hb dL_law_562 ?_
        obtain ⟨h89, hF⟩ := zs_ckS hF
        refine va_sld hx hb hX hbl hbA S.2.2 h89 dL_law_563 ?_
        refine lv_aload_n hx hb dL_law_564 rfl (lv_at hl 0 rfl) ?_
        refine lv_iload_n hx hb dL_law_565 rfl (lv_at hl 3 rfl) ?_
        refine lv_iconst (v := (3 : Int32)) hx hb dL_law_566 (by decide) ?_
        refine lv_iadd hx hb dL_law_567 ?_
        obtain ⟨h90, hF⟩ := zs_ckS hF
        refine va_sld hx hb hX hbl hbA S.2.2 h90 dL_law_568 ?_
        obtain ⟨r91, Tnw92, f93, hF⟩ := zs_b2S hF
        have S1 := zs_cut (Rs := [wX8 G aMd Md mt, wX4 G aTx Tx, wX2 G aRd aTk Rd, wX5 G aTk Tk, wX3 G aSg Sg, wX6 G aYi Yi, wX1 G aIm0 Im0, wX1 G aIm1 Im1, wX6 G aYr Yr]) S 14 [1, 2, 3, 4, 6, 9, 10, 11, 13] [0, 5, 12, 7, 8] rfl rfl rfl (by decide) (zs_f5 _ _ _ _ _)
        refine zs_li (Bs' := [wX7 G aXm aTx aRd aPr aSg aAh aIm0 aIm1 aYt aYr Xm tr, wX8 G aMd Md mt, wX4 G aTx Tx, wX2 G aRd aTk Rd, wX5 G aTk Tk, wX1 G aPr Pr, wX3 G aSg Sg, wX0 G aAh aTn aYi Ah, wX1 G aTn Tnw92, wX6 G aYi Yi, wX1 G aIm0 Im0, wX1 G aIm1 Im1, wX6 G aYt Yt, wX6 G aYr Yr]) S1 hA 14 [1, 2, 3, 4, 6, 9, 10, 11, 13] [0, 5, 12, 7, 8] (zs_lrun C hK hA S S1 [.int (xs ((x3 + (1 : Int32))).toNatClampNeg), .int (xs ((x3 + (2 : Int32))).toNatClampNeg), .int (xs ((x3 + (3 : Int32))).toNatClampNeg)] [] 0 3 (c_X7_blanket (l) (G) (aXm) (aTx) (aRd) (aPr) (aSg) (aAh) (aIm0) (aIm1) (aYt) (aYr) (aTn) (aYi) (Xm) (tr) (Pr) (Yt) (Ah) (Tn) ((xs ((x3 + (1 : Int32))).toNatClampNeg)) ((xs ((x3 + (2 : Int32))).toNatClampNeg)) ((xs ((x3 + (3 : Int32))).toNatClampNeg)) (H.size) (r91) (Tnw92) (f93)) gL_law_X7_blanket rfl rfl rfl zd_X7_blanket ⟨(Nat.le_of_ble_eq_true rfl), (Nat.le_of_ble_eq_true rfl)⟩ rfl rfl rfl hl rfl (Nat.le_of_ble_eq_true rfl) dL_law_569 ⟨(Nat.le_of_ble_eq_true rfl), (Nat.le_of_ble_eq_true rfl)⟩) (zs_f5 _ _ _ _ _) rfl rfl rfl (by decide) (fun H locs S => ?_)
        refine lv_aload_n hx hb dL_law_572 rfl (lv_at hl 2 rfl) ?_
        refine lv_aload_n hx hb dL_law_573 rfl (lv_at hl 0 rfl) ?_
        refine lv_iload_n hx hb dL_law_574 rfl (lv_at hl 3 rfl) ?_
        refine lv_iconst (v := (1 : Int32)) hx hb dL_law_575 (by decide) ?_
        refine lv_iadd hx hb dL_law_576 ?_
        obtain ⟨h94, hF⟩ := zs_ckS hF
        refine va_sld hx hb hX hbl hbA S.2.2 h94 dL_law_577 ?_
        refine lv_aload_n hx hb dL_law_578 rfl (lv_at hl 0 rfl) ?_
        refine lv_iload_n hx hb dL_law_579 rfl (lv_at hl 3 rfl) ?_
        refine lv_iconst (v := (2 : Int32)) hx hb dL_law_580 (by decide) ?_
        refine lv_iadd hx hb dL_law_581 ?_
        obtain ⟨h95, hF⟩ := zs_ckS hF
        refine va_sld hx hb hX hbl hbA S.2.2 h95 dL_law_582 ?_
        refine lv_aload_n hx hb dL_law_583 rfl (lv_at hl 0 rfl) ?_
        refine lv_iload_n hx hb dL_law_584 rfl (lv_at hl 3 rfl) ?_
        refine lv_iconst (v := (3 : Int32)) hx hb dL_law_585 (by decide) ?_
        refine lv_iadd hx hb dL_law_586 ?_
        obtain ⟨h96, hF⟩ := zs_ckS hF
        refine va_sld hx hb hX hbl hbA S.2.2 h96 dL_law_587 ?_
        obtain ⟨r97, Mdw98, f99, hF⟩ := zs_b2S hF
        have S1 := zs_cut (Rs := [wX7 G aXm aTx aRd aPr aSg aAh aIm0 aIm1 aYt aYr Xm tr, wX4 G aTx Tx, wX2 G aRd aTk Rd, wX5 G aTk Tk, wX1 G aPr Pr, wX3 G aSg Sg, wX0 G aAh aTn aYi Ah, wX1 G aTn Tnw92, wX6 G aYi Yi, wX1 G aIm0 Im0, wX1 G aIm1 Im1, wX6 G aYt Yt, wX6 G aYr Yr]) S 14 [0, 2, 3, 4, 5, 6, 7, 8, 9, 10, 11, 12, 13] [1] rfl rfl rfl (by decide) (zs_f1 _)
        refine zs_li (Bs' := [wX7 G aXm aTx aRd aPr aSg aAh aIm0 aIm1 aYt aYr Xm tr, wX8 G aMd Mdw98 mt, wX4 G aTx Tx, wX2 G aRd aTk Rd, wX5 G aTk Tk, wX1 G aPr Pr, wX3 G aSg Sg, wX0 G aAh aTn aYi Ah, wX1 G aTn Tnw92, wX6 G aYi Yi, wX1 G aIm0 Im0, wX1 G aIm1 Im1, wX6 G aYt Yt, wX6 G aYr Yr]) S1 hA 14 [0, 2, 3, 4, 5, 6, 7, 8, 9, 10, 11, 12, 13] [1] (zs_lrun C hK hA S S1 [.int (xs ((x3 + (1 : Int32))).toNatClampNeg), .int (xs ((x3 + (2 : Int32))).toNatClampNeg), .int (xs ((x3 + (3 : Int32))).toNatClampNeg)] [.int r91] 2 3 (c_X8_blanket (l) (G) (aMd) (Md) (mt) ((xs ((x3 + (1 : Int32))).toNatClampNeg)) ((xs ((x3 + (2 : Int32))).toNatClampNeg)) ((xs ((x3 + (3 : Int32))).toNatClampNeg)) (H.size) (r97) (Mdw98) (f99)) gL_law_X8_blanket rfl rfl rfl zd_X8_blanket ⟨(Nat.le_of_ble_eq_true rfl), (Nat.le_of_ble_eq_true rfl)⟩ rfl rfl rfl hl rfl (Nat.le_of_ble_eq_true rfl) dL_law_588 ⟨(Nat.le_of_ble_eq_true rfl), (Nat.le_of_ble_eq_true rfl)⟩) (zs_f1 _) rfl rfl rfl (by decide) (fun H locs S => ?_)
        refine lv_icmp_eq (tgt := 824) hx hb dL_law_591 (by decide) (fun c100 => ?_) (fun c100 => ?_)
        · have hF := zs_t hF c100
          exact j824 Xm tr Tx Rd Tk Pr Sg Ah Tnw92 Yi Im0 Im1 Yt Yr Mdw98 mt aYt aYr x3 _ _ _ S (lv_sub hl [0, 1, 2, 3] rfl) hF
        · have hF := zs_f hF c100
          refine lv_iconst (v := (0 : Int32)) hx hb dL_law_594 (by decide) ?_
          exact absurd (zs_s1 hF) (by decide)
      have j520 : ∀ (Xm : Ob) (tr : Int64) (Tx : Ob) (Rd : Ob) (Tk : Ob) (Pr : Ob) (Sg : Ob) (Ah : Ob) (Tn : Ob) (Yi : Ob) (Im0 : Ob) (Im1 : Ob) (Yt : Ob) (Yr : Ob) (Md : Ob) (mt : Int64) (aYt : Ad) (aYr : Ad) (x3 : Int32) (H : Heap) (locs : List Loc) (ls : Array Slot), zs_S G A s.heap H locs (zs_fl [wX7 G aXm aTx aRd aPr aSg aAh aIm0 aIm1 aYt aYr Xm tr, wX8 G aMd Md mt, wX4 G aTx Tx, wX2 G aRd aTk Rd, wX5 G aTk Tk, wX1 G aPr Pr, wX3 G aSg Sg, wX0 G aAh aTn aYi Ah, wX1 G aTn Tn, wX6 G aYi Yi, wX1 G aIm0 Im0, wX1 G aIm1 Im1, wX6 G aYt Yt, wX6 G aYr Yr]) → lv_has ls 4 [(0, .ref b), (1, .ref (aXm 0)), (2, .ref (aMd 0)), (3, .int x3)] → F_L_law_520 xs L (F_L_law_18 xs L n18) Xm tr Tx Rd Tk Pr Sg Ah Tn Yi Im0 Im1 Yt Yr Md mt aYt aYr x3 = some (1 : Int32) → W p l e room_1 s m #[Value.ref b] below meth c H locs NCL NSL (lw_Z below #[Value.ref b] s) (F0 m 520 ls []) := by
        intro Xm tr Tx Rd Tk Pr Sg Ah Tn Yi Im0 Im1 Yt Yr Md mt aYt aYr x3 H locs ls S hl hF
        unfold F_L_law_520 at hF
        refine lv_aload_n hx hb dL_law_520 rfl (lv_at hl 1 rfl) ?_
        refine lv_aload_n hx hb dL_law_521 rfl (lv_at hl 0 rfl) ?_
        refine lv_iload_n hx hb dL_law_522 rfl (lv_at hl 3 rfl) ?_
        refine lv_iconst (v := (1 : Int32)) hx hb dL_law_523 (by decide) ?_
        refine lv_iadd hx hb dL_law_524 ?_
        obtain ⟨h101, hF⟩ := zs_ckS hF
        refine va_sld hx hb hX hbl hbA S.2.2 h101 dL_law_525 ?_
        refine lv_aload_n hx hb dL_law_526 rfl (lv_at hl 0 rfl) ?_
        refine lv_iload_n hx hb dL_law_527 rfl (lv_at hl 3 rfl) ?_
        refine lv_iconst (v := (2 : Int32)) hx hb dL_law_528 (by decide) ?_
        refine lv_iadd hx hb dL_law_529 ?_
        obtain ⟨h102, hF⟩ := zs_ckS hF
        refine va_sld hx hb hX hbl hbA S.2.2 h102 dL_law_530 ?_
        obtain ⟨r103, Tnw104, Yiw105, f106, hF⟩ := zs_b3S hF
        have S1 := zs_cut (Rs := [wX8 G aMd Md mt, wX4 G aTx Tx, wX2 G aRd aTk Rd, wX5 G aTk Tk, wX3 G aSg Sg, wX1 G aIm0 Im0, wX1 G aIm1 Im1, wX6 G aYr Yr]) S 14 [1, 2, 3, 4, 6, 10, 11, 13] [0, 5, 12, 7, 8, 9] rfl rfl rfl (by decide) (zs_f6 _ _ _ _ _ _)
        refine zs_li (Bs' := [wX7 G aXm aTx aRd aPr aSg aAh aIm0 aIm1 aYt aYr Xm tr, wX8 G aMd Md mt, wX4 G aTx Tx, wX2 G aRd aTk Rd, wX5 G aTk Tk, wX1 G aPr Pr, wX3 G aSg Sg, wX0 G aAh aTn aYi Ah, wX1 G aTn Tnw104, wX6 G aYi Yiw105, wX1 G aIm0 Im0, wX1 G aIm1 Im1, wX6 G aYt Yt, wX6 G aYr Yr]) S1 hA 14 [1, 2, 3, 4, 6, 10, 11, 13] [0, 5, 12, 7, 8, 9] (zs_lrun C hK hA S S1 [.int (xs ((x3 + (1 : Int32))).toNatClampNeg), .int (xs ((x3 + (2 : Int32))).toNatClampNeg)] [] 0 2 (c_X7_busy (l) (G) (aXm) (aTx) (aRd) (aPr) (aSg) (aAh) (aIm0) (aIm1) (aYt) (aYr) (aTn) (aYi) (Xm) (tr) (Pr) (Yt) (Ah) (Tn) (Yi) ((xs ((x3 + (1 : Int32))).toNatClampNeg)) ((xs ((x3 + (2 : Int32))).toNatClampNeg)) (H.size) (r103) (Tnw104) (Yiw105) (f106)) gL_law_X7_busy rfl rfl rfl zd_X7_busy ⟨(Nat.le_of_ble_eq_true rfl), (Nat.le_of_ble_eq_true rfl)⟩ rfl rfl rfl hl rfl (Nat.le_of_ble_eq_true rfl) dL_law_531 ⟨(Nat.le_of_ble_eq_true rfl), (Nat.le_of_ble_eq_true rfl)⟩) (zs_f6 _ _ _ _ _ _) rfl rfl rfl (by decide) (fun H locs S => ?_)
        refine lv_aload_n hx hb dL_law_534 rfl (lv_at hl 2 rfl) ?_
        refine lv_aload_n hx hb dL_law_535 rfl (lv_at hl 0 rfl) ?_
        refine lv_iload_n hx hb dL_law_536 rfl (lv_at hl 3 rfl) ?_
        refine lv_iconst (v := (1 : Int32)) hx hb dL_law_537 (by decide) ?_
        refine lv_iadd hx hb dL_law_538 ?_
        obtain ⟨h107, hF⟩ := zs_ckS hF
        refine va_sld hx hb hX hbl hbA S.2.2 h107 dL_law_539 ?_
        refine lv_aload_n hx hb dL_law_540 rfl (lv_at hl 0 rfl) ?_
        refine lv_iload_n hx hb dL_law_541 rfl (lv_at hl 3 rfl) ?_
        refine lv_iconst (v := (2 : Int32)) hx hb dL_law_542 (by decide) ?_
        refine lv_iadd hx hb dL_law_543 ?_
        obtain ⟨h108, hF⟩ := zs_ckS hF
        refine va_sld hx hb hX hbl hbA S.2.2 h108 dL_law_544 ?_
        obtain ⟨r109, Mdw110, f111, hF⟩ := zs_b2S hF
        have S1 := zs_cut (Rs := [wX7 G aXm aTx aRd aPr aSg aAh aIm0 aIm1 aYt aYr Xm tr, wX4 G aTx Tx, wX2 G aRd aTk Rd, wX5 G aTk Tk, wX1 G aPr Pr, wX3 G aSg Sg, wX0 G aAh aTn aYi Ah, wX1 G aTn Tnw104, wX6 G aYi Yiw105, wX1 G aIm0 Im0, wX1 G aIm1 Im1, wX6 G aYt Yt, wX6 G aYr Yr]) S 14 [0, 2, 3, 4, 5, 6, 7, 8, 9, 10, 11, 12, 13] [1] rfl rfl rfl (by decide) (zs_f1 _)
        refine zs_li (Bs' := [wX7 G aXm aTx aRd aPr aSg aAh aIm0 aIm1 aYt aYr Xm tr, wX8 G aMd Mdw110 mt, wX4 G aTx Tx, wX2 G aRd aTk Rd, wX5 G aTk Tk, wX1 G aPr Pr, wX3 G aSg Sg, wX0 G aAh aTn aYi Ah, wX1 G aTn Tnw104, wX6 G aYi Yiw105, wX1 G aIm0 Im0, wX1 G aIm1 Im1, wX6 G aYt Yt, wX6 G aYr Yr]) S1 hA 14 [0, 2, 3, 4, 5, 6, 7, 8, 9, 10, 11, 12, 13] [1] (zs_lrun C hK hA S S1 [.int (xs ((x3 + (1 : Int32))).toNatClampNeg), .int (xs ((x3 + (2 : Int32))).toNatClampNeg)] [.int r103] 2 2 (c_X8_busy (l) (G) (aMd) (Md) (mt) ((xs ((x3 + (1 : Int32))).toNatClampNeg)) ((xs ((x3 + (2 : Int32))).toNatClampNeg)) (H.size) (r109) (Mdw110) (f111)) gL_law_X8_busy rfl rfl rfl zd_X8_busy ⟨(Nat.le_of_ble_eq_true rfl), (Nat.le_of_ble_eq_true rfl)⟩ rfl rfl rfl hl rfl (Nat.le_of_ble_eq_true rfl) dL_law_545 ⟨(Nat.le_of_ble_eq_true rfl), (Nat.le_of_ble_eq_true rfl)⟩) (zs_f1 _) rfl rfl rfl (by decide) (fun H locs S => ?_)
        refine lv_icmp_eq (tgt := 824) hx hb dL_law_548 (by decide) (fun c112 => ?_) (fun c112 => ?_)
        · have hF := zs_t hF c112
          exact j824 Xm tr Tx Rd Tk Pr Sg Ah Tnw104 Yiw105 Im0 Im1 Yt Yr Mdw110 mt aYt aYr x3 _ _ _ S (lv_sub hl [0, 1, 2, 3] rfl) hF
        · have hF := zs_f hF c112
          refine lv_iconst (v := (0 : Int32)) hx hb dL_law_551 (by decide) ?_
          exact absurd (zs_s1 hF) (by decide)
      have j487 : ∀ (Xm : Ob) (tr : Int64) (Tx : Ob) (Rd : Ob) (Tk : Ob) (Pr : Ob) (Sg : Ob) (Ah : Ob) (Tn : Ob) (Yi : Ob) (Im0 : Ob) (Im1 : Ob) (Yt : Ob) (Yr : Ob) (Md : Ob) (mt : Int64) (aYt : Ad) (aYr : Ad) (x3 : Int32) (H : Heap) (locs : List Loc) (ls : Array Slot), zs_S G A s.heap H locs (zs_fl [wX7 G aXm aTx aRd aPr aSg aAh aIm0 aIm1 aYt aYr Xm tr, wX8 G aMd Md mt, wX4 G aTx Tx, wX2 G aRd aTk Rd, wX5 G aTk Tk, wX1 G aPr Pr, wX3 G aSg Sg, wX0 G aAh aTn aYi Ah, wX1 G aTn Tn, wX6 G aYi Yi, wX1 G aIm0 Im0, wX1 G aIm1 Im1, wX6 G aYt Yt, wX6 G aYr Yr]) → lv_has ls 4 [(0, .ref b), (1, .ref (aXm 0)), (2, .ref (aMd 0)), (3, .int x3)] → F_L_law_487 xs L (F_L_law_18 xs L n18) Xm tr Tx Rd Tk Pr Sg Ah Tn Yi Im0 Im1 Yt Yr Md mt aYt aYr x3 = some (1 : Int32) → W p l e room_1 s m #[Value.ref b] below meth c H locs NCL NSL (lw_Z below #[Value.ref b] s) (F0 m 487 ls []) := by
        intro Xm tr Tx Rd Tk Pr Sg Ah Tn Yi Im0 Im1 Yt Yr Md mt aYt aYr x3 H locs ls S hl hF
        unfold F_L_law_487 at hF
        refine lv_aload_n hx hb dL_law_487 rfl (lv_at hl 1 rfl) ?_
        refine lv_aload_n hx hb dL_law_488 rfl (lv_at hl 0 rfl) ?_
        refine lv_iload_n hx hb dL_law_489 rfl (lv_at hl 3 rfl) ?_
        refine lv_iconst (v := (1 : Int32)) hx hb dL_law_490 (by decide) ?_
        refine lv_iadd hx hb dL_law_491 ?_
        obtain ⟨h113, hF⟩ := zs_ckS hF
        refine va_sld hx hb hX hbl hbA S.2.2 h113 dL_law_492 ?_
        refine lv_aload_n hx hb dL_law_493 rfl (lv_at hl 0 rfl) ?_
        refine lv_iload_n hx hb dL_law_494 rfl (lv_at hl 3 rfl) ?_
        refine lv_iconst (v := (2 : Int32)) hx hb dL_law_495 (by decide) ?_
        refine lv_iadd hx hb dL_law_496 ?_
        obtain ⟨h114, hF⟩ := zs_ckS hF
        refine va_sld hx hb hX hbl hbA S.2.2 h114 dL_law_497 ?_
        obtain ⟨r115, Tnw116, f117, hF⟩ := zs_b2S hF
        have S1 := zs_cut (Rs := [wX8 G aMd Md mt, wX4 G aTx Tx, wX2 G aRd aTk Rd, wX5 G aTk Tk, wX3 G aSg Sg, wX6 G aYi Yi, wX1 G aIm0 Im0, wX1 G aIm1 Im1, wX6 G aYr Yr]) S 14 [1, 2, 3, 4, 6, 9, 10, 11, 13] [0, 5, 12, 7, 8] rfl rfl rfl (by decide) (zs_f5 _ _ _ _ _)
        refine zs_li (Bs' := [wX7 G aXm aTx aRd aPr aSg aAh aIm0 aIm1 aYt aYr Xm tr, wX8 G aMd Md mt, wX4 G aTx Tx, wX2 G aRd aTk Rd, wX5 G aTk Tk, wX1 G aPr Pr, wX3 G aSg Sg, wX0 G aAh aTn aYi Ah, wX1 G aTn Tnw116, wX6 G aYi Yi, wX1 G aIm0 Im0, wX1 G aIm1 Im1, wX6 G aYt Yt, wX6 G aYr Yr]) S1 hA 14 [1, 2, 3, 4, 6, 9, 10, 11, 13] [0, 5, 12, 7, 8] (zs_lrun C hK hA S S1 [.int (xs ((x3 + (1 : Int32))).toNatClampNeg), .int (xs ((x3 + (2 : Int32))).toNatClampNeg)] [] 0 2 (c_X7_coolest (l) (G) (aXm) (aTx) (aRd) (aPr) (aSg) (aAh) (aIm0) (aIm1) (aYt) (aYr) (aTn) (aYi) (Xm) (tr) (Pr) (Yt) (Ah) (Tn) ((xs ((x3 + (1 : Int32))).toNatClampNeg)) ((xs ((x3 + (2 : Int32))).toNatClampNeg)) (H.size) (r115) (Tnw116) (f117)) gL_law_X7_coolest rfl rfl rfl zd_X7_coolest ⟨(Nat.le_of_ble_eq_true rfl), (Nat.le_of_ble_eq_true rfl)⟩ rfl rfl rfl hl rfl (Nat.le_of_ble_eq_true rfl) dL_law_498 ⟨(Nat.le_of_ble_eq_true rfl), (Nat.le_of_ble_eq_true rfl)⟩) (zs_f5 _ _ _ _ _) rfl rfl rfl (by decide) (fun H locs S => ?_)
        refine lv_aload_n hx hb dL_law_501 rfl (lv_at hl 2 rfl) ?_
        refine lv_aload_n hx hb dL_law_502 rfl (lv_at hl 0 rfl) ?_
        refine lv_iload_n hx hb dL_law_503 rfl (lv_at hl 3 rfl) ?_
        refine lv_iconst (v := (1 : Int32)) hx hb dL_law_504 (by decide) ?_
        refine lv_iadd hx hb dL_law_505 ?_
        obtain ⟨h118, hF⟩ := zs_ckS hF
        refine va_sld hx hb hX hbl hbA S.2.2 h118 dL_law_506 ?_
        refine lv_aload_n hx hb dL_law_507 rfl (lv_at hl 0 rfl) ?_
        refine lv_iload_n hx hb dL_law_508 rfl (lv_at hl 3 rfl) ?_
        refine lv_iconst (v := (2 : Int32)) hx hb dL_law_509 (by decide) ?_
        refine lv_iadd hx hb dL_law_510 ?_
        obtain ⟨h119, hF⟩ := zs_ckS hF
        refine va_sld hx hb hX hbl hbA S.2.2 h119 dL_law_511 ?_
        obtain ⟨r120, Mdw121, f122, hF⟩ := zs_b2S hF
        have S1 := zs_cut (Rs := [wX7 G aXm aTx aRd aPr aSg aAh aIm0 aIm1 aYt aYr Xm tr, wX4 G aTx Tx, wX2 G aRd aTk Rd, wX5 G aTk Tk, wX1 G aPr Pr, wX3 G aSg Sg, wX0 G aAh aTn aYi Ah, wX1 G aTn Tnw116, wX6 G aYi Yi, wX1 G aIm0 Im0, wX1 G aIm1 Im1, wX6 G aYt Yt, wX6 G aYr Yr]) S 14 [0, 2, 3, 4, 5, 6, 7, 8, 9, 10, 11, 12, 13] [1] rfl rfl rfl (by decide) (zs_f1 _)
        refine zs_li (Bs' := [wX7 G aXm aTx aRd aPr aSg aAh aIm0 aIm1 aYt aYr Xm tr, wX8 G aMd Mdw121 mt, wX4 G aTx Tx, wX2 G aRd aTk Rd, wX5 G aTk Tk, wX1 G aPr Pr, wX3 G aSg Sg, wX0 G aAh aTn aYi Ah, wX1 G aTn Tnw116, wX6 G aYi Yi, wX1 G aIm0 Im0, wX1 G aIm1 Im1, wX6 G aYt Yt, wX6 G aYr Yr]) S1 hA 14 [0, 2, 3, 4, 5, 6, 7, 8, 9, 10, 11, 12, 13] [1] (zs_lrun C hK hA S S1 [.int (xs ((x3 + (1 : Int32))).toNatClampNeg), .int (xs ((x3 + (2 : Int32))).toNatClampNeg)] [.int r115] 2 2 (c_X8_coolest (l) (G) (aMd) (Md) (mt) ((xs ((x3 + (1 : Int32))).toNatClampNeg)) ((xs ((x3 + (2 : Int32))).toNatClampNeg)) (H.size) (r120) (Mdw121) (f122)) gL_law_X8_coolest rfl rfl rfl zd_X8_coolest ⟨(Nat.le_of_ble_eq_true rfl), (Nat.le_of_ble_eq_true rfl)⟩ rfl rfl rfl hl rfl (Nat.le_of_ble_eq_true rfl) dL_law_512 ⟨(Nat.le_of_ble_eq_true rfl), (Nat.le_of_ble_eq_true rfl)⟩) (zs_f1 _) rfl rfl rfl (by decide) (fun H locs S => ?_)
        refine lv_icmp_eq (tgt := 824) hx hb dL_law_515 (by decide) (fun c123 => ?_) (fun c123 => ?_)
        · have hF := zs_t hF c123
          exact j824 Xm tr Tx Rd Tk Pr Sg Ah Tnw116 Yi Im0 Im1 Yt Yr Mdw121 mt aYt aYr x3 _ _ _ S (lv_sub hl [0, 1, 2, 3] rfl) hF
        · have hF := zs_f hF c123
          refine lv_iconst (v := (0 : Int32)) hx hb dL_law_518 (by decide) ?_
          exact absurd (zs_s1 hF) (by decide)
      have j474 : ∀ (Xm : Ob) (tr : Int64) (Tx : Ob) (Rd : Ob) (Tk : Ob) (Pr : Ob) (Sg : Ob) (Ah : Ob) (Tn : Ob) (Yi : Ob) (Im0 : Ob) (Im1 : Ob) (Yt : Ob) (Yr : Ob) (Md : Ob) (mt : Int64) (aYt : Ad) (aYr : Ad) (x3 : Int32) (H : Heap) (locs : List Loc) (ls : Array Slot), zs_S G A s.heap H locs (zs_fl [wX7 G aXm aTx aRd aPr aSg aAh aIm0 aIm1 aYt aYr Xm tr, wX8 G aMd Md mt, wX4 G aTx Tx, wX2 G aRd aTk Rd, wX5 G aTk Tk, wX1 G aPr Pr, wX3 G aSg Sg, wX0 G aAh aTn aYi Ah, wX1 G aTn Tn, wX6 G aYi Yi, wX1 G aIm0 Im0, wX1 G aIm1 Im1, wX6 G aYt Yt, wX6 G aYr Yr]) → lv_has ls 4 [(0, .ref b), (1, .ref (aXm 0)), (2, .ref (aMd 0)), (3, .int x3)] → F_L_law_474 xs L (F_L_law_18 xs L n18) Xm tr Tx Rd Tk Pr Sg Ah Tn Yi Im0 Im1 Yt Yr Md mt aYt aYr x3 = some (1 : Int32) → W p l e room_1 s m #[Value.ref b] below meth c H locs NCL NSL (lw_Z below #[Value.ref b] s) (F0 m 474 ls []) := by
        intro Xm tr Tx Rd Tk Pr Sg Ah Tn Yi Im0 Im1 Yt Yr Md mt aYt aYr x3 H locs ls S hl hF
        unfold F_L_law_474 at hF
        refine lv_aload_n hx hb dL_law_474 rfl (lv_at hl 1 rfl) ?_
        obtain ⟨r124, Ahw125, Tnw126, f127, hF⟩ := zs_b3S hF
        have S1 := zs_cut (Rs := [wX8 G aMd Md mt, wX4 G aTx Tx, wX2 G aRd aTk Rd, wX5 G aTk Tk, wX3 G aSg Sg, wX6 G aYi Yi, wX1 G aIm0 Im0, wX1 G aIm1 Im1, wX6 G aYr Yr]) S 14 [1, 2, 3, 4, 6, 9, 10, 11, 13] [0, 5, 12, 7, 8] rfl rfl rfl (by decide) (zs_f5 _ _ _ _ _)
        refine zs_li (Bs' := [wX7 G aXm aTx aRd aPr aSg aAh aIm0 aIm1 aYt aYr Xm tr, wX8 G aMd Md mt, wX4 G aTx Tx, wX2 G aRd aTk Rd, wX5 G aTk Tk, wX1 G aPr Pr, wX3 G aSg Sg, wX0 G aAh aTn aYi Ahw125, wX1 G aTn Tnw126, wX6 G aYi Yi, wX1 G aIm0 Im0, wX1 G aIm1 Im1, wX6 G aYt Yt, wX6 G aYr Yr]) S1 hA 14 [1, 2, 3, 4, 6, 9, 10, 11, 13] [0, 5, 12, 7, 8] (zs_lrun C hK hA S S1 [] [] 0 0 (c_X7_rest (l) (G) (aXm) (aTx) (aRd) (aPr) (aSg) (aAh) (aIm0) (aIm1) (aYt) (aYr) (aTn) (aYi) (Xm) (tr) (Pr) (Yt) (Ah) (Tn) (H.size) (r124) (Ahw125) (Tnw126) (f127)) gL_law_X7_rest rfl rfl rfl zd_X7_rest ⟨(Nat.le_of_ble_eq_true rfl), (Nat.le_of_ble_eq_true rfl)⟩ rfl rfl rfl hl rfl (Nat.le_of_ble_eq_true rfl) dL_law_475 ⟨(Nat.le_of_ble_eq_true rfl), (Nat.le_of_ble_eq_true rfl)⟩) (zs_f5 _ _ _ _ _) rfl rfl rfl (by decide) (fun H locs S => ?_)
        refine lv_aload_n hx hb dL_law_478 rfl (lv_at hl 2 rfl) ?_
        obtain ⟨r128, Mdw129, f130, hF⟩ := zs_b2S hF
        have S1 := zs_cut (Rs := [wX7 G aXm aTx aRd aPr aSg aAh aIm0 aIm1 aYt aYr Xm tr, wX4 G aTx Tx, wX2 G aRd aTk Rd, wX5 G aTk Tk, wX1 G aPr Pr, wX3 G aSg Sg, wX0 G aAh aTn aYi Ahw125, wX1 G aTn Tnw126, wX6 G aYi Yi, wX1 G aIm0 Im0, wX1 G aIm1 Im1, wX6 G aYt Yt, wX6 G aYr Yr]) S 14 [0, 2, 3, 4, 5, 6, 7, 8, 9, 10, 11, 12, 13] [1] rfl rfl rfl (by decide) (zs_f1 _)
        refine zs_li (Bs' := [wX7 G aXm aTx aRd aPr aSg aAh aIm0 aIm1 aYt aYr Xm tr, wX8 G aMd Mdw129 mt, wX4 G aTx Tx, wX2 G aRd aTk Rd, wX5 G aTk Tk, wX1 G aPr Pr, wX3 G aSg Sg, wX0 G aAh aTn aYi Ahw125, wX1 G aTn Tnw126, wX6 G aYi Yi, wX1 G aIm0 Im0, wX1 G aIm1 Im1, wX6 G aYt Yt, wX6 G aYr Yr]) S1 hA 14 [0, 2, 3, 4, 5, 6, 7, 8, 9, 10, 11, 12, 13] [1] (zs_lrun C hK hA S S1 [] [.int r124] 2 0 (c_X8_rest (l) (G) (aMd) (Md) (mt) (H.size) (r128) (Mdw129) (f130)) gL_law_X8_rest rfl rfl rfl zd_X8_rest ⟨(Nat.le_of_ble_eq_true rfl), (Nat.le_of_ble_eq_true rfl)⟩ rfl rfl rfl hl rfl (Nat.le_of_ble_eq_true rfl) dL_law_479 ⟨(Nat.le_of_ble_eq_true rfl), (Nat.le_of_ble_eq_true rfl)⟩) (zs_f1 _) rfl rfl rfl (by decide) (fun H locs S => ?_)
        refine lv_icmp_eq (tgt := 824) hx hb dL_law_482 (by decide) (fun c131 => ?_) (fun c131 => ?_)
        · have hF := zs_t hF c131
          exact j824 Xm tr Tx Rd Tk Pr Sg Ahw125 Tnw126 Yi Im0 Im1 Yt Yr Mdw129 mt aYt aYr x3 _ _ _ S (lv_sub hl [0, 1, 2, 3] rfl) hF
        · have hF := zs_f hF c131
          refine lv_iconst (v := (0 : Int32)) hx hb dL_law_485 (by decide) ?_
          exact absurd (zs_s1 hF) (by decide)
      have j451 : ∀ (Xm : Ob) (tr : Int64) (Tx : Ob) (Rd : Ob) (Tk : Ob) (Pr : Ob) (Sg : Ob) (Ah : Ob) (Tn : Ob) (Yi : Ob) (Im0 : Ob) (Im1 : Ob) (Yt : Ob) (Yr : Ob) (Md : Ob) (mt : Int64) (aYt : Ad) (aYr : Ad) (x3 : Int32) (H : Heap) (locs : List Loc) (ls : Array Slot), zs_S G A s.heap H locs (zs_fl [wX7 G aXm aTx aRd aPr aSg aAh aIm0 aIm1 aYt aYr Xm tr, wX8 G aMd Md mt, wX4 G aTx Tx, wX2 G aRd aTk Rd, wX5 G aTk Tk, wX1 G aPr Pr, wX3 G aSg Sg, wX0 G aAh aTn aYi Ah, wX1 G aTn Tn, wX6 G aYi Yi, wX1 G aIm0 Im0, wX1 G aIm1 Im1, wX6 G aYt Yt, wX6 G aYr Yr]) → lv_has ls 4 [(0, .ref b), (1, .ref (aXm 0)), (2, .ref (aMd 0)), (3, .int x3)] → F_L_law_451 xs L (F_L_law_18 xs L n18) Xm tr Tx Rd Tk Pr Sg Ah Tn Yi Im0 Im1 Yt Yr Md mt aYt aYr x3 = some (1 : Int32) → W p l e room_1 s m #[Value.ref b] below meth c H locs NCL NSL (lw_Z below #[Value.ref b] s) (F0 m 451 ls []) := by
        intro Xm tr Tx Rd Tk Pr Sg Ah Tn Yi Im0 Im1 Yt Yr Md mt aYt aYr x3 H locs ls S hl hF
        unfold F_L_law_451 at hF
        refine lv_aload_n hx hb dL_law_451 rfl (lv_at hl 1 rfl) ?_
        refine lv_aload_n hx hb dL_law_452 rfl (lv_at hl 0 rfl) ?_
        refine lv_iload_n hx hb dL_law_453 rfl (lv_at hl 3 rfl) ?_
        refine lv_iconst (v := (1 : Int32)) hx hb dL_law_454 (by decide) ?_
        refine lv_iadd hx hb dL_law_455 ?_
        obtain ⟨h132, hF⟩ := zs_ckS hF
        refine va_sld hx hb hX hbl hbA S.2.2 h132 dL_law_456 ?_
        obtain ⟨r133, Tnw134, f135, hF⟩ := zs_b2S hF
        have S1 := zs_cut (Rs := [wX8 G aMd Md mt, wX4 G aTx Tx, wX2 G aRd aTk Rd, wX5 G aTk Tk, wX3 G aSg Sg, wX6 G aYi Yi, wX1 G aIm0 Im0, wX1 G aIm1 Im1, wX6 G aYr Yr]) S 14 [1, 2, 3, 4, 6, 9, 10, 11, 13] [0, 5, 12, 7, 8] rfl rfl rfl (by decide) (zs_f5 _ _ _ _ _)
        refine zs_li (Bs' := [wX7 G aXm aTx aRd aPr aSg aAh aIm0 aIm1 aYt aYr Xm tr, wX8 G aMd Md mt, wX4 G aTx Tx, wX2 G aRd aTk Rd, wX5 G aTk Tk, wX1 G aPr Pr, wX3 G aSg Sg, wX0 G aAh aTn aYi Ah, wX1 G aTn Tnw134, wX6 G aYi Yi, wX1 G aIm0 Im0, wX1 G aIm1 Im1, wX6 G aYt Yt, wX6 G aYr Yr]) S1 hA 14 [1, 2, 3, 4, 6, 9, 10, 11, 13] [0, 5, 12, 7, 8] (zs_lrun C hK hA S S1 [.int (xs ((x3 + (1 : Int32))).toNatClampNeg)] [] 0 1 (c_X7_first (l) (G) (aXm) (aTx) (aRd) (aPr) (aSg) (aAh) (aIm0) (aIm1) (aYt) (aYr) (aTn) (aYi) (Xm) (tr) (Pr) (Yt) (Ah) (Tn) ((xs ((x3 + (1 : Int32))).toNatClampNeg)) (H.size) (r133) (Tnw134) (f135)) gL_law_X7_first rfl rfl rfl zd_X7_first ⟨(Nat.le_of_ble_eq_true rfl), (Nat.le_of_ble_eq_true rfl)⟩ rfl rfl rfl hl rfl (Nat.le_of_ble_eq_true rfl) dL_law_457 ⟨(Nat.le_of_ble_eq_true rfl), (Nat.le_of_ble_eq_true rfl)⟩) (zs_f5 _ _ _ _ _) rfl rfl rfl (by decide) (fun H locs S => ?_)
        refine lv_aload_n hx hb dL_law_460 rfl (lv_at hl 2 rfl) ?_
        refine lv_aload_n hx hb dL_law_461 rfl (lv_at hl 0 rfl) ?_
        refine lv_iload_n hx hb dL_law_462 rfl (lv_at hl 3 rfl) ?_
        refine lv_iconst (v := (1 : Int32)) hx hb dL_law_463 (by decide) ?_
        refine lv_iadd hx hb dL_law_464 ?_
        obtain ⟨h136, hF⟩ := zs_ckS hF
        refine va_sld hx hb hX hbl hbA S.2.2 h136 dL_law_465 ?_
        obtain ⟨r137, Mdw138, f139, hF⟩ := zs_b2S hF
        have S1 := zs_cut (Rs := [wX7 G aXm aTx aRd aPr aSg aAh aIm0 aIm1 aYt aYr Xm tr, wX4 G aTx Tx, wX2 G aRd aTk Rd, wX5 G aTk Tk, wX1 G aPr Pr, wX3 G aSg Sg, wX0 G aAh aTn aYi Ah, wX1 G aTn Tnw134, wX6 G aYi Yi, wX1 G aIm0 Im0, wX1 G aIm1 Im1, wX6 G aYt Yt, wX6 G aYr Yr]) S 14 [0, 2, 3, 4, 5, 6, 7, 8, 9, 10, 11, 12, 13] [1] rfl rfl rfl (by decide) (zs_f1 _)
        refine zs_li (Bs' := [wX7 G aXm aTx aRd aPr aSg aAh aIm0 aIm1 aYt aYr Xm tr, wX8 G aMd Mdw138 mt, wX4 G aTx Tx, wX2 G aRd aTk Rd, wX5 G aTk Tk, wX1 G aPr Pr, wX3 G aSg Sg, wX0 G aAh aTn aYi Ah, wX1 G aTn Tnw134, wX6 G aYi Yi, wX1 G aIm0 Im0, wX1 G aIm1 Im1, wX6 G aYt Yt, wX6 G aYr Yr]) S1 hA 14 [0, 2, 3, 4, 5, 6, 7, 8, 9, 10, 11, 12, 13] [1] (zs_lrun C hK hA S S1 [.int (xs ((x3 + (1 : Int32))).toNatClampNeg)] [.int r133] 2 1 (c_X8_first (l) (G) (aMd) (Md) (mt) ((xs ((x3 + (1 : Int32))).toNatClampNeg)) (H.size) (r137) (Mdw138) (f139)) gL_law_X8_first rfl rfl rfl zd_X8_first ⟨(Nat.le_of_ble_eq_true rfl), (Nat.le_of_ble_eq_true rfl)⟩ rfl rfl rfl hl rfl (Nat.le_of_ble_eq_true rfl) dL_law_466 ⟨(Nat.le_of_ble_eq_true rfl), (Nat.le_of_ble_eq_true rfl)⟩) (zs_f1 _) rfl rfl rfl (by decide) (fun H locs S => ?_)
        refine lv_icmp_eq (tgt := 824) hx hb dL_law_469 (by decide) (fun c140 => ?_) (fun c140 => ?_)
        · have hF := zs_t hF c140
          exact j824 Xm tr Tx Rd Tk Pr Sg Ah Tnw134 Yi Im0 Im1 Yt Yr Mdw138 mt aYt aYr x3 _ _ _ S (lv_sub hl [0, 1, 2, 3] rfl) hF
        · have hF := zs_f hF c140
          refine lv_iconst (v := (0 : Int32)) hx hb dL_law_472 (by decide) ?_
          exact absurd (zs_s1 hF) (by decide)
      have j418 : ∀ (Xm : Ob) (tr : Int64) (Tx : Ob) (Rd : Ob) (Tk : Ob) (Pr : Ob) (Sg : Ob) (Ah : Ob) (Tn : Ob) (Yi : Ob) (Im0 : Ob) (Im1 : Ob) (Yt : Ob) (Yr : Ob) (Md : Ob) (mt : Int64) (aYt : Ad) (aYr : Ad) (x3 : Int32) (H : Heap) (locs : List Loc) (ls : Array Slot), zs_S G A s.heap H locs (zs_fl [wX7 G aXm aTx aRd aPr aSg aAh aIm0 aIm1 aYt aYr Xm tr, wX8 G aMd Md mt, wX4 G aTx Tx, wX2 G aRd aTk Rd, wX5 G aTk Tk, wX1 G aPr Pr, wX3 G aSg Sg, wX0 G aAh aTn aYi Ah, wX1 G aTn Tn, wX6 G aYi Yi, wX1 G aIm0 Im0, wX1 G aIm1 Im1, wX6 G aYt Yt, wX6 G aYr Yr]) → lv_has ls 4 [(0, .ref b), (1, .ref (aXm 0)), (2, .ref (aMd 0)), (3, .int x3)] → F_L_law_418 xs L (F_L_law_18 xs L n18) Xm tr Tx Rd Tk Pr Sg Ah Tn Yi Im0 Im1 Yt Yr Md mt aYt aYr x3 = some (1 : Int32) → W p l e room_1 s m #[Value.ref b] below meth c H locs NCL NSL (lw_Z below #[Value.ref b] s) (F0 m 418 ls []) := by
        intro Xm tr Tx Rd Tk Pr Sg Ah Tn Yi Im0 Im1 Yt Yr Md mt aYt aYr x3 H locs ls S hl hF
        unfold F_L_law_418 at hF
        refine lv_aload_n hx hb dL_law_418 rfl (lv_at hl 1 rfl) ?_
        refine lv_aload_n hx hb dL_law_419 rfl (lv_at hl 0 rfl) ?_
        refine lv_iload_n hx hb dL_law_420 rfl (lv_at hl 3 rfl) ?_
        refine lv_iconst (v := (1 : Int32)) hx hb dL_law_421 (by decide) ?_
        refine lv_iadd hx hb dL_law_422 ?_
        obtain ⟨h141, hF⟩ := zs_ckS hF
        refine va_sld hx hb hX hbl hbA S.2.2 h141 dL_law_423 ?_
        refine lv_aload_n hx hb dL_law_424 rfl (lv_at hl 0 rfl) ?_
        refine lv_iload_n hx hb dL_law_425 rfl (lv_at hl 3 rfl) ?_
        refine lv_iconst (v := (2 : Int32)) hx hb dL_law_426 (by decide) ?_
        refine lv_iadd hx hb dL_law_427 ?_
        obtain ⟨h142, hF⟩ := zs_ckS hF
        refine va_sld hx hb hX hbl hbA S.2.2 h142 dL_law_428 ?_
        obtain ⟨r143, Tnw144, f145, hF⟩ := zs_b2S hF
        have S1 := zs_cut (Rs := [wX8 G aMd Md mt, wX4 G aTx Tx, wX2 G aRd aTk Rd, wX5 G aTk Tk, wX3 G aSg Sg, wX6 G aYi Yi, wX1 G aIm0 Im0, wX1 G aIm1 Im1, wX6 G aYr Yr]) S 14 [1, 2, 3, 4, 6, 9, 10, 11, 13] [0, 5, 12, 7, 8] rfl rfl rfl (by decide) (zs_f5 _ _ _ _ _)
        refine zs_li (Bs' := [wX7 G aXm aTx aRd aPr aSg aAh aIm0 aIm1 aYt aYr Xm tr, wX8 G aMd Md mt, wX4 G aTx Tx, wX2 G aRd aTk Rd, wX5 G aTk Tk, wX1 G aPr Pr, wX3 G aSg Sg, wX0 G aAh aTn aYi Ah, wX1 G aTn Tnw144, wX6 G aYi Yi, wX1 G aIm0 Im0, wX1 G aIm1 Im1, wX6 G aYt Yt, wX6 G aYr Yr]) S1 hA 14 [1, 2, 3, 4, 6, 9, 10, 11, 13] [0, 5, 12, 7, 8] (zs_lrun C hK hA S S1 [.int (xs ((x3 + (1 : Int32))).toNatClampNeg), .int (xs ((x3 + (2 : Int32))).toNatClampNeg)] [] 0 2 (c_X7_behind (l) (G) (aXm) (aTx) (aRd) (aPr) (aSg) (aAh) (aIm0) (aIm1) (aYt) (aYr) (aTn) (aYi) (Xm) (tr) (Pr) (Yt) (Ah) (Tn) ((xs ((x3 + (1 : Int32))).toNatClampNeg)) ((xs ((x3 + (2 : Int32))).toNatClampNeg)) (H.size) (r143) (Tnw144) (f145)) gL_law_X7_behind rfl rfl rfl zd_X7_behind ⟨(Nat.le_of_ble_eq_true rfl), (Nat.le_of_ble_eq_true rfl)⟩ rfl rfl rfl hl rfl (Nat.le_of_ble_eq_true rfl) dL_law_429 ⟨(Nat.le_of_ble_eq_true rfl), (Nat.le_of_ble_eq_true rfl)⟩) (zs_f5 _ _ _ _ _) rfl rfl rfl (by decide) (fun H locs S => ?_)
        refine lv_aload_n hx hb dL_law_432 rfl (lv_at hl 2 rfl) ?_
        refine lv_aload_n hx hb dL_law_433 rfl (lv_at hl 0 rfl) ?_
        refine lv_iload_n hx hb dL_law_434 rfl (lv_at hl 3 rfl) ?_
        refine lv_iconst (v := (1 : Int32)) hx hb dL_law_435 (by decide) ?_
        refine lv_iadd hx hb dL_law_436 ?_
        obtain ⟨h146, hF⟩ := zs_ckS hF
        refine va_sld hx hb hX hbl hbA S.2.2 h146 dL_law_437 ?_
        refine lv_aload_n hx hb dL_law_438 rfl (lv_at hl 0 rfl) ?_
        refine lv_iload_n hx hb dL_law_439 rfl (lv_at hl 3 rfl) ?_
        refine lv_iconst (v := (2 : Int32)) hx hb dL_law_440 (by decide) ?_
        refine lv_iadd hx hb dL_law_441 ?_
        obtain ⟨h147, hF⟩ := zs_ckS hF
        refine va_sld hx hb hX hbl hbA S.2.2 h147 dL_law_442 ?_
        obtain ⟨r148, Mdw149, f150, hF⟩ := zs_b2S hF
        have S1 := zs_cut (Rs := [wX7 G aXm aTx aRd aPr aSg aAh aIm0 aIm1 aYt aYr Xm tr, wX4 G aTx Tx, wX2 G aRd aTk Rd, wX5 G aTk Tk, wX1 G aPr Pr, wX3 G aSg Sg, wX0 G aAh aTn aYi Ah, wX1 G aTn Tnw144, wX6 G aYi Yi, wX1 G aIm0 Im0, wX1 G aIm1 Im1, wX6 G aYt Yt, wX6 G aYr Yr]) S 14 [0, 2, 3, 4, 5, 6, 7, 8, 9, 10, 11, 12, 13] [1] rfl rfl rfl (by decide) (zs_f1 _)
        refine zs_li (Bs' := [wX7 G aXm aTx aRd aPr aSg aAh aIm0 aIm1 aYt aYr Xm tr, wX8 G aMd Mdw149 mt, wX4 G aTx Tx, wX2 G aRd aTk Rd, wX5 G aTk Tk, wX1 G aPr Pr, wX3 G aSg Sg, wX0 G aAh aTn aYi Ah, wX1 G aTn Tnw144, wX6 G aYi Yi, wX1 G aIm0 Im0, wX1 G aIm1 Im1, wX6 G aYt Yt, wX6 G aYr Yr]) S1 hA 14 [0, 2, 3, 4, 5, 6, 7, 8, 9, 10, 11, 12, 13] [1] (zs_lrun C hK hA S S1 [.int (xs ((x3 + (1 : Int32))).toNatClampNeg), .int (xs ((x3 + (2 : Int32))).toNatClampNeg)] [.int r143] 2 2 (c_X8_behind (l) (G) (aMd) (Md) (mt) ((xs ((x3 + (1 : Int32))).toNatClampNeg)) ((xs ((x3 + (2 : Int32))).toNatClampNeg)) (H.size) (r148) (Mdw149) (f150)) gL_law_X8_behind rfl rfl rfl zd_X8_behind ⟨(Nat.le_of_ble_eq_true rfl), (Nat.le_of_ble_eq_true rfl)⟩ rfl rfl rfl hl rfl (Nat.le_of_ble_eq_true rfl) dL_law_443 ⟨(Nat.le_of_ble_eq_true rfl), (Nat.le_of_ble_eq_true rfl)⟩) (zs_f1 _) rfl rfl rfl (by decide) (fun H locs S => ?_)
        refine lv_icmp_eq (tgt := 824) hx hb dL_law_446 (by decide) (fun c151 => ?_) (fun c151 => ?_)
        · have hF := zs_t hF c151
          exact j824 Xm tr Tx Rd Tk Pr Sg Ah Tnw144 Yi Im0 Im1 Yt Yr Mdw149 mt aYt aYr x3 _ _ _ S (lv_sub hl [0, 1, 2, 3] rfl) hF
        · have hF := zs_f hF c151
          refine lv_iconst (v := (0 : Int32)) hx hb dL_law_449 (by decide) ?_
          exact absurd (zs_s1 hF) (by decide)
      have j395 : ∀ (Xm : Ob) (tr : Int64) (Tx : Ob) (Rd : Ob) (Tk : Ob) (Pr : Ob) (Sg : Ob) (Ah : Ob) (Tn : Ob) (Yi : Ob) (Im0 : Ob) (Im1 : Ob) (Yt : Ob) (Yr : Ob) (Md : Ob) (mt : Int64) (aYt : Ad) (aYr : Ad) (x3 : Int32) (H : Heap) (locs : List Loc) (ls : Array Slot), zs_S G A s.heap H locs (zs_fl [wX7 G aXm aTx aRd aPr aSg aAh aIm0 aIm1 aYt aYr Xm tr, wX8 G aMd Md mt, wX4 G aTx Tx, wX2 G aRd aTk Rd, wX5 G aTk Tk, wX1 G aPr Pr, wX3 G aSg Sg, wX0 G aAh aTn aYi Ah, wX1 G aTn Tn, wX6 G aYi Yi, wX1 G aIm0 Im0, wX1 G aIm1 Im1, wX6 G aYt Yt, wX6 G aYr Yr]) → lv_has ls 4 [(0, .ref b), (1, .ref (aXm 0)), (2, .ref (aMd 0)), (3, .int x3)] → F_L_law_395 xs L (F_L_law_18 xs L n18) Xm tr Tx Rd Tk Pr Sg Ah Tn Yi Im0 Im1 Yt Yr Md mt aYt aYr x3 = some (1 : Int32) → W p l e room_1 s m #[Value.ref b] below meth c H locs NCL NSL (lw_Z below #[Value.ref b] s) (F0 m 395 ls []) := by
        intro Xm tr Tx Rd Tk Pr Sg Ah Tn Yi Im0 Im1 Yt Yr Md mt aYt aYr x3 H locs ls S hl hF
        unfold F_L_law_395 at hF
        refine lv_aload_n hx hb dL_law_395 rfl (lv_at hl 1 rfl) ?_
        refine lv_aload_n hx hb dL_law_396 rfl (lv_at hl 0 rfl) ?_
        refine lv_iload_n hx hb dL_law_397 rfl (lv_at hl 3 rfl) ?_
        refine lv_iconst (v := (1 : Int32)) hx hb dL_law_398 (by decide) ?_
        refine lv_iadd hx hb dL_law_399 ?_
        obtain ⟨h152, hF⟩ := zs_ckS hF
        refine va_sld hx hb hX hbl hbA S.2.2 h152 dL_law_400 ?_
        obtain ⟨r153, f154, hF⟩ := zs_bdS hF
        have S1 := zs_cut (Rs := [wX8 G aMd Md mt, wX4 G aTx Tx, wX2 G aRd aTk Rd, wX5 G aTk Tk, wX3 G aSg Sg, wX0 G aAh aTn aYi Ah, wX1 G aTn Tn, wX6 G aYi Yi, wX1 G aIm0 Im0, wX1 G aIm1 Im1, wX6 G aYr Yr]) S 14 [1, 2, 3, 4, 6, 7, 8, 9, 10, 11, 13] [0, 5, 12] rfl rfl rfl (by decide) (zs_f3 _ _ _)
        refine zs_li (Bs' := [wX7 G aXm aTx aRd aPr aSg aAh aIm0 aIm1 aYt aYr Xm tr, wX8 G aMd Md mt, wX4 G aTx Tx, wX2 G aRd aTk Rd, wX5 G aTk Tk, wX1 G aPr Pr, wX3 G aSg Sg, wX0 G aAh aTn aYi Ah, wX1 G aTn Tn, wX6 G aYi Yi, wX1 G aIm0 Im0, wX1 G aIm1 Im1, wX6 G aYt Yt, wX6 G aYr Yr]) S1 hA 14 [1, 2, 3, 4, 6, 7, 8, 9, 10, 11, 13] [0, 5, 12] (zs_lrun C hK hA S S1 [.int (xs ((x3 + (1 : Int32))).toNatClampNeg)] [] 0 1 (c_X7_now (l) (G) (aXm) (aTx) (aRd) (aPr) (aSg) (aAh) (aIm0) (aIm1) (aYt) (aYr) (Xm) (tr) (Pr) (Yt) ((xs ((x3 + (1 : Int32))).toNatClampNeg)) (H.size) (r153) (f154)) gL_law_X7_now rfl rfl rfl zd_X7_now ⟨(Nat.le_of_ble_eq_true rfl), (Nat.le_of_ble_eq_true rfl)⟩ rfl rfl rfl hl rfl (Nat.le_of_ble_eq_true rfl) dL_law_401 ⟨(Nat.le_of_ble_eq_true rfl), (Nat.le_of_ble_eq_true rfl)⟩) (zs_f3 _ _ _) rfl rfl rfl (by decide) (fun H locs S => ?_)
        refine lv_aload_n hx hb dL_law_404 rfl (lv_at hl 2 rfl) ?_
        refine lv_aload_n hx hb dL_law_405 rfl (lv_at hl 0 rfl) ?_
        refine lv_iload_n hx hb dL_law_406 rfl (lv_at hl 3 rfl) ?_
        refine lv_iconst (v := (1 : Int32)) hx hb dL_law_407 (by decide) ?_
        refine lv_iadd hx hb dL_law_408 ?_
        obtain ⟨h155, hF⟩ := zs_ckS hF
        refine va_sld hx hb hX hbl hbA S.2.2 h155 dL_law_409 ?_
        obtain ⟨r156, f157, hF⟩ := zs_bdS hF
        have S1 := zs_cut (Rs := [wX7 G aXm aTx aRd aPr aSg aAh aIm0 aIm1 aYt aYr Xm tr, wX4 G aTx Tx, wX2 G aRd aTk Rd, wX5 G aTk Tk, wX1 G aPr Pr, wX3 G aSg Sg, wX0 G aAh aTn aYi Ah, wX1 G aTn Tn, wX6 G aYi Yi, wX1 G aIm0 Im0, wX1 G aIm1 Im1, wX6 G aYt Yt, wX6 G aYr Yr]) S 14 [0, 2, 3, 4, 5, 6, 7, 8, 9, 10, 11, 12, 13] [1] rfl rfl rfl (by decide) (zs_f1 _)
        refine zs_li (Bs' := [wX7 G aXm aTx aRd aPr aSg aAh aIm0 aIm1 aYt aYr Xm tr, wX8 G aMd Md mt, wX4 G aTx Tx, wX2 G aRd aTk Rd, wX5 G aTk Tk, wX1 G aPr Pr, wX3 G aSg Sg, wX0 G aAh aTn aYi Ah, wX1 G aTn Tn, wX6 G aYi Yi, wX1 G aIm0 Im0, wX1 G aIm1 Im1, wX6 G aYt Yt, wX6 G aYr Yr]) S1 hA 14 [0, 2, 3, 4, 5, 6, 7, 8, 9, 10, 11, 12, 13] [1] (zs_lrun C hK hA S S1 [.int (xs ((x3 + (1 : Int32))).toNatClampNeg)] [.int r153] 2 1 (c_X8_now (l) (G) (aMd) (Md) (mt) ((xs ((x3 + (1 : Int32))).toNatClampNeg)) (H.size) (r156) (f157)) gL_law_X8_now rfl rfl rfl zd_X8_now ⟨(Nat.le_of_ble_eq_true rfl), (Nat.le_of_ble_eq_true rfl)⟩ rfl rfl rfl hl rfl (Nat.le_of_ble_eq_true rfl) dL_law_410 ⟨(Nat.le_of_ble_eq_true rfl), (Nat.le_of_ble_eq_true rfl)⟩) (zs_f1 _) rfl rfl rfl (by decide) (fun H locs S => ?_)
        refine lv_icmp_eq (tgt := 824) hx hb dL_law_413 (by decide) (fun c158 => ?_) (fun c158 => ?_)
        · have hF := zs_t hF c158
          exact j824 Xm tr Tx Rd Tk Pr Sg Ah Tn Yi Im0 Im1 Yt Yr Md mt aYt aYr x3 _ _ _ S (lv_sub hl [0, 1, 2, 3] rfl) hF
        · have hF := zs_f hF c158
          refine lv_iconst (v := (0 : Int32)) hx hb dL_law_416 (by decide) ?_
          exact absurd (zs_s1 hF) (by decide)
      have j382 : ∀ (Xm : Ob) (tr : Int64) (Tx : Ob) (Rd : Ob) (Tk : Ob) (Pr : Ob) (Sg : Ob) (Ah : Ob) (Tn : Ob) (Yi : Ob) (Im0 : Ob) (Im1 : Ob) (Yt : Ob) (Yr : Ob) (Md : Ob) (mt : Int64) (aYt : Ad) (aYr : Ad) (x3 : Int32) (H : Heap) (locs : List Loc) (ls : Array Slot), zs_S G A s.heap H locs (zs_fl [wX7 G aXm aTx aRd aPr aSg aAh aIm0 aIm1 aYt aYr Xm tr, wX8 G aMd Md mt, wX4 G aTx Tx, wX2 G aRd aTk Rd, wX5 G aTk Tk, wX1 G aPr Pr, wX3 G aSg Sg, wX0 G aAh aTn aYi Ah, wX1 G aTn Tn, wX6 G aYi Yi, wX1 G aIm0 Im0, wX1 G aIm1 Im1, wX6 G aYt Yt, wX6 G aYr Yr]) → lv_has ls 4 [(0, .ref b), (1, .ref (aXm 0)), (2, .ref (aMd 0)), (3, .int x3)] → F_L_law_382 xs L (F_L_law_18 xs L n18) Xm tr Tx Rd Tk Pr Sg Ah Tn Yi Im0 Im1 Yt Yr Md mt aYt aYr x3 = some (1 : Int32) → W p l e room_1 s m #[Value.ref b] below meth c H locs NCL NSL (lw_Z below #[Value.ref b] s) (F0 m 382 ls []) := by
        intro Xm tr Tx Rd Tk Pr Sg Ah Tn Yi Im0 Im1 Yt Yr Md mt aYt aYr x3 H locs ls S hl hF
        unfold F_L_law_382 at hF
        refine lv_aload_n hx hb dL_law_382 rfl (lv_at hl 1 rfl) ?_
        obtain ⟨r159, Prw160, f161, hF⟩ := zs_b2S hF
        have S1 := zs_cut (Rs := [wX8 G aMd Md mt, wX4 G aTx Tx, wX2 G aRd aTk Rd, wX5 G aTk Tk, wX3 G aSg Sg, wX0 G aAh aTn aYi Ah, wX1 G aTn Tn, wX6 G aYi Yi, wX1 G aIm0 Im0, wX1 G aIm1 Im1, wX6 G aYt Yt, wX6 G aYr Yr]) S 14 [1, 2, 3, 4, 6, 7, 8, 9, 10, 11, 12, 13] [0, 5] rfl rfl rfl (by decide) (zs_f2 _ _)
        refine zs_li (Bs' := [wX7 G aXm aTx aRd aPr aSg aAh aIm0 aIm1 aYt aYr Xm tr, wX8 G aMd Md mt, wX4 G aTx Tx, wX2 G aRd aTk Rd, wX5 G aTk Tk, wX1 G aPr Prw160, wX3 G aSg Sg, wX0 G aAh aTn aYi Ah, wX1 G aTn Tn, wX6 G aYi Yi, wX1 G aIm0 Im0, wX1 G aIm1 Im1, wX6 G aYt Yt, wX6 G aYr Yr]) S1 hA 14 [1, 2, 3, 4, 6, 7, 8, 9, 10, 11, 12, 13] [0, 5] (zs_lrun C hK hA S S1 [] [] 0 0 (c_X7_undo (l) (G) (aXm) (aTx) (aRd) (aPr) (aSg) (aAh) (aIm0) (aIm1) (aYt) (aYr) (Xm) (tr) (Pr) (H.size) (r159) (Prw160) (f161)) gL_law_X7_undo rfl rfl rfl zd_X7_undo ⟨(Nat.le_of_ble_eq_true rfl), (Nat.le_of_ble_eq_true rfl)⟩ rfl rfl rfl hl rfl (Nat.le_of_ble_eq_true rfl) dL_law_383 ⟨(Nat.le_of_ble_eq_true rfl), (Nat.le_of_ble_eq_true rfl)⟩) (zs_f2 _ _) rfl rfl rfl (by decide) (fun H locs S => ?_)
        refine lv_aload_n hx hb dL_law_386 rfl (lv_at hl 2 rfl) ?_
        obtain ⟨r162, Mdw163, f164, hF⟩ := zs_b2S hF
        have S1 := zs_cut (Rs := [wX7 G aXm aTx aRd aPr aSg aAh aIm0 aIm1 aYt aYr Xm tr, wX4 G aTx Tx, wX2 G aRd aTk Rd, wX5 G aTk Tk, wX1 G aPr Prw160, wX3 G aSg Sg, wX0 G aAh aTn aYi Ah, wX1 G aTn Tn, wX6 G aYi Yi, wX1 G aIm0 Im0, wX1 G aIm1 Im1, wX6 G aYt Yt, wX6 G aYr Yr]) S 14 [0, 2, 3, 4, 5, 6, 7, 8, 9, 10, 11, 12, 13] [1] rfl rfl rfl (by decide) (zs_f1 _)
        refine zs_li (Bs' := [wX7 G aXm aTx aRd aPr aSg aAh aIm0 aIm1 aYt aYr Xm tr, wX8 G aMd Mdw163 mt, wX4 G aTx Tx, wX2 G aRd aTk Rd, wX5 G aTk Tk, wX1 G aPr Prw160, wX3 G aSg Sg, wX0 G aAh aTn aYi Ah, wX1 G aTn Tn, wX6 G aYi Yi, wX1 G aIm0 Im0, wX1 G aIm1 Im1, wX6 G aYt Yt, wX6 G aYr Yr]) S1 hA 14 [0, 2, 3, 4, 5, 6, 7, 8, 9, 10, 11, 12, 13] [1] (zs_lrun C hK hA S S1 [] [.int r159] 2 0 (c_X8_undo (l) (G) (aMd) (Md) (mt) (H.size) (r162) (Mdw163) (f164)) gL_law_X8_undo rfl rfl rfl zd_X8_undo ⟨(Nat.le_of_ble_eq_true rfl), (Nat.le_of_ble_eq_true rfl)⟩ rfl rfl rfl hl rfl (Nat.le_of_ble_eq_true rfl) dL_law_387 ⟨(Nat.le_of_ble_eq_true rfl), (Nat.le_of_ble_eq_true rfl)⟩) (zs_f1 _) rfl rfl rfl (by decide) (fun H locs S => ?_)
        refine lv_icmp_eq (tgt := 824) hx hb dL_law_390 (by decide) (fun c165 => ?_) (fun c165 => ?_)
        · have hF := zs_t hF c165
          exact j824 Xm tr Tx Rd Tk Prw160 Sg Ah Tn Yi Im0 Im1 Yt Yr Mdw163 mt aYt aYr x3 _ _ _ S (lv_sub hl [0, 1, 2, 3] rfl) hF
        · have hF := zs_f hF c165
          refine lv_iconst (v := (0 : Int32)) hx hb dL_law_393 (by decide) ?_
          exact absurd (zs_s1 hF) (by decide)
      have j349 : ∀ (Xm : Ob) (tr : Int64) (Tx : Ob) (Rd : Ob) (Tk : Ob) (Pr : Ob) (Sg : Ob) (Ah : Ob) (Tn : Ob) (Yi : Ob) (Im0 : Ob) (Im1 : Ob) (Yt : Ob) (Yr : Ob) (Md : Ob) (mt : Int64) (aYt : Ad) (aYr : Ad) (x3 : Int32) (H : Heap) (locs : List Loc) (ls : Array Slot), zs_S G A s.heap H locs (zs_fl [wX7 G aXm aTx aRd aPr aSg aAh aIm0 aIm1 aYt aYr Xm tr, wX8 G aMd Md mt, wX4 G aTx Tx, wX2 G aRd aTk Rd, wX5 G aTk Tk, wX1 G aPr Pr, wX3 G aSg Sg, wX0 G aAh aTn aYi Ah, wX1 G aTn Tn, wX6 G aYi Yi, wX1 G aIm0 Im0, wX1 G aIm1 Im1, wX6 G aYt Yt, wX6 G aYr Yr]) → lv_has ls 4 [(0, .ref b), (1, .ref (aXm 0)), (2, .ref (aMd 0)), (3, .int x3)] → F_L_law_349 xs L (F_L_law_18 xs L n18) Xm tr Tx Rd Tk Pr Sg Ah Tn Yi Im0 Im1 Yt Yr Md mt aYt aYr x3 = some (1 : Int32) → W p l e room_1 s m #[Value.ref b] below meth c H locs NCL NSL (lw_Z below #[Value.ref b] s) (F0 m 349 ls []) := by
        intro Xm tr Tx Rd Tk Pr Sg Ah Tn Yi Im0 Im1 Yt Yr Md mt aYt aYr x3 H locs ls S hl hF
        unfold F_L_law_349 at hF
        refine lv_aload_n hx hb dL_law_349 rfl (lv_at hl 1 rfl) ?_
        refine lv_aload_n hx hb dL_law_350 rfl (lv_at hl 0 rfl) ?_
        refine lv_iload_n hx hb dL_law_351 rfl (lv_at hl 3 rfl) ?_
        refine lv_iconst (v := (1 : Int32)) hx hb dL_law_352 (by decide) ?_
        refine lv_iadd hx hb dL_law_353 ?_
        obtain ⟨h166, hF⟩ := zs_ckS hF
        refine va_sld hx hb hX hbl hbA S.2.2 h166 dL_law_354 ?_
        refine lv_aload_n hx hb dL_law_355 rfl (lv_at hl 0 rfl) ?_
        refine lv_iload_n hx hb dL_law_356 rfl (lv_at hl 3 rfl) ?_
        refine lv_iconst (v := (2 : Int32)) hx hb dL_law_357 (by decide) ?_
        refine lv_iadd hx hb dL_law_358 ?_
        obtain ⟨h167, hF⟩ := zs_ckS hF
        refine va_sld hx hb hX hbl hbA S.2.2 h167 dL_law_359 ?_
        obtain ⟨r168, Prw169, f170, hF⟩ := zs_b2S hF
        have S1 := zs_cut (Rs := [wX8 G aMd Md mt, wX4 G aTx Tx, wX2 G aRd aTk Rd, wX5 G aTk Tk, wX3 G aSg Sg, wX0 G aAh aTn aYi Ah, wX1 G aTn Tn, wX6 G aYi Yi, wX1 G aIm0 Im0, wX1 G aIm1 Im1, wX6 G aYr Yr]) S 14 [1, 2, 3, 4, 6, 7, 8, 9, 10, 11, 13] [0, 5, 12] rfl rfl rfl (by decide) (zs_f3 _ _ _)
        refine zs_li (Bs' := [wX7 G aXm aTx aRd aPr aSg aAh aIm0 aIm1 aYt aYr Xm tr, wX8 G aMd Md mt, wX4 G aTx Tx, wX2 G aRd aTk Rd, wX5 G aTk Tk, wX1 G aPr Prw169, wX3 G aSg Sg, wX0 G aAh aTn aYi Ah, wX1 G aTn Tn, wX6 G aYi Yi, wX1 G aIm0 Im0, wX1 G aIm1 Im1, wX6 G aYt Yt, wX6 G aYr Yr]) S1 hA 14 [1, 2, 3, 4, 6, 7, 8, 9, 10, 11, 13] [0, 5, 12] (zs_lrun C hK hA S S1 [.int (xs ((x3 + (1 : Int32))).toNatClampNeg), .int (xs ((x3 + (2 : Int32))).toNatClampNeg)] [] 0 2 (c_X7_mirror (l) (G) (aXm) (aTx) (aRd) (aPr) (aSg) (aAh) (aIm0) (aIm1) (aYt) (aYr) (Xm) (tr) (Pr) (Yt) ((xs ((x3 + (1 : Int32))).toNatClampNeg)) ((xs ((x3 + (2 : Int32))).toNatClampNeg)) (H.size) (r168) (Prw169) (f170)) gL_law_X7_mirror rfl rfl rfl zd_X7_mirror ⟨(Nat.le_of_ble_eq_true rfl), (Nat.le_of_ble_eq_true rfl)⟩ rfl rfl rfl hl rfl (Nat.le_of_ble_eq_true rfl) dL_law_360 ⟨(Nat.le_of_ble_eq_true rfl), (Nat.le_of_ble_eq_true rfl)⟩) (zs_f3 _ _ _) rfl rfl rfl (by decide) (fun H locs S => ?_)
        refine lv_aload_n hx hb dL_law_363 rfl (lv_at hl 2 rfl) ?_
        refine lv_aload_n hx hb dL_law_364 rfl (lv_at hl 0 rfl) ?_
        refine lv_iload_n hx hb dL_law_365 rfl (lv_at hl 3 rfl) ?_
        refine lv_iconst (v := (1 : Int32)) hx hb dL_law_366 (by decide) ?_
        refine lv_iadd hx hb dL_law_367 ?_
        obtain ⟨h171, hF⟩ := zs_ckS hF
        refine va_sld hx hb hX hbl hbA S.2.2 h171 dL_law_368 ?_
        refine lv_aload_n hx hb dL_law_369 rfl (lv_at hl 0 rfl) ?_
        refine lv_iload_n hx hb dL_law_370 rfl (lv_at hl 3 rfl) ?_
        refine lv_iconst (v := (2 : Int32)) hx hb dL_law_371 (by decide) ?_
        refine lv_iadd hx hb dL_law_372 ?_
        obtain ⟨h172, hF⟩ := zs_ckS hF
        refine va_sld hx hb hX hbl hbA S.2.2 h172 dL_law_373 ?_
        obtain ⟨r173, Mdw174, f175, hF⟩ := zs_b2S hF
        have S1 := zs_cut (Rs := [wX7 G aXm aTx aRd aPr aSg aAh aIm0 aIm1 aYt aYr Xm tr, wX4 G aTx Tx, wX2 G aRd aTk Rd, wX5 G aTk Tk, wX1 G aPr Prw169, wX3 G aSg Sg, wX0 G aAh aTn aYi Ah, wX1 G aTn Tn, wX6 G aYi Yi, wX1 G aIm0 Im0, wX1 G aIm1 Im1, wX6 G aYt Yt, wX6 G aYr Yr]) S 14 [0, 2, 3, 4, 5, 6, 7, 8, 9, 10, 11, 12, 13] [1] rfl rfl rfl (by decide) (zs_f1 _)
        refine zs_li (Bs' := [wX7 G aXm aTx aRd aPr aSg aAh aIm0 aIm1 aYt aYr Xm tr, wX8 G aMd Mdw174 mt, wX4 G aTx Tx, wX2 G aRd aTk Rd, wX5 G aTk Tk, wX1 G aPr Prw169, wX3 G aSg Sg, wX0 G aAh aTn aYi Ah, wX1 G aTn Tn, wX6 G aYi Yi, wX1 G aIm0 Im0, wX1 G aIm1 Im1, wX6 G aYt Yt, wX6 G aYr Yr]) S1 hA 14 [0, 2, 3, 4, 5, 6, 7, 8, 9, 10, 11, 12, 13] [1] (zs_lrun C hK hA S S1 [.int (xs ((x3 + (1 : Int32))).toNatClampNeg), .int (xs ((x3 + (2 : Int32))).toNatClampNeg)] [.int r168] 2 2 (c_X8_mirror (l) (G) (aMd) (Md) (mt) ((xs ((x3 + (1 : Int32))).toNatClampNeg)) ((xs ((x3 + (2 : Int32))).toNatClampNeg)) (H.size) (r173) (Mdw174) (f175)) gL_law_X8_mirror rfl rfl rfl zd_X8_mirror ⟨(Nat.le_of_ble_eq_true rfl), (Nat.le_of_ble_eq_true rfl)⟩ rfl rfl rfl hl rfl (Nat.le_of_ble_eq_true rfl) dL_law_374 ⟨(Nat.le_of_ble_eq_true rfl), (Nat.le_of_ble_eq_true rfl)⟩) (zs_f1 _) rfl rfl rfl (by decide) (fun H locs S => ?_)
        refine lv_icmp_eq (tgt := 824) hx hb dL_law_377 (by decide) (fun c176 => ?_) (fun c176 => ?_)
        · have hF := zs_t hF c176
          exact j824 Xm tr Tx Rd Tk Prw169 Sg Ah Tn Yi Im0 Im1 Yt Yr Mdw174 mt aYt aYr x3 _ _ _ S (lv_sub hl [0, 1, 2, 3] rfl) hF
        · have hF := zs_f hF c176
          refine lv_iconst (v := (0 : Int32)) hx hb dL_law_380 (by decide) ?_
          exact absurd (zs_s1 hF) (by decide)
      have j316 : ∀ (Xm : Ob) (tr : Int64) (Tx : Ob) (Rd : Ob) (Tk : Ob) (Pr : Ob) (Sg : Ob) (Ah : Ob) (Tn : Ob) (Yi : Ob) (Im0 : Ob) (Im1 : Ob) (Yt : Ob) (Yr : Ob) (Md : Ob) (mt : Int64) (aYt : Ad) (aYr : Ad) (x3 : Int32) (H : Heap) (locs : List Loc) (ls : Array Slot), zs_S G A s.heap H locs (zs_fl [wX7 G aXm aTx aRd aPr aSg aAh aIm0 aIm1 aYt aYr Xm tr, wX8 G aMd Md mt, wX4 G aTx Tx, wX2 G aRd aTk Rd, wX5 G aTk Tk, wX1 G aPr Pr, wX3 G aSg Sg, wX0 G aAh aTn aYi Ah, wX1 G aTn Tn, wX6 G aYi Yi, wX1 G aIm0 Im0, wX1 G aIm1 Im1, wX6 G aYt Yt, wX6 G aYr Yr]) → lv_has ls 4 [(0, .ref b), (1, .ref (aXm 0)), (2, .ref (aMd 0)), (3, .int x3)] → F_L_law_316 xs L (F_L_law_18 xs L n18) Xm tr Tx Rd Tk Pr Sg Ah Tn Yi Im0 Im1 Yt Yr Md mt aYt aYr x3 = some (1 : Int32) → W p l e room_1 s m #[Value.ref b] below meth c H locs NCL NSL (lw_Z below #[Value.ref b] s) (F0 m 316 ls []) := by
        intro Xm tr Tx Rd Tk Pr Sg Ah Tn Yi Im0 Im1 Yt Yr Md mt aYt aYr x3 H locs ls S hl hF
        unfold F_L_law_316 at hF
        refine lv_aload_n hx hb dL_law_316 rfl (lv_at hl 1 rfl) ?_
        refine lv_aload_n hx hb dL_law_317 rfl (lv_at hl 0 rfl) ?_
        refine lv_iload_n hx hb dL_law_318 rfl (lv_at hl 3 rfl) ?_
        refine lv_iconst (v := (1 : Int32)) hx hb dL_law_319 (by decide) ?_
        refine lv_iadd hx hb dL_law_320 ?_
        obtain ⟨h177, hF⟩ := zs_ckS hF
        refine va_sld hx hb hX hbl hbA S.2.2 h177 dL_law_321 ?_
        refine lv_aload_n hx hb dL_law_322 rfl (lv_at hl 0 rfl) ?_
        refine lv_iload_n hx hb dL_law_323 rfl (lv_at hl 3 rfl) ?_
        refine lv_iconst (v := (2 : Int32)) hx hb dL_law_324 (by decide) ?_
        refine lv_iadd hx hb dL_law_325 ?_
        obtain ⟨h178, hF⟩ := zs_ckS hF
        refine va_sld hx hb hX hbl hbA S.2.2 h178 dL_law_326 ?_
        obtain ⟨r179, Prw180, f181, hF⟩ := zs_b2S hF
        have S1 := zs_cut (Rs := [wX8 G aMd Md mt, wX4 G aTx Tx, wX2 G aRd aTk Rd, wX5 G aTk Tk, wX3 G aSg Sg, wX0 G aAh aTn aYi Ah, wX1 G aTn Tn, wX6 G aYi Yi, wX1 G aIm0 Im0, wX1 G aIm1 Im1, wX6 G aYr Yr]) S 14 [1, 2, 3, 4, 6, 7, 8, 9, 10, 11, 13] [0, 5, 12] rfl rfl rfl (by decide) (zs_f3 _ _ _)
        refine zs_li (Bs' := [wX7 G aXm aTx aRd aPr aSg aAh aIm0 aIm1 aYt aYr Xm tr, wX8 G aMd Md mt, wX4 G aTx Tx, wX2 G aRd aTk Rd, wX5 G aTk Tk, wX1 G aPr Prw180, wX3 G aSg Sg, wX0 G aAh aTn aYi Ah, wX1 G aTn Tn, wX6 G aYi Yi, wX1 G aIm0 Im0, wX1 G aIm1 Im1, wX6 G aYt Yt, wX6 G aYr Yr]) S1 hA 14 [1, 2, 3, 4, 6, 7, 8, 9, 10, 11, 13] [0, 5, 12] (zs_lrun C hK hA S S1 [.int (xs ((x3 + (1 : Int32))).toNatClampNeg), .int (xs ((x3 + (2 : Int32))).toNatClampNeg)] [] 0 2 (c_X7_shut (l) (G) (aXm) (aTx) (aRd) (aPr) (aSg) (aAh) (aIm0) (aIm1) (aYt) (aYr) (Xm) (tr) (Pr) (Yt) ((xs ((x3 + (1 : Int32))).toNatClampNeg)) ((xs ((x3 + (2 : Int32))).toNatClampNeg)) (H.size) (r179) (Prw180) (f181)) gL_law_X7_shut rfl rfl rfl zd_X7_shut ⟨(Nat.le_of_ble_eq_true rfl), (Nat.le_of_ble_eq_true rfl)⟩ rfl rfl rfl hl rfl (Nat.le_of_ble_eq_true rfl) dL_law_327 ⟨(Nat.le_of_ble_eq_true rfl), (Nat.le_of_ble_eq_true rfl)⟩) (zs_f3 _ _ _) rfl rfl rfl (by decide) (fun H locs S => ?_)
        refine lv_aload_n hx hb dL_law_330 rfl (lv_at hl 2 rfl) ?_
        refine lv_aload_n hx hb dL_law_331 rfl (lv_at hl 0 rfl) ?_
        refine lv_iload_n hx hb dL_law_332 rfl (lv_at hl 3 rfl) ?_
        refine lv_iconst (v := (1 : Int32)) hx hb dL_law_333 (by decide) ?_
        refine lv_iadd hx hb dL_law_334 ?_
        obtain ⟨h182, hF⟩ := zs_ckS hF
        refine va_sld hx hb hX hbl hbA S.2.2 h182 dL_law_335 ?_
        refine lv_aload_n hx hb dL_law_336 rfl (lv_at hl 0 rfl) ?_
        refine lv_iload_n hx hb dL_law_337 rfl (lv_at hl 3 rfl) ?_
        refine lv_iconst (v := (2 : Int32)) hx hb dL_law_338 (by decide) ?_
        refine lv_iadd hx hb dL_law_339 ?_
        obtain ⟨h183, hF⟩ := zs_ckS hF
        refine va_sld hx hb hX hbl hbA S.2.2 h183 dL_law_340 ?_
        obtain ⟨r184, Mdw185, f186, hF⟩ := zs_b2S hF
        have S1 := zs_cut (Rs := [wX7 G aXm aTx aRd aPr aSg aAh aIm0 aIm1 aYt aYr Xm tr, wX4 G aTx Tx, wX2 G aRd aTk Rd, wX5 G aTk Tk, wX1 G aPr Prw180, wX3 G aSg Sg, wX0 G aAh aTn aYi Ah, wX1 G aTn Tn, wX6 G aYi Yi, wX1 G aIm0 Im0, wX1 G aIm1 Im1, wX6 G aYt Yt, wX6 G aYr Yr]) S 14 [0, 2, 3, 4, 5, 6, 7, 8, 9, 10, 11, 12, 13] [1] rfl rfl rfl (by decide) (zs_f1 _)
        refine zs_li (Bs' := [wX7 G aXm aTx aRd aPr aSg aAh aIm0 aIm1 aYt aYr Xm tr, wX8 G aMd Mdw185 mt, wX4 G aTx Tx, wX2 G aRd aTk Rd, wX5 G aTk Tk, wX1 G aPr Prw180, wX3 G aSg Sg, wX0 G aAh aTn aYi Ah, wX1 G aTn Tn, wX6 G aYi Yi, wX1 G aIm0 Im0, wX1 G aIm1 Im1, wX6 G aYt Yt, wX6 G aYr Yr]) S1 hA 14 [0, 2, 3, 4, 5, 6, 7, 8, 9, 10, 11, 12, 13] [1] (zs_lrun C hK hA S S1 [.int (xs ((x3 + (1 : Int32))).toNatClampNeg), .int (xs ((x3 + (2 : Int32))).toNatClampNeg)] [.int r179] 2 2 (c_X8_shut (l) (G) (aMd) (Md) (mt) ((xs ((x3 + (1 : Int32))).toNatClampNeg)) ((xs ((x3 + (2 : Int32))).toNatClampNeg)) (H.size) (r184) (Mdw185) (f186)) gL_law_X8_shut rfl rfl rfl zd_X8_shut ⟨(Nat.le_of_ble_eq_true rfl), (Nat.le_of_ble_eq_true rfl)⟩ rfl rfl rfl hl rfl (Nat.le_of_ble_eq_true rfl) dL_law_341 ⟨(Nat.le_of_ble_eq_true rfl), (Nat.le_of_ble_eq_true rfl)⟩) (zs_f1 _) rfl rfl rfl (by decide) (fun H locs S => ?_)
        refine lv_icmp_eq (tgt := 824) hx hb dL_law_344 (by decide) (fun c187 => ?_) (fun c187 => ?_)
        · have hF := zs_t hF c187
          exact j824 Xm tr Tx Rd Tk Prw180 Sg Ah Tn Yi Im0 Im1 Yt Yr Mdw185 mt aYt aYr x3 _ _ _ S (lv_sub hl [0, 1, 2, 3] rfl) hF
        · have hF := zs_f hF c187
          refine lv_iconst (v := (0 : Int32)) hx hb dL_law_347 (by decide) ?_
          exact absurd (zs_s1 hF) (by decide)
      have j303 : ∀ (Xm : Ob) (tr : Int64) (Tx : Ob) (Rd : Ob) (Tk : Ob) (Pr : Ob) (Sg : Ob) (Ah : Ob) (Tn : Ob) (Yi : Ob) (Im0 : Ob) (Im1 : Ob) (Yt : Ob) (Yr : Ob) (Md : Ob) (mt : Int64) (aYt : Ad) (aYr : Ad) (x3 : Int32) (H : Heap) (locs : List Loc) (ls : Array Slot), zs_S G A s.heap H locs (zs_fl [wX7 G aXm aTx aRd aPr aSg aAh aIm0 aIm1 aYt aYr Xm tr, wX8 G aMd Md mt, wX4 G aTx Tx, wX2 G aRd aTk Rd, wX5 G aTk Tk, wX1 G aPr Pr, wX3 G aSg Sg, wX0 G aAh aTn aYi Ah, wX1 G aTn Tn, wX6 G aYi Yi, wX1 G aIm0 Im0, wX1 G aIm1 Im1, wX6 G aYt Yt, wX6 G aYr Yr]) → lv_has ls 4 [(0, .ref b), (1, .ref (aXm 0)), (2, .ref (aMd 0)), (3, .int x3)] → F_L_law_303 xs L (F_L_law_18 xs L n18) Xm tr Tx Rd Tk Pr Sg Ah Tn Yi Im0 Im1 Yt Yr Md mt aYt aYr x3 = some (1 : Int32) → W p l e room_1 s m #[Value.ref b] below meth c H locs NCL NSL (lw_Z below #[Value.ref b] s) (F0 m 303 ls []) := by
        intro Xm tr Tx Rd Tk Pr Sg Ah Tn Yi Im0 Im1 Yt Yr Md mt aYt aYr x3 H locs ls S hl hF
        unfold F_L_law_303 at hF
        refine lv_aload_n hx hb dL_law_303 rfl (lv_at hl 1 rfl) ?_
        obtain ⟨r188, Prw189, f190, hF⟩ := zs_b2S hF
        have S1 := zs_cut (Rs := [wX8 G aMd Md mt, wX4 G aTx Tx, wX2 G aRd aTk Rd, wX5 G aTk Tk, wX3 G aSg Sg, wX0 G aAh aTn aYi Ah, wX1 G aTn Tn, wX6 G aYi Yi, wX1 G aIm0 Im0, wX1 G aIm1 Im1, wX6 G aYr Yr]) S 14 [1, 2, 3, 4, 6, 7, 8, 9, 10, 11, 13] [0, 5, 12] rfl rfl rfl (by decide) (zs_f3 _ _ _)
        refine zs_li (Bs' := [wX7 G aXm aTx aRd aPr aSg aAh aIm0 aIm1 aYt aYr Xm tr, wX8 G aMd Md mt, wX4 G aTx Tx, wX2 G aRd aTk Rd, wX5 G aTk Tk, wX1 G aPr Prw189, wX3 G aSg Sg, wX0 G aAh aTn aYi Ah, wX1 G aTn Tn, wX6 G aYi Yi, wX1 G aIm0 Im0, wX1 G aIm1 Im1, wX6 G aYt Yt, wX6 G aYr Yr]) S1 hA 14 [1, 2, 3, 4, 6, 7, 8, 9, 10, 11, 13] [0, 5, 12] (zs_lrun C hK hA S S1 [] [] 0 0 (c_X7_hour (l) (G) (aXm) (aTx) (aRd) (aPr) (aSg) (aAh) (aIm0) (aIm1) (aYt) (aYr) (Xm) (tr) (Pr) (Yt) (H.size) (r188) (Prw189) (f190)) gL_law_X7_hour rfl rfl rfl zd_X7_hour ⟨(Nat.le_of_ble_eq_true rfl), (Nat.le_of_ble_eq_true rfl)⟩ rfl rfl rfl hl rfl (Nat.le_of_ble_eq_true rfl) dL_law_304 ⟨(Nat.le_of_ble_eq_true rfl), (Nat.le_of_ble_eq_true rfl)⟩) (zs_f3 _ _ _) rfl rfl rfl (by decide) (fun H locs S => ?_)
        refine lv_aload_n hx hb dL_law_307 rfl (lv_at hl 2 rfl) ?_
        obtain ⟨r191, Mdw192, f193, hF⟩ := zs_b2S hF
        have S1 := zs_cut (Rs := [wX7 G aXm aTx aRd aPr aSg aAh aIm0 aIm1 aYt aYr Xm tr, wX4 G aTx Tx, wX2 G aRd aTk Rd, wX5 G aTk Tk, wX1 G aPr Prw189, wX3 G aSg Sg, wX0 G aAh aTn aYi Ah, wX1 G aTn Tn, wX6 G aYi Yi, wX1 G aIm0 Im0, wX1 G aIm1 Im1, wX6 G aYt Yt, wX6 G aYr Yr]) S 14 [0, 2, 3, 4, 5, 6, 7, 8, 9, 10, 11, 12, 13] [1] rfl rfl rfl (by decide) (zs_f1 _)
        refine zs_li (Bs' := [wX7 G aXm aTx aRd aPr aSg aAh aIm0 aIm1 aYt aYr Xm tr, wX8 G aMd Mdw192 mt, wX4 G aTx Tx, wX2 G aRd aTk Rd, wX5 G aTk Tk, wX1 G aPr Prw189, wX3 G aSg Sg, wX0 G aAh aTn aYi Ah, wX1 G aTn Tn, wX6 G aYi Yi, wX1 G aIm0 Im0, wX1 G aIm1 Im1, wX6 G aYt Yt, wX6 G aYr Yr]) S1 hA 14 [0, 2, 3, 4, 5, 6, 7, 8, 9, 10, 11, 12, 13] [1] (zs_lrun C hK hA S S1 [] [.int r188] 2 0 (c_X8_hour (l) (G) (aMd) (Md) (mt) (H.size) (r191) (Mdw192) (f193)) gL_law_X8_hour rfl rfl rfl zd_X8_hour ⟨(Nat.le_of_ble_eq_true rfl), (Nat.le_of_ble_eq_true rfl)⟩ rfl rfl rfl hl rfl (Nat.le_of_ble_eq_true rfl) dL_law_308 ⟨(Nat.le_of_ble_eq_true rfl), (Nat.le_of_ble_eq_true rfl)⟩) (zs_f1 _) rfl rfl rfl (by decide) (fun H locs S => ?_)
        refine lv_icmp_eq (tgt := 824) hx hb dL_law_311 (by decide) (fun c194 => ?_) (fun c194 => ?_)
        · have hF := zs_t hF c194
          exact j824 Xm tr Tx Rd Tk Prw189 Sg Ah Tn Yi Im0 Im1 Yt Yr Mdw192 mt aYt aYr x3 _ _ _ S (lv_sub hl [0, 1, 2, 3] rfl) hF
        · have hF := zs_f hF c194
          refine lv_iconst (v := (0 : Int32)) hx hb dL_law_314 (by decide) ?_
          exact absurd (zs_s1 hF) (by decide)
      have j270 : ∀ (Xm : Ob) (tr : Int64) (Tx : Ob) (Rd : Ob) (Tk : Ob) (Pr : Ob) (Sg : Ob) (Ah : Ob) (Tn : Ob) (Yi : Ob) (Im0 : Ob) (Im1 : Ob) (Yt : Ob) (Yr : Ob) (Md : Ob) (mt : Int64) (aYt : Ad) (aYr : Ad) (x3 : Int32) (H : Heap) (locs : List Loc) (ls : Array Slot), zs_S G A s.heap H locs (zs_fl [wX7 G aXm aTx aRd aPr aSg aAh aIm0 aIm1 aYt aYr Xm tr, wX8 G aMd Md mt, wX4 G aTx Tx, wX2 G aRd aTk Rd, wX5 G aTk Tk, wX1 G aPr Pr, wX3 G aSg Sg, wX0 G aAh aTn aYi Ah, wX1 G aTn Tn, wX6 G aYi Yi, wX1 G aIm0 Im0, wX1 G aIm1 Im1, wX6 G aYt Yt, wX6 G aYr Yr]) → lv_has ls 4 [(0, .ref b), (1, .ref (aXm 0)), (2, .ref (aMd 0)), (3, .int x3)] → F_L_law_270 xs L (F_L_law_18 xs L n18) Xm tr Tx Rd Tk Pr Sg Ah Tn Yi Im0 Im1 Yt Yr Md mt aYt aYr x3 = some (1 : Int32) → W p l e room_1 s m #[Value.ref b] below meth c H locs NCL NSL (lw_Z below #[Value.ref b] s) (F0 m 270 ls []) := by
        intro Xm tr Tx Rd Tk Pr Sg Ah Tn Yi Im0 Im1 Yt Yr Md mt aYt aYr x3 H locs ls S hl hF
        unfold F_L_law_270 at hF
        refine lv_aload_n hx hb dL_law_270 rfl (lv_at hl 1 rfl) ?_
        refine lv_aload_n hx hb dL_law_271 rfl (lv_at hl 0 rfl) ?_
        refine lv_iload_n hx hb dL_law_272 rfl (lv_at hl 3 rfl) ?_
        refine lv_iconst (v := (1 : Int32)) hx hb dL_law_273 (by decide) ?_
        refine lv_iadd hx hb dL_law_274 ?_
        obtain ⟨h195, hF⟩ := zs_ckS hF
        refine va_sld hx hb hX hbl hbA S.2.2 h195 dL_law_275 ?_
        refine lv_aload_n hx hb dL_law_276 rfl (lv_at hl 0 rfl) ?_
        refine lv_iload_n hx hb dL_law_277 rfl (lv_at hl 3 rfl) ?_
        refine lv_iconst (v := (2 : Int32)) hx hb dL_law_278 (by decide) ?_
        refine lv_iadd hx hb dL_law_279 ?_
        obtain ⟨h196, hF⟩ := zs_ckS hF
        refine va_sld hx hb hX hbl hbA S.2.2 h196 dL_law_280 ?_
        obtain ⟨r197, f198, hF⟩ := zs_bdS hF
        have S1 := zs_cut (Rs := [wX8 G aMd Md mt, wX4 G aTx Tx, wX2 G aRd aTk Rd, wX5 G aTk Tk, wX1 G aPr Pr, wX3 G aSg Sg, wX0 G aAh aTn aYi Ah, wX1 G aTn Tn, wX6 G aYi Yi, wX1 G aIm0 Im0, wX1 G aIm1 Im1, wX6 G aYr Yr]) S 14 [1, 2, 3, 4, 5, 6, 7, 8, 9, 10, 11, 13] [0, 12] rfl rfl rfl (by decide) (zs_f2 _ _)
        refine zs_li (Bs' := [wX7 G aXm aTx aRd aPr aSg aAh aIm0 aIm1 aYt aYr Xm tr, wX8 G aMd Md mt, wX4 G aTx Tx, wX2 G aRd aTk Rd, wX5 G aTk Tk, wX1 G aPr Pr, wX3 G aSg Sg, wX0 G aAh aTn aYi Ah, wX1 G aTn Tn, wX6 G aYi Yi, wX1 G aIm0 Im0, wX1 G aIm1 Im1, wX6 G aYt Yt, wX6 G aYr Yr]) S1 hA 14 [1, 2, 3, 4, 5, 6, 7, 8, 9, 10, 11, 13] [0, 12] (zs_lrun C hK hA S S1 [.int (xs ((x3 + (1 : Int32))).toNatClampNeg), .int (xs ((x3 + (2 : Int32))).toNatClampNeg)] [] 0 2 (c_X7_sees (l) (G) (aXm) (aTx) (aRd) (aPr) (aSg) (aAh) (aIm0) (aIm1) (aYt) (aYr) (Xm) (tr) (Yt) ((xs ((x3 + (1 : Int32))).toNatClampNeg)) ((xs ((x3 + (2 : Int32))).toNatClampNeg)) (H.size) (r197) (f198)) gL_law_X7_sees rfl rfl rfl zd_X7_sees ⟨(Nat.le_of_ble_eq_true rfl), (Nat.le_of_ble_eq_true rfl)⟩ rfl rfl rfl hl rfl (Nat.le_of_ble_eq_true rfl) dL_law_281 ⟨(Nat.le_of_ble_eq_true rfl), (Nat.le_of_ble_eq_true rfl)⟩) (zs_f2 _ _) rfl rfl rfl (by decide) (fun H locs S => ?_)
        refine lv_aload_n hx hb dL_law_284 rfl (lv_at hl 2 rfl) ?_
        refine lv_aload_n hx hb dL_law_285 rfl (lv_at hl 0 rfl) ?_
        refine lv_iload_n hx hb dL_law_286 rfl (lv_at hl 3 rfl) ?_
        refine lv_iconst (v := (1 : Int32)) hx hb dL_law_287 (by decide) ?_
        refine lv_iadd hx hb dL_law_288 ?_
        obtain ⟨h199, hF⟩ := zs_ckS hF
        refine va_sld hx hb hX hbl hbA S.2.2 h199 dL_law_289 ?_
        refine lv_aload_n hx hb dL_law_290 rfl (lv_at hl 0 rfl) ?_
        refine lv_iload_n hx hb dL_law_291 rfl (lv_at hl 3 rfl) ?_
        refine lv_iconst (v := (2 : Int32)) hx hb dL_law_292 (by decide) ?_
        refine lv_iadd hx hb dL_law_293 ?_
        obtain ⟨h200, hF⟩ := zs_ckS hF
        refine va_sld hx hb hX hbl hbA S.2.2 h200 dL_law_294 ?_
        obtain ⟨r201, f202, hF⟩ := zs_bdS hF
        have S1 := zs_cut (Rs := [wX7 G aXm aTx aRd aPr aSg aAh aIm0 aIm1 aYt aYr Xm tr, wX4 G aTx Tx, wX2 G aRd aTk Rd, wX5 G aTk Tk, wX1 G aPr Pr, wX3 G aSg Sg, wX0 G aAh aTn aYi Ah, wX1 G aTn Tn, wX6 G aYi Yi, wX1 G aIm0 Im0, wX1 G aIm1 Im1, wX6 G aYt Yt, wX6 G aYr Yr]) S 14 [0, 2, 3, 4, 5, 6, 7, 8, 9, 10, 11, 12, 13] [1] rfl rfl rfl (by decide) (zs_f1 _)
        refine zs_li (Bs' := [wX7 G aXm aTx aRd aPr aSg aAh aIm0 aIm1 aYt aYr Xm tr, wX8 G aMd Md mt, wX4 G aTx Tx, wX2 G aRd aTk Rd, wX5 G aTk Tk, wX1 G aPr Pr, wX3 G aSg Sg, wX0 G aAh aTn aYi Ah, wX1 G aTn Tn, wX6 G aYi Yi, wX1 G aIm0 Im0, wX1 G aIm1 Im1, wX6 G aYt Yt, wX6 G aYr Yr]) S1 hA 14 [0, 2, 3, 4, 5, 6, 7, 8, 9, 10, 11, 12, 13] [1] (zs_lrun C hK hA S S1 [.int (xs ((x3 + (1 : Int32))).toNatClampNeg), .int (xs ((x3 + (2 : Int32))).toNatClampNeg)] [.int r197] 2 2 (c_X8_sees (l) (G) (aMd) (Md) (mt) ((xs ((x3 + (1 : Int32))).toNatClampNeg)) ((xs ((x3 + (2 : Int32))).toNatClampNeg)) (H.size) (r201) (f202)) gL_law_X8_sees rfl rfl rfl zd_X8_sees ⟨(Nat.le_of_ble_eq_true rfl), (Nat.le_of_ble_eq_true rfl)⟩ rfl rfl rfl hl rfl (Nat.le_of_ble_eq_true rfl) dL_law_295 ⟨(Nat.le_of_ble_eq_true rfl), (Nat.le_of_ble_eq_true rfl)⟩) (zs_f1 _) rfl rfl rfl (by decide) (fun H locs S => ?_)
        refine lv_icmp_eq (tgt := 824) hx hb dL_law_298 (by decide) (fun c203 => ?_) (fun c203 => ?_)
        · have hF := zs_t hF c203
          exact j824 Xm tr Tx Rd Tk Pr Sg Ah Tn Yi Im0 Im1 Yt Yr Md mt aYt aYr x3 _ _ _ S (lv_sub hl [0, 1, 2, 3] rfl) hF
        · have hF := zs_f hF c203
          refine lv_iconst (v := (0 : Int32)) hx hb dL_law_301 (by decide) ?_
          exact absurd (zs_s1 hF) (by decide)
      have j237 : ∀ (Xm : Ob) (tr : Int64) (Tx : Ob) (Rd : Ob) (Tk : Ob) (Pr : Ob) (Sg : Ob) (Ah : Ob) (Tn : Ob) (Yi : Ob) (Im0 : Ob) (Im1 : Ob) (Yt : Ob) (Yr : Ob) (Md : Ob) (mt : Int64) (aYt : Ad) (aYr : Ad) (x3 : Int32) (H : Heap) (locs : List Loc) (ls : Array Slot), zs_S G A s.heap H locs (zs_fl [wX7 G aXm aTx aRd aPr aSg aAh aIm0 aIm1 aYt aYr Xm tr, wX8 G aMd Md mt, wX4 G aTx Tx, wX2 G aRd aTk Rd, wX5 G aTk Tk, wX1 G aPr Pr, wX3 G aSg Sg, wX0 G aAh aTn aYi Ah, wX1 G aTn Tn, wX6 G aYi Yi, wX1 G aIm0 Im0, wX1 G aIm1 Im1, wX6 G aYt Yt, wX6 G aYr Yr]) → lv_has ls 4 [(0, .ref b), (1, .ref (aXm 0)), (2, .ref (aMd 0)), (3, .int x3)] → F_L_law_237 xs L (F_L_law_18 xs L n18) Xm tr Tx Rd Tk Pr Sg Ah Tn Yi Im0 Im1 Yt Yr Md mt aYt aYr x3 = some (1 : Int32) → W p l e room_1 s m #[Value.ref b] below meth c H locs NCL NSL (lw_Z below #[Value.ref b] s) (F0 m 237 ls []) := by
        intro Xm tr Tx Rd Tk Pr Sg Ah Tn Yi Im0 Im1 Yt Yr Md mt aYt aYr x3 H locs ls S hl hF
        unfold F_L_law_237 at hF
        refine lv_aload_n hx hb dL_law_237 rfl (lv_at hl 1 rfl) ?_
        refine lv_aload_n hx hb dL_law_238 rfl (lv_at hl 0 rfl) ?_
        refine lv_iload_n hx hb dL_law_239 rfl (lv_at hl 3 rfl) ?_
        refine lv_iconst (v := (1 : Int32)) hx hb dL_law_240 (by decide) ?_
        refine lv_iadd hx hb dL_law_241 ?_
        obtain ⟨h204, hF⟩ := zs_ckS hF
        refine va_sld hx hb hX hbl hbA S.2.2 h204 dL_law_242 ?_
        refine lv_aload_n hx hb dL_law_243 rfl (lv_at hl 0 rfl) ?_
        refine lv_iload_n hx hb dL_law_244 rfl (lv_at hl 3 rfl) ?_
        refine lv_iconst (v := (2 : Int32)) hx hb dL_law_245 (by decide) ?_
        refine lv_iadd hx hb dL_law_246 ?_
        obtain ⟨h205, hF⟩ := zs_ckS hF
        refine va_sld hx hb hX hbl hbA S.2.2 h205 dL_law_247 ?_
        obtain ⟨r206, f207, hF⟩ := zs_bdS hF
        have S1 := zs_cut (Rs := [wX8 G aMd Md mt, wX4 G aTx Tx, wX2 G aRd aTk Rd, wX5 G aTk Tk, wX3 G aSg Sg, wX0 G aAh aTn aYi Ah, wX1 G aTn Tn, wX6 G aYi Yi, wX1 G aIm0 Im0, wX1 G aIm1 Im1, wX6 G aYr Yr]) S 14 [1, 2, 3, 4, 6, 7, 8, 9, 10, 11, 13] [0, 5, 12] rfl rfl rfl (by decide) (zs_f3 _ _ _)
        refine zs_li (Bs' := [wX7 G aXm aTx aRd aPr aSg aAh aIm0 aIm1 aYt aYr Xm tr, wX8 G aMd Md mt, wX4 G aTx Tx, wX2 G aRd aTk Rd, wX5 G aTk Tk, wX1 G aPr Pr, wX3 G aSg Sg, wX0 G aAh aTn aYi Ah, wX1 G aTn Tn, wX6 G aYi Yi, wX1 G aIm0 Im0, wX1 G aIm1 Im1, wX6 G aYt Yt, wX6 G aYr Yr]) S1 hA 14 [1, 2, 3, 4, 6, 7, 8, 9, 10, 11, 13] [0, 5, 12] (zs_lrun C hK hA S S1 [.int (xs ((x3 + (1 : Int32))).toNatClampNeg), .int (xs ((x3 + (2 : Int32))).toNatClampNeg)] [] 0 2 (c_X7_wall (l) (G) (aXm) (aTx) (aRd) (aPr) (aSg) (aAh) (aIm0) (aIm1) (aYt) (aYr) (Xm) (tr) (Pr) (Yt) ((xs ((x3 + (1 : Int32))).toNatClampNeg)) ((xs ((x3 + (2 : Int32))).toNatClampNeg)) (H.size) (r206) (f207)) gL_law_X7_wall rfl rfl rfl zd_X7_wall ⟨(Nat.le_of_ble_eq_true rfl), (Nat.le_of_ble_eq_true rfl)⟩ rfl rfl rfl hl rfl (Nat.le_of_ble_eq_true rfl) dL_law_248 ⟨(Nat.le_of_ble_eq_true rfl), (Nat.le_of_ble_eq_true rfl)⟩) (zs_f3 _ _ _) rfl rfl rfl (by decide) (fun H locs S => ?_)
        refine lv_aload_n hx hb dL_law_251 rfl (lv_at hl 2 rfl) ?_
        refine lv_aload_n hx hb dL_law_252 rfl (lv_at hl 0 rfl) ?_
        refine lv_iload_n hx hb dL_law_253 rfl (lv_at hl 3 rfl) ?_
        refine lv_iconst (v := (1 : Int32)) hx hb dL_law_254 (by decide) ?_
        refine lv_iadd hx hb dL_law_255 ?_
        obtain ⟨h208, hF⟩ := zs_ckS hF
        refine va_sld hx hb hX hbl hbA S.2.2 h208 dL_law_256 ?_
        refine lv_aload_n hx hb dL_law_257 rfl (lv_at hl 0 rfl) ?_
        refine lv_iload_n hx hb dL_law_258 rfl (lv_at hl 3 rfl) ?_
        refine lv_iconst (v := (2 : Int32)) hx hb dL_law_259 (by decide) ?_
        refine lv_iadd hx hb dL_law_260 ?_
        obtain ⟨h209, hF⟩ := zs_ckS hF
        refine va_sld hx hb hX hbl hbA S.2.2 h209 dL_law_261 ?_
        obtain ⟨r210, f211, hF⟩ := zs_bdS hF
        have S1 := zs_cut (Rs := [wX7 G aXm aTx aRd aPr aSg aAh aIm0 aIm1 aYt aYr Xm tr, wX4 G aTx Tx, wX2 G aRd aTk Rd, wX5 G aTk Tk, wX1 G aPr Pr, wX3 G aSg Sg, wX0 G aAh aTn aYi Ah, wX1 G aTn Tn, wX6 G aYi Yi, wX1 G aIm0 Im0, wX1 G aIm1 Im1, wX6 G aYt Yt, wX6 G aYr Yr]) S 14 [0, 2, 3, 4, 5, 6, 7, 8, 9, 10, 11, 12, 13] [1] rfl rfl rfl (by decide) (zs_f1 _)
        refine zs_li (Bs' := [wX7 G aXm aTx aRd aPr aSg aAh aIm0 aIm1 aYt aYr Xm tr, wX8 G aMd Md mt, wX4 G aTx Tx, wX2 G aRd aTk Rd, wX5 G aTk Tk, wX1 G aPr Pr, wX3 G aSg Sg, wX0 G aAh aTn aYi Ah, wX1 G aTn Tn, wX6 G aYi Yi, wX1 G aIm0 Im0, wX1 G aIm1 Im1, wX6 G aYt Yt, wX6 G aYr Yr]) S1 hA 14 [0, 2, 3, 4, 5, 6, 7, 8, 9, 10, 11, 12, 13] [1] (zs_lrun C hK hA S S1 [.int (xs ((x3 + (1 : Int32))).toNatClampNeg), .int (xs ((x3 + (2 : Int32))).toNatClampNeg)] [.int r206] 2 2 (c_X8_wall (l) (G) (aMd) (Md) (mt) ((xs ((x3 + (1 : Int32))).toNatClampNeg)) ((xs ((x3 + (2 : Int32))).toNatClampNeg)) (H.size) (r210) (f211)) gL_law_X8_wall rfl rfl rfl zd_X8_wall ⟨(Nat.le_of_ble_eq_true rfl), (Nat.le_of_ble_eq_true rfl)⟩ rfl rfl rfl hl rfl (Nat.le_of_ble_eq_true rfl) dL_law_262 ⟨(Nat.le_of_ble_eq_true rfl), (Nat.le_of_ble_eq_true rfl)⟩) (zs_f1 _) rfl rfl rfl (by decide) (fun H locs S => ?_)
        refine lv_icmp_eq (tgt := 824) hx hb dL_law_265 (by decide) (fun c212 => ?_) (fun c212 => ?_)
        · have hF := zs_t hF c212
          exact j824 Xm tr Tx Rd Tk Pr Sg Ah Tn Yi Im0 Im1 Yt Yr Md mt aYt aYr x3 _ _ _ S (lv_sub hl [0, 1, 2, 3] rfl) hF
        · have hF := zs_f hF c212
          refine lv_iconst (v := (0 : Int32)) hx hb dL_law_268 (by decide) ?_
          exact absurd (zs_s1 hF) (by decide)
      have j224 : ∀ (Xm : Ob) (tr : Int64) (Tx : Ob) (Rd : Ob) (Tk : Ob) (Pr : Ob) (Sg : Ob) (Ah : Ob) (Tn : Ob) (Yi : Ob) (Im0 : Ob) (Im1 : Ob) (Yt : Ob) (Yr : Ob) (Md : Ob) (mt : Int64) (aYt : Ad) (aYr : Ad) (x3 : Int32) (H : Heap) (locs : List Loc) (ls : Array Slot), zs_S G A s.heap H locs (zs_fl [wX7 G aXm aTx aRd aPr aSg aAh aIm0 aIm1 aYt aYr Xm tr, wX8 G aMd Md mt, wX4 G aTx Tx, wX2 G aRd aTk Rd, wX5 G aTk Tk, wX1 G aPr Pr, wX3 G aSg Sg, wX0 G aAh aTn aYi Ah, wX1 G aTn Tn, wX6 G aYi Yi, wX1 G aIm0 Im0, wX1 G aIm1 Im1, wX6 G aYt Yt, wX6 G aYr Yr]) → lv_has ls 4 [(0, .ref b), (1, .ref (aXm 0)), (2, .ref (aMd 0)), (3, .int x3)] → F_L_law_224 xs L (F_L_law_18 xs L n18) Xm tr Tx Rd Tk Pr Sg Ah Tn Yi Im0 Im1 Yt Yr Md mt aYt aYr x3 = some (1 : Int32) → W p l e room_1 s m #[Value.ref b] below meth c H locs NCL NSL (lw_Z below #[Value.ref b] s) (F0 m 224 ls []) := by
        intro Xm tr Tx Rd Tk Pr Sg Ah Tn Yi Im0 Im1 Yt Yr Md mt aYt aYr x3 H locs ls S hl hF
        unfold F_L_law_224 at hF
        refine lv_aload_n hx hb dL_law_224 rfl (lv_at hl 1 rfl) ?_
        obtain ⟨r213, Xmw214, Txw215, Rdw216, Tkw217, Prw218, Sgw219, Ytw220, Yrw221, ad222, ad223, f224, hF⟩ := zs_b11S hF
        have S1 := zs_cut (Rs := [wX8 G aMd Md mt, wX0 G aAh aTn aYi Ah, wX1 G aTn Tn, wX6 G aYi Yi, wX1 G aIm0 Im0, wX1 G aIm1 Im1]) S 14 [1, 7, 8, 9, 10, 11] [0, 2, 3, 4, 5, 6, 12, 13] rfl rfl rfl (by decide) (zs_f8 _ _ _ _ _ _ _ _)
        refine zs_li (Bs' := [wX7 G aXm aTx aRd aPr aSg aAh aIm0 aIm1 ad222 ad223 Xmw214 tr, wX8 G aMd Md mt, wX4 G aTx Txw215, wX2 G aRd aTk Rdw216, wX5 G aTk Tkw217, wX1 G aPr Prw218, wX3 G aSg Sgw219, wX0 G aAh aTn aYi Ah, wX1 G aTn Tn, wX6 G aYi Yi, wX1 G aIm0 Im0, wX1 G aIm1 Im1, wX6 G ad222 Ytw220, wX6 G ad223 Yrw221]) S1 hA 14 [1, 7, 8, 9, 10, 11] [0, 2, 3, 4, 5, 6, 12, 13] (zs_lrun C hK hA S S1 [] [] 0 0 (c_X7_walls (l) (G) (aXm) (aTx) (aRd) (aPr) (aSg) (aAh) (aIm0) (aIm1) (aYt) (aYr) (aTk) (Xm) (tr) (Tx) (Rd) (Tk) (Pr) (Sg) (Yt) (Yr) (H.size) (r213) (Xmw214) (Txw215) (Rdw216) (Tkw217) (Prw218) (Sgw219) (Ytw220) (Yrw221) (ad222) (ad223) (f224)) gL_law_X7_walls rfl rfl rfl zd_X7_walls ⟨(Nat.le_of_ble_eq_true rfl), (Nat.le_of_ble_eq_true rfl)⟩ rfl rfl rfl hl rfl (Nat.le_of_ble_eq_true rfl) dL_law_225 ⟨(Nat.le_of_ble_eq_true rfl), (Nat.le_of_ble_eq_true rfl)⟩) (zs_f8 _ _ _ _ _ _ _ _) rfl rfl rfl (by decide) (fun H locs S => ?_)
        refine lv_aload_n hx hb dL_law_228 rfl (lv_at hl 2 rfl) ?_
        obtain ⟨r225, Mdw226, f227, hF⟩ := zs_b2S hF
        have S1 := zs_cut (Rs := [wX7 G aXm aTx aRd aPr aSg aAh aIm0 aIm1 ad222 ad223 Xmw214 tr, wX4 G aTx Txw215, wX2 G aRd aTk Rdw216, wX5 G aTk Tkw217, wX1 G aPr Prw218, wX3 G aSg Sgw219, wX0 G aAh aTn aYi Ah, wX1 G aTn Tn, wX6 G aYi Yi, wX1 G aIm0 Im0, wX1 G aIm1 Im1, wX6 G ad222 Ytw220, wX6 G ad223 Yrw221]) S 14 [0, 2, 3, 4, 5, 6, 7, 8, 9, 10, 11, 12, 13] [1] rfl rfl rfl (by decide) (zs_f1 _)
        refine zs_li (Bs' := [wX7 G aXm aTx aRd aPr aSg aAh aIm0 aIm1 ad222 ad223 Xmw214 tr, wX8 G aMd Mdw226 mt, wX4 G aTx Txw215, wX2 G aRd aTk Rdw216, wX5 G aTk Tkw217, wX1 G aPr Prw218, wX3 G aSg Sgw219, wX0 G aAh aTn aYi Ah, wX1 G aTn Tn, wX6 G aYi Yi, wX1 G aIm0 Im0, wX1 G aIm1 Im1, wX6 G ad222 Ytw220, wX6 G ad223 Yrw221]) S1 hA 14 [0, 2, 3, 4, 5, 6, 7, 8, 9, 10, 11, 12, 13] [1] (zs_lrun C hK hA S S1 [] [.int r213] 2 0 (c_X8_walls (l) (G) (aMd) (Md) (mt) (H.size) (r225) (Mdw226) (f227)) gL_law_X8_walls rfl rfl rfl zd_X8_walls ⟨(Nat.le_of_ble_eq_true rfl), (Nat.le_of_ble_eq_true rfl)⟩ rfl rfl rfl hl rfl (Nat.le_of_ble_eq_true rfl) dL_law_229 ⟨(Nat.le_of_ble_eq_true rfl), (Nat.le_of_ble_eq_true rfl)⟩) (zs_f1 _) rfl rfl rfl (by decide) (fun H locs S => ?_)
        refine lv_icmp_eq (tgt := 824) hx hb dL_law_232 (by decide) (fun c228 => ?_) (fun c228 => ?_)
        · have hF := zs_t hF c228
          exact j824 Xmw214 tr Txw215 Rdw216 Tkw217 Prw218 Sgw219 Ah Tn Yi Im0 Im1 Ytw220 Yrw221 Mdw226 mt ad222 ad223 x3 _ _ _ S (lv_sub hl [0, 1, 2, 3] rfl) hF
        · have hF := zs_f hF c228
          refine lv_iconst (v := (0 : Int32)) hx hb dL_law_235 (by decide) ?_
          exact absurd (zs_s1 hF) (by decide)
      have j211 : ∀ (Xm : Ob) (tr : Int64) (Tx : Ob) (Rd : Ob) (Tk : Ob) (Pr : Ob) (Sg : Ob) (Ah : Ob) (Tn : Ob) (Yi : Ob) (Im0 : Ob) (Im1 : Ob) (Yt : Ob) (Yr : Ob) (Md : Ob) (mt : Int64) (aYt : Ad) (aYr : Ad) (x3 : Int32) (H : Heap) (locs : List Loc) (ls : Array Slot), zs_S G A s.heap H locs (zs_fl [wX7 G aXm aTx aRd aPr aSg aAh aIm0 aIm1 aYt aYr Xm tr, wX8 G aMd Md mt, wX4 G aTx Tx, wX2 G aRd aTk Rd, wX5 G aTk Tk, wX1 G aPr Pr, wX3 G aSg Sg, wX0 G aAh aTn aYi Ah, wX1 G aTn Tn, wX6 G aYi Yi, wX1 G aIm0 Im0, wX1 G aIm1 Im1, wX6 G aYt Yt, wX6 G aYr Yr]) → lv_has ls 4 [(0, .ref b), (1, .ref (aXm 0)), (2, .ref (aMd 0)), (3, .int x3)] → F_L_law_211 xs L (F_L_law_18 xs L n18) Xm tr Tx Rd Tk Pr Sg Ah Tn Yi Im0 Im1 Yt Yr Md mt aYt aYr x3 = some (1 : Int32) → W p l e room_1 s m #[Value.ref b] below meth c H locs NCL NSL (lw_Z below #[Value.ref b] s) (F0 m 211 ls []) := by
        intro Xm tr Tx Rd Tk Pr Sg Ah Tn Yi Im0 Im1 Yt Yr Md mt aYt aYr x3 H locs ls S hl hF
        unfold F_L_law_211 at hF
        refine lv_aload_n hx hb dL_law_211 rfl (lv_at hl 1 rfl) ?_
        obtain ⟨r229, Txw230, f231, hF⟩ := zs_b2S hF
        have S1 := zs_cut (Rs := [wX8 G aMd Md mt, wX2 G aRd aTk Rd, wX5 G aTk Tk, wX1 G aPr Pr, wX3 G aSg Sg, wX0 G aAh aTn aYi Ah, wX1 G aTn Tn, wX6 G aYi Yi, wX1 G aIm0 Im0, wX1 G aIm1 Im1, wX6 G aYt Yt, wX6 G aYr Yr]) S 14 [1, 3, 4, 5, 6, 7, 8, 9, 10, 11, 12, 13] [0, 2] rfl rfl rfl (by decide) (zs_f2 _ _)
        refine zs_li (Bs' := [wX7 G aXm aTx aRd aPr aSg aAh aIm0 aIm1 aYt aYr Xm tr, wX8 G aMd Md mt, wX4 G aTx Txw230, wX2 G aRd aTk Rd, wX5 G aTk Tk, wX1 G aPr Pr, wX3 G aSg Sg, wX0 G aAh aTn aYi Ah, wX1 G aTn Tn, wX6 G aYi Yi, wX1 G aIm0 Im0, wX1 G aIm1 Im1, wX6 G aYt Yt, wX6 G aYr Yr]) S1 hA 14 [1, 3, 4, 5, 6, 7, 8, 9, 10, 11, 12, 13] [0, 2] (zs_lrun C hK hA S S1 [] [] 0 0 (c_X7_clear (l) (G) (aXm) (aTx) (aRd) (aPr) (aSg) (aAh) (aIm0) (aIm1) (aYt) (aYr) (Xm) (tr) (Tx) (H.size) (r229) (Txw230) (f231)) gL_law_X7_clear rfl rfl rfl zd_X7_clear ⟨(Nat.le_of_ble_eq_true rfl), (Nat.le_of_ble_eq_true rfl)⟩ rfl rfl rfl hl rfl (Nat.le_of_ble_eq_true rfl) dL_law_212 ⟨(Nat.le_of_ble_eq_true rfl), (Nat.le_of_ble_eq_true rfl)⟩) (zs_f2 _ _) rfl rfl rfl (by decide) (fun H locs S => ?_)
        refine lv_aload_n hx hb dL_law_215 rfl (lv_at hl 2 rfl) ?_
        obtain ⟨r232, Mdw233, f234, hF⟩ := zs_b2S hF
        have S1 := zs_cut (Rs := [wX7 G aXm aTx aRd aPr aSg aAh aIm0 aIm1 aYt aYr Xm tr, wX4 G aTx Txw230, wX2 G aRd aTk Rd, wX5 G aTk Tk, wX1 G aPr Pr, wX3 G aSg Sg, wX0 G aAh aTn aYi Ah, wX1 G aTn Tn, wX6 G aYi Yi, wX1 G aIm0 Im0, wX1 G aIm1 Im1, wX6 G aYt Yt, wX6 G aYr Yr]) S 14 [0, 2, 3, 4, 5, 6, 7, 8, 9, 10, 11, 12, 13] [1] rfl rfl rfl (by decide) (zs_f1 _)
        refine zs_li (Bs' := [wX7 G aXm aTx aRd aPr aSg aAh aIm0 aIm1 aYt aYr Xm tr, wX8 G aMd Mdw233 mt, wX4 G aTx Txw230, wX2 G aRd aTk Rd, wX5 G aTk Tk, wX1 G aPr Pr, wX3 G aSg Sg, wX0 G aAh aTn aYi Ah, wX1 G aTn Tn, wX6 G aYi Yi, wX1 G aIm0 Im0, wX1 G aIm1 Im1, wX6 G aYt Yt, wX6 G aYr Yr]) S1 hA 14 [0, 2, 3, 4, 5, 6, 7, 8, 9, 10, 11, 12, 13] [1] (zs_lrun C hK hA S S1 [] [.int r229] 2 0 (c_X8_clear (l) (G) (aMd) (Md) (mt) (H.size) (r232) (Mdw233) (f234)) gL_law_X8_clear rfl rfl rfl zd_X8_clear ⟨(Nat.le_of_ble_eq_true rfl), (Nat.le_of_ble_eq_true rfl)⟩ rfl rfl rfl hl rfl (Nat.le_of_ble_eq_true rfl) dL_law_216 ⟨(Nat.le_of_ble_eq_true rfl), (Nat.le_of_ble_eq_true rfl)⟩) (zs_f1 _) rfl rfl rfl (by decide) (fun H locs S => ?_)
        refine lv_icmp_eq (tgt := 824) hx hb dL_law_219 (by decide) (fun c235 => ?_) (fun c235 => ?_)
        · have hF := zs_t hF c235
          exact j824 Xm tr Txw230 Rd Tk Pr Sg Ah Tn Yi Im0 Im1 Yt Yr Mdw233 mt aYt aYr x3 _ _ _ S (lv_sub hl [0, 1, 2, 3] rfl) hF
        · have hF := zs_f hF c235
          refine lv_iconst (v := (0 : Int32)) hx hb dL_law_222 (by decide) ?_
          exact absurd (zs_s1 hF) (by decide)
      have j148 : ∀ (Xm : Ob) (tr : Int64) (Tx : Ob) (Rd : Ob) (Tk : Ob) (Pr : Ob) (Sg : Ob) (Ah : Ob) (Tn : Ob) (Yi : Ob) (Im0 : Ob) (Im1 : Ob) (Yt : Ob) (Yr : Ob) (Md : Ob) (mt : Int64) (aYt : Ad) (aYr : Ad) (x3 : Int32) (H : Heap) (locs : List Loc) (ls : Array Slot), zs_S G A s.heap H locs (zs_fl [wX7 G aXm aTx aRd aPr aSg aAh aIm0 aIm1 aYt aYr Xm tr, wX8 G aMd Md mt, wX4 G aTx Tx, wX2 G aRd aTk Rd, wX5 G aTk Tk, wX1 G aPr Pr, wX3 G aSg Sg, wX0 G aAh aTn aYi Ah, wX1 G aTn Tn, wX6 G aYi Yi, wX1 G aIm0 Im0, wX1 G aIm1 Im1, wX6 G aYt Yt, wX6 G aYr Yr]) → lv_has ls 4 [(0, .ref b), (1, .ref (aXm 0)), (2, .ref (aMd 0)), (3, .int x3)] → F_L_law_148 xs L (F_L_law_18 xs L n18) Xm tr Tx Rd Tk Pr Sg Ah Tn Yi Im0 Im1 Yt Yr Md mt aYt aYr x3 = some (1 : Int32) → W p l e room_1 s m #[Value.ref b] below meth c H locs NCL NSL (lw_Z below #[Value.ref b] s) (F0 m 148 ls []) := by
        intro Xm tr Tx Rd Tk Pr Sg Ah Tn Yi Im0 Im1 Yt Yr Md mt aYt aYr x3 H locs ls S hl hF
        unfold F_L_law_148 at hF
        refine lv_aload_n hx hb dL_law_148 rfl (lv_at hl 1 rfl) ?_
        refine lv_aload_n hx hb dL_law_149 rfl (lv_at hl 0 rfl) ?_
        refine lv_iload_n hx hb dL_law_150 rfl (lv_at hl 3 rfl) ?_
        refine lv_iconst (v := (1 : Int32)) hx hb dL_law_151 (by decide) ?_
        refine lv_iadd hx hb dL_law_152 ?_
        obtain ⟨h236, hF⟩ := zs_ckS hF
        refine va_sld hx hb hX hbl hbA S.2.2 h236 dL_law_153 ?_
        refine lv_i2l (v := (((xs ((x3 + (1 : Int32))).toNatClampNeg)).toInt64)) hx hb dL_law_154 rfl ?_
        refine lv_bipush (v := (32 : Int32)) hx hb dL_law_155 (by decide) ?_
        refine lv_lshl (v := ((((xs ((x3 + (1 : Int32))).toNatClampNeg)).toInt64) <<< (((32 : Int32)).toInt64 &&& 63))) hx hb dL_law_157 rfl ?_
        refine lv_aload_n hx hb dL_law_158 rfl (lv_at hl 0 rfl) ?_
        refine lv_iload_n hx hb dL_law_159 rfl (lv_at hl 3 rfl) ?_
        refine lv_iconst (v := (2 : Int32)) hx hb dL_law_160 (by decide) ?_
        refine lv_iadd hx hb dL_law_161 ?_
        obtain ⟨h237, hF⟩ := zs_ckS hF
        refine va_sld hx hb hX hbl hbA S.2.2 h237 dL_law_162 ?_
        refine lv_i2l (v := (((xs ((x3 + (2 : Int32))).toNatClampNeg)).toInt64)) hx hb dL_law_163 rfl ?_
        refine lv_ldc2 (v := (4294967295 : Int64)) hx hb C.1.2.2.2.1 (C.1.2.2.2.2 (.constantLong RL 13 (4294967295 : Int64)) (List.mem_of_getElem? (i := 6) rfl)) dL_law_164 ?_
        refine lv_land hx hb dL_law_167 ?_
        refine lv_lor hx hb dL_law_168 ?_
        refine lv_aload_n hx hb dL_law_169 rfl (lv_at hl 0 rfl) ?_
        refine lv_iload_n hx hb dL_law_170 rfl (lv_at hl 3 rfl) ?_
        refine lv_iconst (v := (3 : Int32)) hx hb dL_law_171 (by decide) ?_
        refine lv_iadd hx hb dL_law_172 ?_
        obtain ⟨h238, hF⟩ := zs_ckS hF
        refine va_sld hx hb hX hbl hbA S.2.2 h238 dL_law_173 ?_
        obtain ⟨r239, Txw240, f241, hF⟩ := zs_b2S hF
        have S1 := zs_cut (Rs := [wX8 G aMd Md mt, wX2 G aRd aTk Rd, wX5 G aTk Tk, wX1 G aPr Pr, wX3 G aSg Sg, wX0 G aAh aTn aYi Ah, wX1 G aTn Tn, wX6 G aYi Yi, wX1 G aIm0 Im0, wX1 G aIm1 Im1, wX6 G aYt Yt, wX6 G aYr Yr]) S 14 [1, 3, 4, 5, 6, 7, 8, 9, 10, 11, 12, 13] [0, 2] rfl rfl rfl (by decide) (zs_f2 _ _)
        refine zs_li (Bs' := [wX7 G aXm aTx aRd aPr aSg aAh aIm0 aIm1 aYt aYr Xm tr, wX8 G aMd Md mt, wX4 G aTx Txw240, wX2 G aRd aTk Rd, wX5 G aTk Tk, wX1 G aPr Pr, wX3 G aSg Sg, wX0 G aAh aTn aYi Ah, wX1 G aTn Tn, wX6 G aYi Yi, wX1 G aIm0 Im0, wX1 G aIm1 Im1, wX6 G aYt Yt, wX6 G aYr Yr]) S1 hA 14 [1, 3, 4, 5, 6, 7, 8, 9, 10, 11, 12, 13] [0, 2] (zs_lrun C hK hA S S1 [.long (((((xs ((x3 + (1 : Int32))).toNatClampNeg)).toInt64) <<< (((32 : Int32)).toInt64 &&& 63)) ||| ((((xs ((x3 + (2 : Int32))).toNatClampNeg)).toInt64) &&& (4294967295 : Int64))), .int (xs ((x3 + (3 : Int32))).toNatClampNeg)] [] 0 2 (c_X7_type (l) (G) (aXm) (aTx) (aRd) (aPr) (aSg) (aAh) (aIm0) (aIm1) (aYt) (aYr) (Xm) (tr) (Tx) ((((((xs ((x3 + (1 : Int32))).toNatClampNeg)).toInt64) <<< (((32 : Int32)).toInt64 &&& 63)) ||| ((((xs ((x3 + (2 : Int32))).toNatClampNeg)).toInt64) &&& (4294967295 : Int64)))) ((xs ((x3 + (3 : Int32))).toNatClampNeg)) (H.size) (r239) (Txw240) (f241)) gL_law_X7_type rfl rfl rfl zd_X7_type ⟨(Nat.le_of_ble_eq_true rfl), (Nat.le_of_ble_eq_true rfl)⟩ rfl rfl rfl hl rfl (Nat.le_of_ble_eq_true rfl) dL_law_174 ⟨(Nat.le_of_ble_eq_true rfl), (Nat.le_of_ble_eq_true rfl)⟩) (zs_f2 _ _) rfl rfl rfl (by decide) (fun H locs S => ?_)
        refine lv_aload_n hx hb dL_law_177 rfl (lv_at hl 2 rfl) ?_
        refine lv_aload_n hx hb dL_law_178 rfl (lv_at hl 0 rfl) ?_
        refine lv_iload_n hx hb dL_law_179 rfl (lv_at hl 3 rfl) ?_
        refine lv_iconst (v := (1 : Int32)) hx hb dL_law_180 (by decide) ?_
        refine lv_iadd hx hb dL_law_181 ?_
        obtain ⟨h242, hF⟩ := zs_ckS hF
        refine va_sld hx hb hX hbl hbA S.2.2 h242 dL_law_182 ?_
        refine lv_i2l (v := (((xs ((x3 + (1 : Int32))).toNatClampNeg)).toInt64)) hx hb dL_law_183 rfl ?_
        refine lv_bipush (v := (32 : Int32)) hx hb dL_law_184 (by decide) ?_
        refine lv_lshl (v := ((((xs ((x3 + (1 : Int32))).toNatClampNeg)).toInt64) <<< (((32 : Int32)).toInt64 &&& 63))) hx hb dL_law_186 rfl ?_
        refine lv_aload_n hx hb dL_law_187 rfl (lv_at hl 0 rfl) ?_
        refine lv_iload_n hx hb dL_law_188 rfl (lv_at hl 3 rfl) ?_
        refine lv_iconst (v := (2 : Int32)) hx hb dL_law_189 (by decide) ?_
        refine lv_iadd hx hb dL_law_190 ?_
        obtain ⟨h243, hF⟩ := zs_ckS hF
        refine va_sld hx hb hX hbl hbA S.2.2 h243 dL_law_191 ?_
        refine lv_i2l (v := (((xs ((x3 + (2 : Int32))).toNatClampNeg)).toInt64)) hx hb dL_law_192 rfl ?_
        refine lv_ldc2 (v := (4294967295 : Int64)) hx hb C.1.2.2.2.1 (C.1.2.2.2.2 (.constantLong RL 13 (4294967295 : Int64)) (List.mem_of_getElem? (i := 6) rfl)) dL_law_193 ?_
        refine lv_land hx hb dL_law_196 ?_
        refine lv_lor hx hb dL_law_197 ?_
        refine lv_aload_n hx hb dL_law_198 rfl (lv_at hl 0 rfl) ?_
        refine lv_iload_n hx hb dL_law_199 rfl (lv_at hl 3 rfl) ?_
        refine lv_iconst (v := (3 : Int32)) hx hb dL_law_200 (by decide) ?_
        refine lv_iadd hx hb dL_law_201 ?_
        obtain ⟨h244, hF⟩ := zs_ckS hF
        refine va_sld hx hb hX hbl hbA S.2.2 h244 dL_law_202 ?_
        obtain ⟨r245, Mdw246, f247, hF⟩ := zs_b2S hF
        have S1 := zs_cut (Rs := [wX7 G aXm aTx aRd aPr aSg aAh aIm0 aIm1 aYt aYr Xm tr, wX4 G aTx Txw240, wX2 G aRd aTk Rd, wX5 G aTk Tk, wX1 G aPr Pr, wX3 G aSg Sg, wX0 G aAh aTn aYi Ah, wX1 G aTn Tn, wX6 G aYi Yi, wX1 G aIm0 Im0, wX1 G aIm1 Im1, wX6 G aYt Yt, wX6 G aYr Yr]) S 14 [0, 2, 3, 4, 5, 6, 7, 8, 9, 10, 11, 12, 13] [1] rfl rfl rfl (by decide) (zs_f1 _)
        refine zs_li (Bs' := [wX7 G aXm aTx aRd aPr aSg aAh aIm0 aIm1 aYt aYr Xm tr, wX8 G aMd Mdw246 mt, wX4 G aTx Txw240, wX2 G aRd aTk Rd, wX5 G aTk Tk, wX1 G aPr Pr, wX3 G aSg Sg, wX0 G aAh aTn aYi Ah, wX1 G aTn Tn, wX6 G aYi Yi, wX1 G aIm0 Im0, wX1 G aIm1 Im1, wX6 G aYt Yt, wX6 G aYr Yr]) S1 hA 14 [0, 2, 3, 4, 5, 6, 7, 8, 9, 10, 11, 12, 13] [1] (zs_lrun C hK hA S S1 [.long (((((xs ((x3 + (1 : Int32))).toNatClampNeg)).toInt64) <<< (((32 : Int32)).toInt64 &&& 63)) ||| ((((xs ((x3 + (2 : Int32))).toNatClampNeg)).toInt64) &&& (4294967295 : Int64))), .int (xs ((x3 + (3 : Int32))).toNatClampNeg)] [.int r239] 2 2 (c_X8_type (l) (G) (aMd) (Md) (mt) ((((((xs ((x3 + (1 : Int32))).toNatClampNeg)).toInt64) <<< (((32 : Int32)).toInt64 &&& 63)) ||| ((((xs ((x3 + (2 : Int32))).toNatClampNeg)).toInt64) &&& (4294967295 : Int64)))) ((xs ((x3 + (3 : Int32))).toNatClampNeg)) (H.size) (r245) (Mdw246) (f247)) gL_law_X8_type rfl rfl rfl zd_X8_type ⟨(Nat.le_of_ble_eq_true rfl), (Nat.le_of_ble_eq_true rfl)⟩ rfl rfl rfl hl rfl (Nat.le_of_ble_eq_true rfl) dL_law_203 ⟨(Nat.le_of_ble_eq_true rfl), (Nat.le_of_ble_eq_true rfl)⟩) (zs_f1 _) rfl rfl rfl (by decide) (fun H locs S => ?_)
        refine lv_icmp_eq (tgt := 824) hx hb dL_law_206 (by decide) (fun c248 => ?_) (fun c248 => ?_)
        · have hF := zs_t hF c248
          exact j824 Xm tr Txw240 Rd Tk Pr Sg Ah Tn Yi Im0 Im1 Yt Yr Mdw246 mt aYt aYr x3 _ _ _ S (lv_sub hl [0, 1, 2, 3] rfl) hF
        · have hF := zs_f hF c248
          refine lv_iconst (v := (0 : Int32)) hx hb dL_law_209 (by decide) ?_
          exact absurd (zs_s1 hF) (by decide)
      intro Xm tr Tx Rd Tk Pr Sg Ah Tn Yi Im0 Im1 Yt Yr Md mt aYt aYr x3 H locs ls S hl hF
      rw [F_L_law_18_n] at hF
      unfold F_L_law_18_s at hF
      refine lv_iload_n hx hb dL_law_18 rfl (lv_at hl 3 rfl) ?_
      refine lv_aload_n hx hb dL_law_19 rfl (lv_at hl 0 rfl) ?_
      refine va_slen hx hb hX hbl hbA S.2.2 dL_law_20 ?_
      refine lv_iconst (v := (4 : Int32)) hx hb dL_law_21 (by decide) ?_
      refine lv_isub hx hb dL_law_22 ?_
      refine lv_icmp_gt (tgt := 830) hx hb dL_law_23 (by decide) (fun c249 => ?_) (fun c249 => ?_)
      · have hF := zs_t hF c249
        refine lv_iconst (v := (1 : Int32)) hx hb dL_law_830 (by decide) ?_
        refine va_forget (fun q hq => by have h := S.2.2.2.2 q hq; rw [← hAe] at h; exact h) ?_
        refine W.widen (k := 600000) (n := 7302250) (Nat.le_of_ble_eq_true rfl) (Nat.le_of_ble_eq_true rfl) ?_
        exact lw_ret hx hb C.2.1 C.2.2 dL_law_831
      · have hF := zs_f hF c249
        refine lv_aload_n hx hb dL_law_26 rfl (lv_at hl 0 rfl) ?_
        refine lv_iload_n hx hb dL_law_27 rfl (lv_at hl 3 rfl) ?_
        obtain ⟨h250, hF⟩ := zs_ckS hF
        refine va_sld hx hb hX hbl hbA S.2.2 h250 dL_law_28 ?_
        refine lv_bipush (v := (31 : Int32)) hx hb dL_law_29 (by decide) ?_
        refine lv_iand hx hb dL_law_31 ?_
        by_cases c251 : ((xs (x3).toNatClampNeg) &&& (31 : Int32)) = (0 : Int32)
        · have hF := zs_t hF c251
          refine lv_tableIn (off := 116) (tgt := 148) hx hb dL_law_32 (by rw [c251]; decide) (by rw [c251]; decide) (by rw [c251]; rfl) (by decide) ?_
          exact j148 Xm tr Tx Rd Tk Pr Sg Ah Tn Yi Im0 Im1 Yt Yr Md mt aYt aYr x3 _ _ _ S (lv_sub hl [0, 1, 2, 3] rfl) hF
        · have hF := zs_f hF c251
          by_cases c252 : ((xs (x3).toNatClampNeg) &&& (31 : Int32)) = (1 : Int32)
          · have hF := zs_t hF c252
            refine lv_tableIn (off := 179) (tgt := 211) hx hb dL_law_32 (by rw [c252]; decide) (by rw [c252]; decide) (by rw [c252]; rfl) (by decide) ?_
            exact j211 Xm tr Tx Rd Tk Pr Sg Ah Tn Yi Im0 Im1 Yt Yr Md mt aYt aYr x3 _ _ _ S (lv_sub hl [0, 1, 2, 3] rfl) hF
          · have hF := zs_f hF c252
            by_cases c253 : ((xs (x3).toNatClampNeg) &&& (31 : Int32)) = (2 : Int32)
            · have hF := zs_t hF c253
              refine lv_tableIn (off := 192) (tgt := 224) hx hb dL_law_32 (by rw [c253]; decide) (by rw [c253]; decide) (by rw [c253]; rfl) (by decide) ?_
              exact j224 Xm tr Tx Rd Tk Pr Sg Ah Tn Yi Im0 Im1 Yt Yr Md mt aYt aYr x3 _ _ _ S (lv_sub hl [0, 1, 2, 3] rfl) hF
            · have hF := zs_f hF c253
              by_cases c254 : ((xs (x3).toNatClampNeg) &&& (31 : Int32)) = (3 : Int32)
              · have hF := zs_t hF c254
                refine lv_tableIn (off := 205) (tgt := 237) hx hb dL_law_32 (by rw [c254]; decide) (by rw [c254]; decide) (by rw [c254]; rfl) (by decide) ?_
                exact j237 Xm tr Tx Rd Tk Pr Sg Ah Tn Yi Im0 Im1 Yt Yr Md mt aYt aYr x3 _ _ _ S (lv_sub hl [0, 1, 2, 3] rfl) hF
              · have hF := zs_f hF c254
                by_cases c255 : ((xs (x3).toNatClampNeg) &&& (31 : Int32)) = (4 : Int32)
                · have hF := zs_t hF c255
                  refine lv_tableIn (off := 238) (tgt := 270) hx hb dL_law_32 (by rw [c255]; decide) (by rw [c255]; decide) (by rw [c255]; rfl) (by decide) ?_
                  exact j270 Xm tr Tx Rd Tk Pr Sg Ah Tn Yi Im0 Im1 Yt Yr Md mt aYt aYr x3 _ _ _ S (lv_sub hl [0, 1, 2, 3] rfl) hF
                · have hF := zs_f hF c255
                  by_cases c256 : ((xs (x3).toNatClampNeg) &&& (31 : Int32)) = (5 : Int32)
                  · have hF := zs_t hF c256
                    refine lv_tableIn (off := 271) (tgt := 303) hx hb dL_law_32 (by rw [c256]; decide) (by rw [c256]; decide) (by rw [c256]; rfl) (by decide) ?_
                    exact j303 Xm tr Tx Rd Tk Pr Sg Ah Tn Yi Im0 Im1 Yt Yr Md mt aYt aYr x3 _ _ _ S (lv_sub hl [0, 1, 2, 3] rfl) hF
                  · have hF := zs_f hF c256
                    by_cases c257 : ((xs (x3).toNatClampNeg) &&& (31 : Int32)) = (6 : Int32)
                    · have hF := zs_t hF c257
                      refine lv_tableIn (off := 284) (tgt := 316) hx hb dL_law_32 (by rw [c257]; decide) (by rw [c257]; decide) (by rw [c257]; rfl) (by decide) ?_
                      exact j316 Xm tr Tx Rd Tk Pr Sg Ah Tn Yi Im0 Im1 Yt Yr Md mt aYt aYr x3 _ _ _ S (lv_sub hl [0, 1, 2, 3] rfl) hF
                    · have hF := zs_f hF c257
                      by_cases c258 : ((xs (x3).toNatClampNeg) &&& (31 : Int32)) = (7 : Int32)
                      · have hF := zs_t hF c258
                        refine lv_tableIn (off := 317) (tgt := 349) hx hb dL_law_32 (by rw [c258]; decide) (by rw [c258]; decide) (by rw [c258]; rfl) (by decide) ?_
                        exact j349 Xm tr Tx Rd Tk Pr Sg Ah Tn Yi Im0 Im1 Yt Yr Md mt aYt aYr x3 _ _ _ S (lv_sub hl [0, 1, 2, 3] rfl) hF
                      · have hF := zs_f hF c258
                        by_cases c259 : ((xs (x3).toNatClampNeg) &&& (31 : Int32)) = (8 : Int32)
                        · have hF := zs_t hF c259
                          refine lv_tableIn (off := 350) (tgt := 382) hx hb dL_law_32 (by rw [c259]; decide) (by rw [c259]; decide) (by rw [c259]; rfl) (by decide) ?_
                          exact j382 Xm tr Tx Rd Tk Pr Sg Ah Tn Yi Im0 Im1 Yt Yr Md mt aYt aYr x3 _ _ _ S (lv_sub hl [0, 1, 2, 3] rfl) hF
                        · have hF := zs_f hF c259
                          by_cases c260 : ((xs (x3).toNatClampNeg) &&& (31 : Int32)) = (9 : Int32)
                          · have hF := zs_t hF c260
                            refine lv_tableIn (off := 363) (tgt := 395) hx hb dL_law_32 (by rw [c260]; decide) (by rw [c260]; decide) (by rw [c260]; rfl) (by decide) ?_
                            exact j395 Xm tr Tx Rd Tk Pr Sg Ah Tn Yi Im0 Im1 Yt Yr Md mt aYt aYr x3 _ _ _ S (lv_sub hl [0, 1, 2, 3] rfl) hF
                          · have hF := zs_f hF c260
                            by_cases c261 : ((xs (x3).toNatClampNeg) &&& (31 : Int32)) = (10 : Int32)
                            · have hF := zs_t hF c261
                              refine lv_tableIn (off := 386) (tgt := 418) hx hb dL_law_32 (by rw [c261]; decide) (by rw [c261]; decide) (by rw [c261]; rfl) (by decide) ?_
                              exact j418 Xm tr Tx Rd Tk Pr Sg Ah Tn Yi Im0 Im1 Yt Yr Md mt aYt aYr x3 _ _ _ S (lv_sub hl [0, 1, 2, 3] rfl) hF
                            · have hF := zs_f hF c261
                              by_cases c262 : ((xs (x3).toNatClampNeg) &&& (31 : Int32)) = (11 : Int32)
                              · have hF := zs_t hF c262
                                refine lv_tableIn (off := 419) (tgt := 451) hx hb dL_law_32 (by rw [c262]; decide) (by rw [c262]; decide) (by rw [c262]; rfl) (by decide) ?_
                                exact j451 Xm tr Tx Rd Tk Pr Sg Ah Tn Yi Im0 Im1 Yt Yr Md mt aYt aYr x3 _ _ _ S (lv_sub hl [0, 1, 2, 3] rfl) hF
                              · have hF := zs_f hF c262
                                by_cases c263 : ((xs (x3).toNatClampNeg) &&& (31 : Int32)) = (12 : Int32)
                                · have hF := zs_t hF c263
                                  refine lv_tableIn (off := 442) (tgt := 474) hx hb dL_law_32 (by rw [c263]; decide) (by rw [c263]; decide) (by rw [c263]; rfl) (by decide) ?_
                                  exact j474 Xm tr Tx Rd Tk Pr Sg Ah Tn Yi Im0 Im1 Yt Yr Md mt aYt aYr x3 _ _ _ S (lv_sub hl [0, 1, 2, 3] rfl) hF
                                · have hF := zs_f hF c263
                                  by_cases c264 : ((xs (x3).toNatClampNeg) &&& (31 : Int32)) = (13 : Int32)
                                  · have hF := zs_t hF c264
                                    refine lv_tableIn (off := 455) (tgt := 487) hx hb dL_law_32 (by rw [c264]; decide) (by rw [c264]; decide) (by rw [c264]; rfl) (by decide) ?_
                                    exact j487 Xm tr Tx Rd Tk Pr Sg Ah Tn Yi Im0 Im1 Yt Yr Md mt aYt aYr x3 _ _ _ S (lv_sub hl [0, 1, 2, 3] rfl) hF
                                  · have hF := zs_f hF c264
                                    by_cases c265 : ((xs (x3).toNatClampNeg) &&& (31 : Int32)) = (14 : Int32)
                                    · have hF := zs_t hF c265
                                      refine lv_tableIn (off := 488) (tgt := 520) hx hb dL_law_32 (by rw [c265]; decide) (by rw [c265]; decide) (by rw [c265]; rfl) (by decide) ?_
                                      exact j520 Xm tr Tx Rd Tk Pr Sg Ah Tn Yi Im0 Im1 Yt Yr Md mt aYt aYr x3 _ _ _ S (lv_sub hl [0, 1, 2, 3] rfl) hF
                                    · have hF := zs_f hF c265
                                      by_cases c266 : ((xs (x3).toNatClampNeg) &&& (31 : Int32)) = (15 : Int32)
                                      · have hF := zs_t hF c266
                                        refine lv_tableIn (off := 521) (tgt := 553) hx hb dL_law_32 (by rw [c266]; decide) (by rw [c266]; decide) (by rw [c266]; rfl) (by decide) ?_
                                        exact j553 Xm tr Tx Rd Tk Pr Sg Ah Tn Yi Im0 Im1 Yt Yr Md mt aYt aYr x3 _ _ _ S (lv_sub hl [0, 1, 2, 3] rfl) hF
                                      · have hF := zs_f hF c266
                                        by_cases c267 : ((xs (x3).toNatClampNeg) &&& (31 : Int32)) = (16 : Int32)
                                        · have hF := zs_t hF c267
                                          refine lv_tableIn (off := 564) (tgt := 596) hx hb dL_law_32 (by rw [c267]; decide) (by rw [c267]; decide) (by rw [c267]; rfl) (by decide) ?_
                                          exact j596 Xm tr Tx Rd Tk Pr Sg Ah Tn Yi Im0 Im1 Yt Yr Md mt aYt aYr x3 _ _ _ S (lv_sub hl [0, 1, 2, 3] rfl) hF
                                        · have hF := zs_f hF c267
                                          by_cases c268 : ((xs (x3).toNatClampNeg) &&& (31 : Int32)) = (17 : Int32)
                                          · have hF := zs_t hF c268
                                            refine lv_tableIn (off := 597) (tgt := 629) hx hb dL_law_32 (by rw [c268]; decide) (by rw [c268]; decide) (by rw [c268]; rfl) (by decide) ?_
                                            exact j629 Xm tr Tx Rd Tk Pr Sg Ah Tn Yi Im0 Im1 Yt Yr Md mt aYt aYr x3 _ _ _ S (lv_sub hl [0, 1, 2, 3] rfl) hF
                                          · have hF := zs_f hF c268
                                            by_cases c269 : ((xs (x3).toNatClampNeg) &&& (31 : Int32)) = (18 : Int32)
                                            · have hF := zs_t hF c269
                                              refine lv_tableIn (off := 640) (tgt := 672) hx hb dL_law_32 (by rw [c269]; decide) (by rw [c269]; decide) (by rw [c269]; rfl) (by decide) ?_
                                              exact j672 Xm tr Tx Rd Tk Pr Sg Ah Tn Yi Im0 Im1 Yt Yr Md mt aYt aYr x3 _ _ _ S (lv_sub hl [0, 1, 2, 3] rfl) hF
                                            · have hF := zs_f hF c269
                                              by_cases c270 : ((xs (x3).toNatClampNeg) &&& (31 : Int32)) = (19 : Int32)
                                              · have hF := zs_t hF c270
                                                refine lv_tableIn (off := 653) (tgt := 685) hx hb dL_law_32 (by rw [c270]; decide) (by rw [c270]; decide) (by rw [c270]; rfl) (by decide) ?_
                                                exact j685 Xm tr Tx Rd Tk Pr Sg Ah Tn Yi Im0 Im1 Yt Yr Md mt aYt aYr x3 _ _ _ S (lv_sub hl [0, 1, 2, 3] rfl) hF
                                              · have hF := zs_f hF c270
                                                by_cases c271 : ((xs (x3).toNatClampNeg) &&& (31 : Int32)) = (20 : Int32)
                                                · have hF := zs_t hF c271
                                                  refine lv_tableIn (off := 676) (tgt := 708) hx hb dL_law_32 (by rw [c271]; decide) (by rw [c271]; decide) (by rw [c271]; rfl) (by decide) ?_
                                                  exact j708 Xm tr Tx Rd Tk Pr Sg Ah Tn Yi Im0 Im1 Yt Yr Md mt aYt aYr x3 _ _ _ S (lv_sub hl [0, 1, 2, 3] rfl) hF
                                                · have hF := zs_f hF c271
                                                  by_cases c272 : ((xs (x3).toNatClampNeg) &&& (31 : Int32)) = (21 : Int32)
                                                  · have hF := zs_t hF c272
                                                    refine lv_tableIn (off := 709) (tgt := 741) hx hb dL_law_32 (by rw [c272]; decide) (by rw [c272]; decide) (by rw [c272]; rfl) (by decide) ?_
                                                    exact j741 Xm tr Tx Rd Tk Pr Sg Ah Tn Yi Im0 Im1 Yt Yr Md mt aYt aYr x3 _ _ _ S (lv_sub hl [0, 1, 2, 3] rfl) hF
                                                  · have hF := zs_f hF c272
                                                    by_cases c273 : ((xs (x3).toNatClampNeg) &&& (31 : Int32)) = (22 : Int32)
                                                    · have hF := zs_t hF c273
                                                      refine lv_tableIn (off := 732) (tgt := 764) hx hb dL_law_32 (by rw [c273]; decide) (by rw [c273]; decide) (by rw [c273]; rfl) (by decide) ?_
                                                      exact j764 Xm tr Tx Rd Tk Pr Sg Ah Tn Yi Im0 Im1 Yt Yr Md mt aYt aYr x3 _ _ _ S (lv_sub hl [0, 1, 2, 3] rfl) hF
                                                    · have hF := zs_f hF c273
                                                      by_cases c274 : ((xs (x3).toNatClampNeg) &&& (31 : Int32)) = (23 : Int32)
                                                      · have hF := zs_t hF c274
                                                        refine lv_tableIn (off := 755) (tgt := 787) hx hb dL_law_32 (by rw [c274]; decide) (by rw [c274]; decide) (by rw [c274]; rfl) (by decide) ?_
                                                        exact j787 Xm tr Tx Rd Tk Pr Sg Ah Tn Yi Im0 Im1 Yt Yr Md mt aYt aYr x3 _ _ _ S (lv_sub hl [0, 1, 2, 3] rfl) hF
                                                      · have hF := zs_f hF c274
                                                        by_cases c275 : ((xs (x3).toNatClampNeg) &&& (31 : Int32)) = (24 : Int32)
                                                        · have hF := zs_t hF c275
                                                          refine lv_tableIn (off := 778) (tgt := 810) hx hb dL_law_32 (by rw [c275]; decide) (by rw [c275]; decide) (by rw [c275]; rfl) (by decide) ?_
                                                          exact j810 Xm tr Tx Rd Tk Pr Sg Ah Tn Yi Im0 Im1 Yt Yr Md mt aYt aYr x3 _ _ _ S (lv_sub hl [0, 1, 2, 3] rfl) hF
                                                        · have hF := zs_f hF c275
                                                          refine lv_tableOut (tgt := 824) hx hb dL_law_32 (zs_sw25 c251 c252 c253 c254 c255 c256 c257 c258 c259 c260 c261 c262 c263 c264 c265 c266 c267 c268 c269 c270 c271 c272 c273 c274 c275) (by decide) ?_
                                                          exact j824 Xm tr Tx Rd Tk Pr Sg Ah Tn Yi Im0 Im1 Yt Yr Md mt aYt aYr x3 _ _ _ S (lv_sub hl [0, 1, 2, 3] rfl) hF
  exact j18 n Xm tr Tx Rd Tk Pr Sg Ah Tn Yi Im0 Im1 Yt Yr Md mt aYt aYr x3 H locs ls S hl hF
