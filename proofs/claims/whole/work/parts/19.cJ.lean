section ZJ
variable {p : Program} {l : Launch} {e : Env} {R : Room} {s : State} {m : MethodId} {args : Array Value} {below : List Frame} {meth : Method} {c : Code} {H H0 : Heap} {locs : List Loc} {cells slots : Nat} {Q : State → Prop}
variable {cc : ByteArray} {pc nL : Nat} {ret : Option FieldType} {Ts : List Cond} {own : String} {ls : Array Slot} {rest : List Value} {G : GG} {A : Nat → Prop} {ws : va_W}
theorem zs_nretE {ty : FieldType} (C : zs_C p s m args meth c cc nL (some ty) Ts own) (S : zs_S G A s.heap H locs ws) {v r : Int32} {ws' : va_W} (hn : narrow ty (.int v) = .int v) (hv : v = r) (hw : ws = ws') (hdg : decode cc pc = .ok (.ireturn, 1)) : W p l e R s m args below meth c H locs cells slots (MQ below (zs_Qi G ws' r A) args s cells slots A) (F0 m pc ls [.int v]) := by
  subst hv; subst hw
  exact W.zret C.1.1 C.1.2.1 C.2.1 hn (fun t ht _ => ⟨⟨v, (), rfl, rfl, by rw [ht]; exact S.1, S.2.1⟩, S.2.2.F ht⟩) S.2.2.2.2 hdg C.2.2
theorem zs_runVs (C : zs_C p s m args meth c cc nL ret Ts own) (hK : zs_E G A s) (hA : ∀ q, s.heap.size ≤ q → A q) (S : zs_S G A s.heap H locs ws) (As rest : List Value) (k n : Nat) {y : MethodName} {bytes : ByteArray} {maxL : Nat} {rt : Option FieldType} {wl wl' : List Cond} {rm : Room} {Qc : Array Value → State → Outcome → State → Prop} {free : Addr → Prop} {index : Nat} {st : List Value} {lv : List (Nat × Value)} {mc ms : Nat} (hk : k < 4)
    (hM : Met l y wl rm (va_Pc (.ref (G.2.2.2.2.1 k) :: As) (zs_pre G [] H.size)) Qc mc ms free) (hG : GoodIn Ts (wsV own index "java/lang/String" y wl)) (hwl : wl = Cond.code y bytes maxL rt :: wl') (hrc : rm.cells = mc) (hrs : rm.slots = ms) (hd : y.cls = "java/lang/String" ∧ y.cls ≠ "java/lang/invoke/MethodHandle" ∧ y.cls ≠ "java/lang/invoke/VarHandle" ∧ (parseMethodDescriptor y.desc).map (fun d => d.parameters.length) = some n) (hR : rm.frames + 1 ≤ R.frames ∧ 8 + (maxL + 11) + rm.locals ≤ R.locals)
    (hlen : As.length = n) (hlv : lv_has ls nL lv) (hst : st = As.reverse ++ .ref (G.2.2.2.2.1 k) :: rest) (hW : (rest.map fun v => v.category).sum ≤ 8) (hdg : decode cc pc = .ok (.invokevirtual index, 3)) (hf : cells + mc ≤ R.cells ∧ slots + ms ≤ R.slots) :
    va_Run p l e R s m args below meth c H locs cells slots mc ms (F0 m pc ls st) rest (Qc (Value.ref (G.2.2.2.2.1 k) :: As).toArray) free :=
  va_runV C.1 hM (cwV n C.1.2.2.2.2 hG hwl hrc hrs hd hR) ⟨zs_blind, vk_recv hK.2.1 hk S.2.2, (zs_prS hK hA S (wc := []) [] rfl rfl).2⟩ rfl hlen hlv.1 hst (lv_room hW) hdg hf
end ZJ
abbrev RMJ0_coder : Room := { frames := 0, cells := 0, slots := 0, locals := 0 }
set_option maxRecDepth 100000 in
theorem c_J0_coder (l : Launch) (G : GG) (k : Nat) (hk : k < 4) (sz : Nat) : Met l yJ0_coder_7d493 wsJ0_coder_7d493 RMJ0_coder (va_Pc [.ref (G.2.2.2.2.1 k)] (zs_pre G [] sz)) (zs_Qi G [] 0 (va_A [] sz)) 0 0 (va_A [] sz) := by
  refine zs_met (cc := cJ0_coder_7d493) (maxL := 1) (ret := (some .byte)) (own := RJ0) (Qc := zs_Qi G [] 0) (by decide) rfl rfl (Nat.le_of_ble_eq_true rfl) ?_
  intro p e s m args below meth c C A hK hA S _ _ ls hl
  have hl : lv_has ls 1 [(0, .ref (G.2.2.2.2.1 k))] := hl
  have hx := C.1.1
  have hb := C.1.2.1
  refine va_gets hx hb hK.2.2.1 S.2.2 C.1.2.2.2.1 (C.1.2.2.2.2 (.fieldLink RJ0 38 "java/lang/String" "COMPACT_STRINGS" "Z") (List.mem_of_getElem? (i := 1) rfl)) (fun _ h => h) dJ0_coder_7d493_0 ?_
  refine lv_if_eq (tgt := 13) hx hb dJ0_coder_7d493_3 (by decide) (fun c => absurd c (by decide)) (fun _ => ?_)
  refine lv_aload_n hx hb dJ0_coder_7d493_6 rfl (lv_at hl 0 rfl) ?_
  refine vk_getf hx hb (hK.2.1.1 k hk).2.1 S.2.2 C.1.2.2.2.1 (C.1.2.2.2.2 (.fieldLink RJ0 15 "java/lang/String" "coder" "B") (List.mem_of_getElem? (i := 2) rfl)) (fun _ h => h) dJ0_coder_7d493_7 ?_
  refine lv_goto (tgt := 14) hx hb dJ0_coder_7d493_10 (by decide) ?_
  exact zs_nretE C S rfl rfl rfl dJ0_coder_7d493_14
abbrev RMJ0_isLatin1 : Room := { frames := 0, cells := 0, slots := 0, locals := 0 }
set_option maxRecDepth 100000 in
theorem c_J0_isLatin1 (l : Launch) (G : GG) (k : Nat) (hk : k < 4) (sz : Nat) : Met l yJ0_isLatin1_aae02 wsJ0_isLatin1_aae02 RMJ0_isLatin1 (va_Pc [.ref (G.2.2.2.2.1 k)] (zs_pre G [] sz)) (zs_Qi G [] 1 (va_A [] sz)) 0 0 (va_A [] sz) := by
  refine zs_met (cc := cJ0_isLatin1_aae02) (maxL := 1) (ret := (some .boolean)) (own := RJ0) (Qc := zs_Qi G [] 1) (by decide) rfl rfl (Nat.le_of_ble_eq_true rfl) ?_
  intro p e s m args below meth c C A hK hA S _ _ ls hl
  have hl : lv_has ls 1 [(0, .ref (G.2.2.2.2.1 k))] := hl
  have hx := C.1.1
  have hb := C.1.2.1
  refine va_gets hx hb hK.2.2.1 S.2.2 C.1.2.2.2.1 (C.1.2.2.2.2 (.fieldLink RJ0 38 "java/lang/String" "COMPACT_STRINGS" "Z") (List.mem_of_getElem? (i := 1) rfl)) (fun _ h => h) dJ0_isLatin1_aae02_0 ?_
  refine lv_if_eq (tgt := 17) hx hb dJ0_isLatin1_aae02_3 (by decide) (fun c => absurd c (by decide)) (fun _ => ?_)
  refine lv_aload_n hx hb dJ0_isLatin1_aae02_6 rfl (lv_at hl 0 rfl) ?_
  refine vk_getf hx hb (hK.2.1.1 k hk).2.1 S.2.2 C.1.2.2.2.1 (C.1.2.2.2.2 (.fieldLink RJ0 15 "java/lang/String" "coder" "B") (List.mem_of_getElem? (i := 2) rfl)) (fun _ h => h) dJ0_isLatin1_aae02_7 ?_
  refine lv_if_ne (tgt := 17) hx hb dJ0_isLatin1_aae02_10 (by decide) (fun c => absurd rfl c) (fun _ => ?_)
  refine lv_iconst (v := (1 : Int32)) hx hb dJ0_isLatin1_aae02_13 (by decide) ?_
  refine lv_goto (tgt := 18) hx hb dJ0_isLatin1_aae02_14 (by decide) ?_
  exact zs_nretE C S rfl rfl rfl dJ0_isLatin1_aae02_18
theorem zd_J0_coder : yJ0_coder_7d493.cls = "java/lang/String" ∧ yJ0_coder_7d493.cls ≠ "java/lang/invoke/MethodHandle" ∧ yJ0_coder_7d493.cls ≠ "java/lang/invoke/VarHandle" ∧ (parseMethodDescriptor yJ0_coder_7d493.desc).map (fun d => d.parameters.length) = some 0 := by decide +kernel
theorem zd_J0_isLatin1 : yJ0_isLatin1_aae02.cls = "java/lang/String" ∧ yJ0_isLatin1_aae02.cls ≠ "java/lang/invoke/MethodHandle" ∧ yJ0_isLatin1_aae02.cls ≠ "java/lang/invoke/VarHandle" ∧ (parseMethodDescriptor yJ0_isLatin1_aae02.desc).map (fun d => d.parameters.length) = some 0 := by decide +kernel
theorem zd_J0_length : yJ0_length_8abf5.cls = "java/lang/String" ∧ yJ0_length_8abf5.cls ≠ "java/lang/invoke/MethodHandle" ∧ yJ0_length_8abf5.cls ≠ "java/lang/invoke/VarHandle" ∧ (parseMethodDescriptor yJ0_length_8abf5.desc).map (fun d => d.parameters.length) = some 0 := by decide +kernel
theorem zd_J0_charAt : yJ0_charAt_5068e.cls = "java/lang/String" ∧ yJ0_charAt_5068e.cls ≠ "java/lang/invoke/MethodHandle" ∧ yJ0_charAt_5068e.cls ≠ "java/lang/invoke/VarHandle" ∧ (parseMethodDescriptor yJ0_charAt_5068e.desc).map (fun d => d.parameters.length) = some 1 := by decide +kernel
theorem zd_J1_charAt : yJ1_charAt_3b067.cls ≠ "java/lang/invoke/MethodHandle" ∧ yJ1_charAt_3b067.cls ≠ "java/lang/invoke/VarHandle" ∧ (parseMethodDescriptor yJ1_charAt_3b067.desc).map (fun d => d.parameters.length) = some 2 := by decide +kernel
theorem zd_J0_checkIndex : yJ0_checkIndex_df160.cls ≠ "java/lang/invoke/MethodHandle" ∧ yJ0_checkIndex_df160.cls ≠ "java/lang/invoke/VarHandle" ∧ (parseMethodDescriptor yJ0_checkIndex_df160.desc).map (fun d => d.parameters.length) = some 2 := by decide +kernel
theorem zd_J3_checkIndex : yJ3_checkIndex_8e157.cls ≠ "java/lang/invoke/MethodHandle" ∧ yJ3_checkIndex_8e157.cls ≠ "java/lang/invoke/VarHandle" ∧ (parseMethodDescriptor yJ3_checkIndex_8e157.desc).map (fun d => d.parameters.length) = some 3 := by decide +kernel
theorem zs_l4 {P : Nat → Prop} (h0 : P 0) (h1 : P 1) (h2 : P 2) (h3 : P 3) {k : Nat} (hk : k < 4) : P k := by
  rcases (show k = 0 ∨ k = 1 ∨ k = 2 ∨ k = 3 by omega) with rfl | rfl | rfl | rfl <;> assumption
abbrev RMJ0_length : Room := { frames := 1, cells := 0, slots := 0, locals := 20 }
set_option maxRecDepth 100000 in
theorem c_J0_length (l : Launch) (G : GG) (k : Nat) (hk : k < 4) (sz : Nat) : Met l yJ0_length_8abf5 wsJ0_length_8abf5 RMJ0_length (va_Pc [.ref (G.2.2.2.2.1 k)] (zs_pre G [] sz)) (zs_Qi G [] (nI (zs_len k)) (va_A [] sz)) 0 0 (va_A [] sz) := by
  refine zs_met (cc := cJ0_length_8abf5) (maxL := 1) (ret := (some .int)) (own := RJ0) (Qc := zs_Qi G [] (nI (zs_len k))) (by decide) rfl rfl (Nat.le_of_ble_eq_true rfl) ?_
  intro p e s m args below meth c C A hK hA S _ _ ls hl
  have hl : lv_has ls 1 [(0, .ref (G.2.2.2.2.1 k))] := hl
  have hx := C.1.1
  have hb := C.1.2.1
  refine lv_aload_n hx hb dJ0_length_8abf5_0 rfl (lv_at hl 0 rfl) ?_
  refine vk_getf hx hb (hK.2.1.1 k hk).2.2.1 S.2.2 C.1.2.2.2.1 (C.1.2.2.2.2 (.fieldLink RJ0 9 "java/lang/String" "value" "[B") (List.mem_of_getElem? (i := 1) rfl)) (fun _ h => h) dJ0_length_8abf5_1 ?_
  refine va_tlen hx hb (hK.2.1.1 k hk).2.2.2 S.2.2 (v := nI (zs_len k)) rfl dJ0_length_8abf5_4 ?_
  refine lv_aload_n hx hb dJ0_length_8abf5_5 rfl (lv_at hl 0 rfl) ?_
  refine zs_calliP S hA (zs_runVs C hK hA S [] [.int (nI (zs_len k))] k 0 hk (c_J0_coder l G k hk s.heap.size) gJ0_length_8abf5_J0_coder_7d493 rfl rfl rfl zd_J0_coder ⟨Nat.le_of_ble_eq_true rfl, Nat.le_of_ble_eq_true rfl⟩ rfl hl rfl (Nat.le_of_ble_eq_true rfl) dJ0_length_8abf5_6 ⟨Nat.le_of_ble_eq_true rfl, Nat.le_of_ble_eq_true rfl⟩) (fun H locs S => ?_)
  refine lv_ishr hx hb dJ0_length_8abf5_9 ?_
  exact zs_iretE C S (zs_l4 (P := fun k => nI (zs_len k) >>> ((0 : Int32) &&& 31) = nI (zs_len k)) (by decide) (by decide) (by decide) (by decide) hk) rfl dJ0_length_8abf5_10
abbrev RMJ3_checkIndex : Room := { frames := 0, cells := 0, slots := 0, locals := 0 }
set_option maxRecDepth 100000 in
theorem c_J3_checkIndex (l : Launch) (G : GG) (i n : Int32) (v : Option Nat) (h0 : ¬ i < 0) (h1 : i < n) (sz : Nat) : Met l yJ3_checkIndex_8e157 wsJ3_checkIndex_8e157 RMJ3_checkIndex (va_Pc [.int i, .int n, va_rf v] (zs_pre G [] sz)) (zs_Qi G [] i (va_A [] sz)) 0 0 (va_A [] sz) := by
  cases v with
  | none =>
    refine zs_met (av := [.int i, .int n, .null]) (cc := cJ3_checkIndex_8e157) (maxL := 3) (ret := (some .int)) (own := RJ3) (Qc := zs_Qi G [] i) (by decide) rfl rfl (Nat.le_of_ble_eq_true rfl) ?_
    intro p e s m args below meth c C A hK hA S _ _ ls hl
    have hl : lv_has ls 3 [(0, .int i), (1, .int n), (2, .null)] := hl
    have hx := C.1.1
    have hb := C.1.2.1
    refine lv_iload_n hx hb dJ3_checkIndex_8e157_0 rfl (lv_at hl 0 rfl) ?_
    refine lv_if_lt (tgt := 9) hx hb dJ3_checkIndex_8e157_1 (by decide) (fun c => absurd c h0) (fun _ => ?_)
    refine lv_iload_n hx hb dJ3_checkIndex_8e157_4 rfl (lv_at hl 0 rfl) ?_
    refine lv_iload_n hx hb dJ3_checkIndex_8e157_5 rfl (lv_at hl 1 rfl) ?_
    refine lv_icmp_lt (tgt := 16) hx hb dJ3_checkIndex_8e157_6 (by decide) (fun _ => ?_) (fun c => absurd h1 c)
    refine lv_iload_n hx hb dJ3_checkIndex_8e157_16 rfl (lv_at hl 0 rfl) ?_
    exact zs_iretE C S rfl rfl dJ3_checkIndex_8e157_17
  | some t =>
    refine zs_met (av := [.int i, .int n, .ref t]) (cc := cJ3_checkIndex_8e157) (maxL := 3) (ret := (some .int)) (own := RJ3) (Qc := zs_Qi G [] i) (by decide) rfl rfl (Nat.le_of_ble_eq_true rfl) ?_
    intro p e s m args below meth c C A hK hA S _ _ ls hl
    have hl : lv_has ls 3 [(0, .int i), (1, .int n), (2, .ref t)] := hl
    have hx := C.1.1
    have hb := C.1.2.1
    refine lv_iload_n hx hb dJ3_checkIndex_8e157_0 rfl (lv_at hl 0 rfl) ?_
    refine lv_if_lt (tgt := 9) hx hb dJ3_checkIndex_8e157_1 (by decide) (fun c => absurd c h0) (fun _ => ?_)
    refine lv_iload_n hx hb dJ3_checkIndex_8e157_4 rfl (lv_at hl 0 rfl) ?_
    refine lv_iload_n hx hb dJ3_checkIndex_8e157_5 rfl (lv_at hl 1 rfl) ?_
    refine lv_icmp_lt (tgt := 16) hx hb dJ3_checkIndex_8e157_6 (by decide) (fun _ => ?_) (fun c => absurd h1 c)
    refine lv_iload_n hx hb dJ3_checkIndex_8e157_16 rfl (lv_at hl 0 rfl) ?_
    exact zs_iretE C S rfl rfl dJ3_checkIndex_8e157_17
abbrev RMJ0_checkIndex : Room := { frames := 1, cells := 0, slots := 0, locals := 22 }
set_option maxRecDepth 100000 in
theorem c_J0_checkIndex (l : Launch) (G : GG) (i n : Int32) (h0 : ¬ i < 0) (h1 : i < n) (sz : Nat) : Met l yJ0_checkIndex_df160 wsJ0_checkIndex_df160 RMJ0_checkIndex (va_Pc [.int i, .int n] (zs_pre G [] sz)) (zs_Qv G [] (va_A [] sz)) 0 0 (va_A [] sz) := by
  refine zs_met (cc := cJ0_checkIndex_df160) (maxL := 2) (ret := none) (own := RJ0) (Qc := zs_Qv G []) (by decide) rfl rfl (Nat.le_of_ble_eq_true rfl) ?_
  intro p e s m args below meth c C A hK hA S _ _ ls hl
  have hl : lv_has ls 2 [(0, .int i), (1, .int n)] := hl
  have hx := C.1.1
  have hb := C.1.2.1
  refine lv_iload_n hx hb dJ0_checkIndex_df160_0 rfl (lv_at hl 0 rfl) ?_
  refine lv_iload_n hx hb dJ0_checkIndex_df160_1 rfl (lv_at hl 1 rfl) ?_
  rcases hK.2.2.2 with hZ | ⟨t, hZ⟩
  · refine va_gets hx hb hZ S.2.2 C.1.2.2.2.1 (C.1.2.2.2.2 (.fieldLink RJ0 1053 "jdk/internal/util/Preconditions" "SIOOBE_FORMATTER" "Ljava/util/function/BiFunction;") (List.mem_of_getElem? (i := 1) rfl)) (fun _ h => h) dJ0_checkIndex_df160_2 ?_
    refine zs_calliP (r := i) S hA (zs_runS C hK hA S [.int i, .int n, .null] [] [] 3 (c_J3_checkIndex l G i n none h0 h1 s.heap.size) gJ0_checkIndex_df160_J3_checkIndex_8e157 rfl rfl rfl zd_J3_checkIndex ⟨Nat.le_of_ble_eq_true rfl, Nat.le_of_ble_eq_true rfl⟩ rfl rfl rfl hl rfl (Nat.le_of_ble_eq_true rfl) dJ0_checkIndex_df160_5 ⟨Nat.le_of_ble_eq_true rfl, Nat.le_of_ble_eq_true rfl⟩) (fun H locs S => ?_)
    refine lv_pop hx hb dJ0_checkIndex_df160_8 rfl ?_
    exact zs_vretE C S rfl dJ0_checkIndex_df160_9
  · refine va_gets hx hb hZ S.2.2 C.1.2.2.2.1 (C.1.2.2.2.2 (.fieldLink RJ0 1053 "jdk/internal/util/Preconditions" "SIOOBE_FORMATTER" "Ljava/util/function/BiFunction;") (List.mem_of_getElem? (i := 1) rfl)) (fun _ h => h) dJ0_checkIndex_df160_2 ?_
    refine zs_calliP (r := i) S hA (zs_runS C hK hA S [.int i, .int n, .ref t] [] [] 3 (c_J3_checkIndex l G i n (some t) h0 h1 s.heap.size) gJ0_checkIndex_df160_J3_checkIndex_8e157 rfl rfl rfl zd_J3_checkIndex ⟨Nat.le_of_ble_eq_true rfl, Nat.le_of_ble_eq_true rfl⟩ rfl rfl rfl hl rfl (Nat.le_of_ble_eq_true rfl) dJ0_checkIndex_df160_5 ⟨Nat.le_of_ble_eq_true rfl, Nat.le_of_ble_eq_true rfl⟩) (fun H locs S => ?_)
    refine lv_pop hx hb dJ0_checkIndex_df160_8 rfl ?_
    exact zs_vretE C S rfl dJ0_checkIndex_df160_9
section ZJ
variable {p : Program} {l : Launch} {e : Env} {R : Room} {s : State} {m : MethodId} {args : Array Value} {below : List Frame} {meth : Method} {c : Code} {H H0 : Heap} {locs : List Loc} {cells slots : Nat} {Q : State → Prop}
variable {cc : ByteArray} {pc nL : Nat} {ret : Option FieldType} {Ts : List Cond} {own : String} {ls : Array Slot} {rest : List Value} {G : GG} {A : Nat → Prop} {ws : va_W}
/-- a callee of nothing that answers nothing -/
theorem zs_callvP {a : Array Value} {st0 : List Value} (S : zs_S G A s.heap H locs ws) (hA : ∀ q, s.heap.size ≤ q → A q) (hr : va_Run p l e R s m args below meth c H locs cells slots 0 0 (F0 m pc ls st0) rest (zs_Qv G [] (va_A [] H.size) a) (va_A [] H.size))
    (kk : ∀ (H1 : Heap) (locs1 : List Loc), zs_S G A s.heap H1 locs1 ws → W p l e R s m args below meth c H1 locs1 cells slots Q (F0 m (pc + 3) ls rest)) : W p l e R s m args below meth c H locs cells slots Q (F0 m pc ls st0) := by
  have hf : ∀ q, va_A [] H.size q → A q := zs_free S hA (wc := []) [] rfl
  refine va_callv hr S.2.2 (fun q _ h => hf q h) hf (fun _ _ H1 locs1 ht _ hw hB _ hk1 hS1 => ?_)
  refine kk H1 locs1 ⟨fun k q hq => (S.1 k q hq).kept (hk1 q.1 (S.1 k q hq).lt (fun h => ?_)), S.2.1, hS1⟩
  rcases h with ⟨k2, e2, h⟩ | h
  · simp at h
  · exact absurd (S.1 k q hq).lt (by omega)
end ZJ
abbrev RMJ1_charAt : Room := { frames := 2, cells := 0, slots := 0, locals := 43 }
set_option maxRecDepth 100000 in
theorem c_J1_charAt (l : Launch) (G : GG) (k : Nat) (hk : k < 4) (i : Int32) (h0 : ¬ i < 0) (h1 : i < nI (zs_len k)) (sz : Nat) : Met l yJ1_charAt_3b067 wsJ1_charAt_3b067 RMJ1_charAt (va_Pc [.ref (G.2.2.2.2.2 k), .int i] (zs_pre G [] sz)) (zs_Qi G [] (zs_chr k i) (va_A [] sz)) 0 0 (va_A [] sz) := by
  refine zs_met (cc := cJ1_charAt_3b067) (maxL := 2) (ret := (some .char)) (own := RJ1) (Qc := zs_Qi G [] (zs_chr k i)) (by decide) rfl rfl (Nat.le_of_ble_eq_true rfl) ?_
  intro p e s m args below meth c C A hK hA S _ _ ls hl
  have hl : lv_has ls 2 [(0, .ref (G.2.2.2.2.2 k)), (1, .int i)] := hl
  have hx := C.1.1
  have hb := C.1.2.1
  refine lv_iload_n hx hb dJ1_charAt_3b067_0 rfl (lv_at hl 1 rfl) ?_
  refine lv_aload_n hx hb dJ1_charAt_3b067_1 rfl (lv_at hl 0 rfl) ?_
  refine va_tlen hx hb (hK.2.1.1 k hk).2.2.2 S.2.2 (v := nI (zs_len k)) rfl dJ1_charAt_3b067_2 ?_
  refine zs_callvP S hA (zs_runS C hK hA S [.int i, .int (nI (zs_len k))] [] [] 2 (c_J0_checkIndex l G i (nI (zs_len k)) h0 h1 s.heap.size) gJ1_charAt_3b067_J0_checkIndex_df160 rfl rfl rfl zd_J0_checkIndex ⟨Nat.le_of_ble_eq_true rfl, Nat.le_of_ble_eq_true rfl⟩ rfl rfl rfl hl rfl (Nat.le_of_ble_eq_true rfl) dJ1_charAt_3b067_3 ⟨Nat.le_of_ble_eq_true rfl, Nat.le_of_ble_eq_true rfl⟩) (fun H locs S => ?_)
  refine lv_aload_n hx hb dJ1_charAt_3b067_6 rfl (lv_at hl 0 rfl) ?_
  refine lv_iload_n hx hb dJ1_charAt_3b067_7 rfl (lv_at hl 1 rfl) ?_
  have hin : vp_in i (zs_len k) := by
    obtain ⟨j, hj, rfl⟩ := nI_of h0
    have hL : zs_len k < 2 ^ 31 := zs_l4 (P := fun k => zs_len k < 2 ^ 31) (by decide) (by decide) (by decide) (by decide) hk
    exact vp_in_nI ((nI_ltI hj hL).mp h1) hL
  refine va_tb hx hb (hK.2.1.1 k hk).2.2.2 S.2.2 (v := .int ((zs_byt k).getD i.toNatClampNeg 0)) hin rfl dJ1_charAt_3b067_8 ?_
  refine lv_sipush (v := (255 : Int32)) hx hb dJ1_charAt_3b067_9 (by decide) ?_
  refine lv_iand hx hb dJ1_charAt_3b067_12 ?_
  refine lv_i2c (v := zs_chr k i) hx hb dJ1_charAt_3b067_13 rfl ?_
  exact zs_nretE C S (pk_nc _) rfl rfl dJ1_charAt_3b067_14
abbrev RMJ0_charAt : Room := { frames := 3, cells := 0, slots := 0, locals := 64 }
set_option maxRecDepth 100000 in
theorem c_J0_charAt (l : Launch) (G : GG) (k : Nat) (hk : k < 4) (i : Int32) (h0 : ¬ i < 0) (h1 : i < nI (zs_len k)) (sz : Nat) : Met l yJ0_charAt_5068e wsJ0_charAt_5068e RMJ0_charAt (va_Pc [.ref (G.2.2.2.2.1 k), .int i] (zs_pre G [] sz)) (zs_Qi G [] (zs_chr k i) (va_A [] sz)) 0 0 (va_A [] sz) := by
  refine zs_met (cc := cJ0_charAt_5068e) (maxL := 2) (ret := (some .char)) (own := RJ0) (Qc := zs_Qi G [] (zs_chr k i)) (by decide) rfl rfl (Nat.le_of_ble_eq_true rfl) ?_
  intro p e s m args below meth c C A hK hA S _ _ ls hl
  have hl : lv_has ls 2 [(0, .ref (G.2.2.2.2.1 k)), (1, .int i)] := hl
  have hx := C.1.1
  have hb := C.1.2.1
  refine lv_aload_n hx hb dJ0_charAt_5068e_0 rfl (lv_at hl 0 rfl) ?_
  refine zs_calliP S hA (zs_runVs C hK hA S [] [] k 0 hk (c_J0_isLatin1 l G k hk s.heap.size) gJ0_charAt_5068e_J0_isLatin1_aae02 rfl rfl rfl zd_J0_isLatin1 ⟨Nat.le_of_ble_eq_true rfl, Nat.le_of_ble_eq_true rfl⟩ rfl hl rfl (Nat.le_of_ble_eq_true rfl) dJ0_charAt_5068e_1 ⟨Nat.le_of_ble_eq_true rfl, Nat.le_of_ble_eq_true rfl⟩) (fun H locs S => ?_)
  refine lv_if_eq (tgt := 16) hx hb dJ0_charAt_5068e_4 (by decide) (fun c => absurd c (by decide)) (fun _ => ?_)
  refine lv_aload_n hx hb dJ0_charAt_5068e_7 rfl (lv_at hl 0 rfl) ?_
  refine vk_getf hx hb (hK.2.1.1 k hk).2.2.1 S.2.2 C.1.2.2.2.1 (C.1.2.2.2.2 (.fieldLink RJ0 9 "java/lang/String" "value" "[B") (List.mem_of_getElem? (i := 1) rfl)) (fun _ h => h) dJ0_charAt_5068e_8 ?_
  refine lv_iload_n hx hb dJ0_charAt_5068e_11 rfl (lv_at hl 1 rfl) ?_
  refine zs_calliP S hA (zs_runS C hK hA S [.ref (G.2.2.2.2.2 k), .int i] [] [] 2 (c_J1_charAt l G k hk i h0 h1 H.size) gJ0_charAt_5068e_J1_charAt_3b067 rfl rfl rfl zd_J1_charAt ⟨Nat.le_of_ble_eq_true rfl, Nat.le_of_ble_eq_true rfl⟩ rfl rfl rfl hl rfl (Nat.le_of_ble_eq_true rfl) dJ0_charAt_5068e_12 ⟨Nat.le_of_ble_eq_true rfl, Nat.le_of_ble_eq_true rfl⟩) (fun H locs S => ?_)
  exact zs_nretE C S (pk_nc _) rfl rfl dJ0_charAt_5068e_15
