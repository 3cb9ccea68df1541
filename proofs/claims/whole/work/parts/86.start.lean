/-! ===== the law from its entry ===== -/
section ZO
variable {p : Program} {l : Launch} {e : Env} {R : Room} {s : State} {m : MethodId} {args : Array Value} {below : List Frame} {meth : Method} {c : Code} {H : Heap} {locs : List Loc} {cells slots : Nat}
variable {cc : ByteArray} {pc nL : Nat} {ret : Option FieldType} {Ts : List Cond} {own : String} {ls : Array Slot} {G : GG} {A : Nat → Prop}
theorem zs_runIO (C : zs_C p s m args meth c cc nL ret Ts own) (hK : zs_E G A s) (hN : zs_N s) (hO : va_AO "SeenCools$Present" s) (hA : ∀ q, s.heap.size ≤ q → A q) {wr wc : va_W} (S : zs_S G A s.heap H locs (wr ++ wc)) (rest : List Value) {y : MethodName} {bytes : ByteArray} {maxL : Nat} {wl wl' : List Cond} {rm : Room} {Qc : Array Value → State → Outcome → State → Prop} {free : Addr → Prop} {index b : Nat} {lv : List (Nat × Value)} {mc ms : Nat}
    (hM : Met l y wl rm (va_Pc [.ref b] (zs_preO G wc H.size)) Qc mc ms free) (hG : GoodIn Ts wl) (hwl : wl = Cond.code y bytes maxL none :: wl') (hrc : rm.cells = mc) (hrs : rm.slots = ms) (hi : Cond.initialized y.cls ∈ Ts) (hl : Cond.methodLink own index y ∈ Ts) (hm : Cond.instanceMethod y ∈ Ts) (hy : y.name = "<init>") (hd : y.cls ≠ "java/lang/invoke/MethodHandle" ∧ y.cls ≠ "java/lang/invoke/VarHandle" ∧ (parseMethodDescriptor y.desc).map (fun d => d.parameters.length) = some 0) (hR : rm.frames + 1 ≤ R.frames ∧ 8 + (maxL + 11) + rm.locals ≤ R.locals)
    (hlv : lv_has ls nL lv) (hW : (rest.map fun v => v.category).sum ≤ 8) (hdg : decode cc pc = .ok (.invokespecial index, 3)) (hf : cells + mc ≤ R.cells ∧ slots + ms ≤ R.slots) :
    va_Run p l e R s m args below meth c H locs cells slots mc ms (F0 m pc ls (.ref b :: rest)) rest (Qc ([Value.ref b] : List Value).toArray) free :=
  va_runI (As := []) C.1 hM (cwI 0 C.1.2.2.2.2 hG hwl hrc hrs (C.1.2.2.2.2 _ hi) (C.1.2.2.2.2 _ hl) (C.1.2.2.2.2 _ hm) hy hd hR) ⟨zs_blindO, fun U hU hW => ⟨((zs_prCR hK hN hA S (As := [Value.ref b])).2 U hU hW).1, ((zs_prCR hK hN hA S (As := [Value.ref b])).2 U hU hW).2, hO.moved hW.alike⟩⟩ rfl rfl hlv.1 rfl (lv_room hW) hdg hf
end ZO
set_option maxHeartbeats 8000000 in
set_option maxRecDepth 100000 in
theorem whole_start {p : Program} {e : Env} {s : State} {m : MethodId} {below : List Frame} {meth : Method} {c : Code} (l : Launch) (hflags : l.flags = flags0) {b L : Nat} {xs : Nat → Int32} (hL : L ≤ 256) (C0 : lw_At p s m meth c b L xs) : W p l e room_1 s m #[Value.ref b] below meth c s.heap [] 0 0 (lw_Z below #[Value.ref b] s) (entryFrame m ([Value.ref b] : List Value).toArray 4) := by
  obtain ⟨G, hK0, hV, hN, hO⟩ := zw_env C0
  have hK : zs_E G (fun q => s.heap.size ≤ q) s := ⟨hK0, hV⟩
  obtain ⟨Y0, hY0, hF⟩ := zm_main (xs := xs) hL
  obtain ⟨hx, hb, hr, hml, hown, hts, hX, hbl, hlocks, hgv⟩ := id C0
  have hA : ∀ q : Nat, s.heap.size ≤ q → (fun q : Nat => s.heap.size ≤ q) q := fun _ h => h
  have C : zs_C p s m #[Value.ref b] meth c cL_law 4 ret wsL_law RL := ⟨⟨hx, hb, hml, hown, fun w h => hts w (wsL_law_in w h)⟩, hr, hlocks⟩
  have S : zs_S G (fun q => s.heap.size ≤ q) s.heap s.heap [] ([] : va_W) := ⟨fun k q h => by simp at h, ⟨fun i j p q h => by simp at h, fun k q h => by simp at h⟩, va_S.rf⟩
  have hl := lv_entry ([.ref b]) (n := 4) (Nat.le_of_ble_eq_true rfl)
  rw [lg_entry_eq]
  generalize (lg_sl ([.ref b]) ++ List.replicate (4 - (lg_sl ([.ref b])).length) Slot.unset).toArray = ls at hl ⊢
  have hl : lv_has ls 4 [(0, .ref b)] := hl
  refine zs_new C hK hA S (ci := 7) (fs := [.null, .null, .null, .null, .null, .null, .null, .null, .int 0, .long 0]) (Cn := RX7) (T := TX7) (N := 10) (ty := tyX7) inlX7 tyX7_ok (List.mem_of_getElem? (i := 0) (by decide +kernel)) (List.mem_of_getElem? (i := 1) (by decide +kernel)) (List.mem_of_getElem? (i := 2) (by decide +kernel)) rfl (fun j hj => by rcases (show j = 0 ∨ j = 1 ∨ j = 2 ∨ j = 3 ∨ j = 4 ∨ j = 5 ∨ j = 6 ∨ j = 7 ∨ j = 8 ∨ j = 9 by omega) with rfl | rfl | rfl | rfl | rfl | rfl | rfl | rfl | rfl | rfl <;> rfl) (Nat.le_of_ble_eq_true rfl) (Nat.le_of_ble_eq_true rfl) dL_law_0 (fun q H S => ?_)
  refine lv_dup hx hb dL_law_3 rfl ?_
  refine zs_callcR (Wf := cW7 G Y0) S hA (zs_runIO C hK hN hO hA S [.ref q] (c_X7_init l G q H.size Y0 hY0) gL_law_X7_init rfl rfl rfl (List.mem_of_getElem? (i := 2) (by decide +kernel)) (List.mem_of_getElem? (i := 7) (by decide +kernel)) (List.mem_of_getElem? (i := 8) (by decide +kernel)) rfl zd_X7_init ⟨(Nat.le_of_ble_eq_true rfl), (Nat.le_of_ble_eq_true rfl)⟩ hl (Nat.le_of_ble_eq_true rfl) dL_law_4 ⟨(Nat.le_of_ble_eq_true rfl), (Nat.le_of_ble_eq_true rfl)⟩) (fun u H locs e0 S9 => ?_)
  subst e0
  have S : zs_S G (fun q => s.heap.size ≤ q) s.heap H locs (cW7 G Y0 u) := S9
  refine lv_astore_n (lv' := [(1, .ref (u 0 0)), (0, .ref b)]) hx hb dL_law_7 rfl hl (by decide) rfl (fun ls hl => ?_)
  refine zs_new C hK hA S (ci := 8) (fs := [.null, .int 0, .int 0, .int 0, .int 0, .int 0, .int 0, .int 0, .null, .null, .int 0, .int 0, .null, .null, .null, .null, .null, .null, .int 0, .int 0, .int 0, .int 0, .null, .null, .int 0, .null, .null, .int 0, .null, .null, .null, .long 0, .null]) (Cn := RX8) (T := TX8) (N := 33) (ty := tyX8) inlX8 tyX8_ok (List.mem_of_getElem? (i := 3) (by decide +kernel)) (List.mem_of_getElem? (i := 4) (by decide +kernel)) (List.mem_of_getElem? (i := 5) (by decide +kernel)) rfl (fun j hj => by rcases (show j = 0 ∨ j = 1 ∨ j = 2 ∨ j = 3 ∨ j = 4 ∨ j = 5 ∨ j = 6 ∨ j = 7 ∨ j = 8 ∨ j = 9 ∨ j = 10 ∨ j = 11 ∨ j = 12 ∨ j = 13 ∨ j = 14 ∨ j = 15 ∨ j = 16 ∨ j = 17 ∨ j = 18 ∨ j = 19 ∨ j = 20 ∨ j = 21 ∨ j = 22 ∨ j = 23 ∨ j = 24 ∨ j = 25 ∨ j = 26 ∨ j = 27 ∨ j = 28 ∨ j = 29 ∨ j = 30 ∨ j = 31 ∨ j = 32 by omega) with rfl | rfl | rfl | rfl | rfl | rfl | rfl | rfl | rfl | rfl | rfl | rfl | rfl | rfl | rfl | rfl | rfl | rfl | rfl | rfl | rfl | rfl | rfl | rfl | rfl | rfl | rfl | rfl | rfl | rfl | rfl | rfl | rfl <;> rfl) (Nat.le_of_ble_eq_true rfl) (Nat.le_of_ble_eq_true rfl) dL_law_8 (fun q2 H S => ?_)
  refine lv_dup hx hb dL_law_11 rfl ?_
  refine zs_callcR (Wf := cW8 G) S hA (zs_runIR C hK hN hA S [.ref q2] (c_X8_init l G q2 H.size) gL_law_X8_init rfl rfl rfl (List.mem_of_getElem? (i := 5) (by decide +kernel)) (List.mem_of_getElem? (i := 100) (by decide +kernel)) (List.mem_of_getElem? (i := 101) (by decide +kernel)) rfl zd_X8_init ⟨(Nat.le_of_ble_eq_true rfl), (Nat.le_of_ble_eq_true rfl)⟩ hl (Nat.le_of_ble_eq_true rfl) dL_law_12 ⟨(Nat.le_of_ble_eq_true rfl), (Nat.le_of_ble_eq_true rfl)⟩) (fun v H locs e1 S9 => ?_)
  subst e1
  refine lv_astore_n (lv' := [(2, .ref (v 0 0)), (1, .ref (u 0 0)), (0, .ref b)]) hx hb dL_law_15 rfl hl (by decide) rfl (fun ls hl => ?_)
  refine lv_iconst (v := (0 : Int32)) hx hb dL_law_16 (by decide) ?_
  refine lv_istore_n (lv' := [(3, .int (0 : Int32)), (2, .ref (v 0 0)), (1, .ref (u 0 0)), (0, .ref b)]) hx hb dL_law_17 rfl hl (by decide) rfl (fun ls hl => ?_)
  have hp := zs_pmB (Bs := [wX7 G (u 0) (u 1) (u 2) (u 4) (u 5) (u 6) (u 9) (u 10) (u 11) (u 12) zs_Z 0, wX8 G (v 0) zs_Md0 0, wX4 G (u 1) zs_Z, wX2 G (u 2) (u 3) zs_Z, wX5 G (u 3) zs_Z, wX1 G (u 4) zs_Z, wX3 G (u 5) zs_Z, wX0 G (u 6) (u 7) (u 8) zs_Z, wX1 G (u 7) zs_Z, wX6 G (u 8) Y0, wX1 G (u 9) zs_Z, wX1 G (u 10) zs_Z, wX6 G (u 11) Y0, wX6 G (u 12) Y0]) (Rs := [wX7 G (u 0) (u 1) (u 2) (u 4) (u 5) (u 6) (u 9) (u 10) (u 11) (u 12) zs_Z 0, wX4 G (u 1) zs_Z, wX2 G (u 2) (u 3) zs_Z, wX5 G (u 3) zs_Z, wX1 G (u 4) zs_Z, wX3 G (u 5) zs_Z, wX0 G (u 6) (u 7) (u 8) zs_Z, wX1 G (u 7) zs_Z, wX6 G (u 8) Y0, wX1 G (u 9) zs_Z, wX1 G (u 10) zs_Z, wX6 G (u 11) Y0, wX6 G (u 12) Y0]) (Cs := [wX8 G (v 0) zs_Md0 0]) 14 [0, 2, 3, 4, 5, 6, 7, 8, 9, 10, 11, 12, 13] [1] rfl rfl rfl (by decide +kernel)
  have ep : (zs_fl [wX7 G (u 0) (u 1) (u 2) (u 4) (u 5) (u 6) (u 9) (u 10) (u 11) (u 12) zs_Z 0, wX4 G (u 1) zs_Z, wX2 G (u 2) (u 3) zs_Z, wX5 G (u 3) zs_Z, wX1 G (u 4) zs_Z, wX3 G (u 5) zs_Z, wX0 G (u 6) (u 7) (u 8) zs_Z, wX1 G (u 7) zs_Z, wX6 G (u 8) Y0, wX1 G (u 9) zs_Z, wX1 G (u 10) zs_Z, wX6 G (u 11) Y0, wX6 G (u 12) Y0] ++ zs_fl [wX8 G (v 0) zs_Md0 0]) = cW7 G Y0 u ++ cW8 G v := by simp [zs_fl, cW7, cW8]
  rw [ep] at hp
  have S := zs_Sp S9 hp.symm
  refine W.widen (k := NCL) (n := NSL) (Nat.le_of_ble_eq_true rfl) (Nat.le_of_ble_eq_true rfl) ?_
  exact law_loop C0 G hK (u 0) (u 1) (u 2) (u 4) (u 5) (u 6) (u 9) (u 10) (v 0) (u 3) (u 7) (u 8) 1000 zs_Z 0 zs_Z zs_Z zs_Z zs_Z zs_Z zs_Z zs_Z Y0 zs_Z zs_Z Y0 Y0 zs_Md0 0 (u 11) (u 12) 0 _ _ _ S (lv_sub hl [3, 2, 1, 0] rfl) (hF (u 11) (u 12))
