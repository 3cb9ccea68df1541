/-! ===== the law's start: the classes' numbers, the arrays' classes, the words, then the two objects ===== -/
theorem zw_mem {w : Cond} (i : Nat) (h : lw_tbl[i]? = some w) : w ∈ lw_tbl := List.mem_of_getElem? h
def zw_tm (i : Nat) : Term := Term.string RX5 ([60, 66, 68, 70].getD i 0)
theorem zw_l4 {P : Nat → Prop} (h0 : P 0) (h1 : P 1) (h2 : P 2) (h3 : P 3) : ∀ k, k < 4 → P k := fun k hk => zs_l4 h0 h1 h2 h3 hk
set_option maxRecDepth 20000 in
theorem zw_env {p : Program} {s : State} {m : MethodId} {meth : Method} {c : Code} {b L : Nat} {xs : Nat → Int32} (C0 : lw_At p s m meth c b L xs) : ∃ G : GG, zs_K G s ∧ zs_V G (fun q => s.heap.size ≤ q) s s.heap ∧ zs_N s ∧ va_AO "SeenCools$Present" s := by
  obtain ⟨hx, hb, hr, hml, hown, hts, hX, hbl, hlocks, hgv⟩ := C0
  have hs := flat_of_before _ hgv
  obtain ⟨c0, i0, k0⟩ := u_known (C := RX0) (T := TX0) (N := 3) (n := 3) hts inX0 (hts (.instantiable RX0 3) (zw_mem 184 (by decide +kernel)))
  obtain ⟨c1, i1, k1⟩ := u_known (C := RX1) (T := TX1) (N := 8) (n := 8) hts inX1 (hts (.instantiable RX1 8) (zw_mem 123 (by decide +kernel)))
  obtain ⟨c2, i2, k2⟩ := u_known (C := RX2) (T := TX2) (N := 6) (n := 6) hts inX2 (hts (.instantiable RX2 6) (zw_mem 74 (by decide +kernel)))
  obtain ⟨c3, i3, k3⟩ := u_known (C := RX3) (T := TX3) (N := 4) (n := 4) hts inX3 (hts (.instantiable RX3 4) (zw_mem 164 (by decide +kernel)))
  obtain ⟨c4, i4, k4⟩ := u_known (C := RX4) (T := TX4) (N := 2) (n := 2) hts inX4 (hts (.instantiable RX4 2) (zw_mem 57 (by decide +kernel)))
  obtain ⟨c5, i5, k5⟩ := u_known (C := RX5) (T := TX5) (N := 4) (n := 4) hts inX5 (hts (.instantiable RX5 4) (zw_mem 80 (by decide +kernel)))
  obtain ⟨c6, i6, k6⟩ := u_known (C := RX6) (T := TX6) (N := 9) (n := 9) hts inX6 (hts (.instantiable RX6 9) (zw_mem 192 (by decide +kernel)))
  obtain ⟨c7, i7, k7⟩ := u_known (C := RX7) (T := TX7) (N := 10) (n := 10) hts inX7 (hts (.instantiable RX7 10) (zw_mem 49 (by decide +kernel)))
  obtain ⟨c8, i8, k8⟩ := u_known (C := RX8) (T := TX8) (N := 33) (n := 33) hts inX8 (hts (.instantiable RX8 33) (zw_mem 745 (by decide +kernel)))
  obtain ⟨dC, dI, hKc⟩ : ∃ (dC : Nat → ClassId) (dI : Nat → Nat → Nat), ∀ (k : Nat) (q : vw_C), vwCl[k]? = some q → u_Kn s q.1 q.2.1 q.2.2 (dC k) (dI k) := by
    refine ⟨fun k => if k = 0 then c0 else if k = 1 then c1 else if k = 2 then c2 else if k = 3 then c3 else if k = 4 then c4 else if k = 5 then c5 else if k = 6 then c6 else if k = 7 then c7 else c8, fun k => if k = 0 then i0 else if k = 1 then i1 else if k = 2 then i2 else if k = 3 then i3 else if k = 4 then i4 else if k = 5 then i5 else if k = 6 then i6 else if k = 7 then i7 else i8, ?_⟩
    intro k q hq
    match k, hq with
    | 0, hq => cases hq; exact k0
    | 1, hq => cases hq; exact k1
    | 2, hq => cases hq; exact k2
    | 3, hq => cases hq; exact k3
    | 4, hq => cases hq; exact k4
    | 5, hq => cases hq; exact k5
    | 6, hq => cases hq; exact k6
    | 7, hq => cases hq; exact k7
    | 8, hq => cases hq; exact k8
    | k + 9, hq => simp [vwCl] at hq
  obtain ⟨cI, kI, compI, a1, a2, a3⟩ := Cond.arrayClass_spec (hts (.arrayClass .int) (zw_mem 102 (by decide +kernel)))
  obtain ⟨cB, kB, compB, b1, b2, b3⟩ := Cond.arrayClass_spec (hts (.arrayClass .byte) (zw_mem 72 (by decide +kernel)))
  have hO := hts (.arrayOver (.object "SeenCools$Present")) (zw_mem 264 (by decide +kernel))
  obtain ⟨comp, cP, kP, o1, -, o3, o4, o5⟩ := Cond.arrayOver_spec hO
  have hA : ∀ a : Nat, a < s.heap.size → ¬ (fun q => s.heap.size ≤ q) a := fun a h => Nat.not_le.mpr h
  obtain ⟨adK, adV, hV, hT⟩ := vk_Sof (args := #[Value.ref b]) (s := s) (N := 4) (tm := zw_tm) (len := [4, 4, 4, 5]) (byt := [[119, 97, 108, 108], [115, 101, 101, 115], [119, 111, 114, 107], [108, 105, 109, 105, 116]]) (A := fun q => s.heap.size ≤ q)
    (zw_l4 (by decide) (by decide) (by decide) (by decide))
    (zw_l4 (hs _ (by decide +kernel)) (hs _ (by decide +kernel)) (hs _ (by decide +kernel)) (hs _ (by decide +kernel)))
    (zw_l4 (hs _ (by decide +kernel)) (hs _ (by decide +kernel)) (hs _ (by decide +kernel)) (hs _ (by decide +kernel)))
    (zw_l4 (hs _ (by decide +kernel)) (hs _ (by decide +kernel)) (hs _ (by decide +kernel)) (hs _ (by decide +kernel)))
    (zw_l4 (hs _ (by decide +kernel)) (hs _ (by decide +kernel)) (hs _ (by decide +kernel)) (hs _ (by decide +kernel)))
    (zw_l4 (fun j hj => by rcases (show j = 0 ∨ j = 1 ∨ j = 2 ∨ j = 3 by simp at hj; omega) with rfl | rfl | rfl | rfl <;> exact hs _ (by decide +kernel)) (fun j hj => by rcases (show j = 0 ∨ j = 1 ∨ j = 2 ∨ j = 3 by simp at hj; omega) with rfl | rfl | rfl | rfl <;> exact hs _ (by decide +kernel)) (fun j hj => by rcases (show j = 0 ∨ j = 1 ∨ j = 2 ∨ j = 3 by simp at hj; omega) with rfl | rfl | rfl | rfl <;> exact hs _ (by decide +kernel)) (fun j hj => by rcases (show j = 0 ∨ j = 1 ∨ j = 2 ∨ j = 3 ∨ j = 4 by simp at hj; omega) with rfl | rfl | rfl | rfl | rfl <;> exact hs _ (by decide +kernel)))
    (fun i j hi hj hij => by
      rcases (show i = 0 ∨ i = 1 ∨ i = 2 ∨ i = 3 by omega) with rfl | rfl | rfl | rfl <;> rcases (show j = 0 ∨ j = 1 ∨ j = 2 ∨ j = 3 by omega) with rfl | rfl | rfl | rfl <;> first | exact absurd rfl hij | exact Or.inl (hs _ (by decide +kernel)) | exact Or.inr (hs _ (by decide +kernel)))
    hA
  refine ⟨((dC, dI), cI, cB, cP, adK, adV), ⟨⟨hKc, fun k q hk => ?_⟩, ?_, ?_, ?_, ?_, ?_⟩, ⟨hV, ?_, ?_⟩, ⟨⟨?_, ?_, ?_⟩, ?_, ?_, ?_, ?_⟩, hO⟩
  · match k, hk with
    | 0, hk => cases hk; exact ⟨fun n z => ⟨fun k h => (by cases h), kI, a2, compI, a3⟩, a1⟩
    | 1, hk => cases hk; exact ⟨fun n z => ⟨fun k h => (by cases h), kB, b2, compB, b3⟩, b1⟩
    | 2, hk => cases hk; exact ⟨fun n z => ⟨fun k h => (by cases h), kP, o3, comp, o4⟩, kP, comp, o3, o4, o1, o5⟩
    | k + 3, hk => simp [zs_tys] at hk
  · exact va_Nw.of rfl (hts (.methodLinkNest RX1 53 yX7_bit "SeenCools") (zw_mem 499 (by decide +kernel)))
  · exact vk_R.of (hts (.stringRef RX5 60 "wall") (zw_mem 346 (by decide +kernel))) (hT 0 (by decide))
  · exact vk_R.of (hts (.stringRef RX5 66 "sees") (zw_mem 399 (by decide +kernel))) (hT 1 (by decide))
  · exact vk_R.of (hts (.stringRef RX5 68 "work") (zw_mem 400 (by decide +kernel))) (hT 2 (by decide))
  · exact vk_R.of (hts (.stringRef RX5 70 "limit") (zw_mem 401 (by decide +kernel))) (hT 3 (by decide))
  · exact va_Zof (hts (.laysStatic "java/lang/String" "COMPACT_STRINGS" "Z") (zw_mem 360 (by decide +kernel))) (hts (.initialized "java/lang/String") (zw_mem 42 (by decide +kernel))) (va_eqi (hs (.eq (.static "java/lang/String" "COMPACT_STRINGS" "Z") (.int 1)) (by decide +kernel))) hA
  · exact va_Zqof (hts (.laysStatic "jdk/internal/util/Preconditions" "SIOOBE_FORMATTER" "Ljava/util/function/BiFunction;") (zw_mem 376 (by decide +kernel))) (hts (.initialized "jdk/internal/util/Preconditions") (zw_mem 44 (by decide +kernel))) (hs (.isRef (.static "jdk/internal/util/Preconditions" "SIOOBE_FORMATTER" "Ljava/util/function/BiFunction;")) (by decide +kernel)) hA
  · exact va_Nw.of rfl (hts (.methodLinkNest RX0 11 yX1_init "SeenCools") (zw_mem 190 (by decide +kernel)))
  · exact va_Nw.of rfl (hts (.methodLinkNest RX2 11 yX5_init "SeenCools") (zw_mem 81 (by decide +kernel)))
  · exact va_Nw.of rfl (hts (.methodLinkNest RX7 11 yX4_init "SeenCools") (zw_mem 58 (by decide +kernel)))
  · exact va_Nw.of rfl (hts (.methodLinkNest RX7 18 yX2_init "SeenCools") (zw_mem 75 (by decide +kernel)))
  · exact va_Nw.of rfl (hts (.methodLinkNest RX7 25 yX1_init "SeenCools") (zw_mem 124 (by decide +kernel)))
  · exact va_Nw.of rfl (hts (.methodLinkNest RX7 32 yX3_init "SeenCools") (zw_mem 165 (by decide +kernel)))
  · exact va_Nw.of rfl (hts (.methodLinkNest RX7 39 yX0_init "SeenCools") (zw_mem 185 (by decide +kernel)))
/-! ===== worlds laid out of blocks: calls of the law ===== -/
def zs_fl (Bs : List va_W) : va_W := Bs.flatten
theorem zs_pmB {Bs Rs Cs : List va_W} (n : Nat) (ir ic : List Nat) (hn : Bs.length = n) (hr : ir.map (fun i => Bs[i]?) = Rs.map some) (hc : ic.map (fun i => Bs[i]?) = Cs.map some) (hp : (ir ++ ic).Perm (List.range n)) : (zs_fl Bs).Perm (zs_fl Rs ++ zs_fl Cs) := by
  have e1 : (List.range n).map (fun i => Bs[i]?) = Bs.map some := by
    apply List.ext_getElem?
    intro i
    rw [List.getElem?_map, List.getElem?_map]
    by_cases hi : i < n
    · rw [List.getElem?_range hi]
      have : i < Bs.length := by omega
      simp [List.getElem?_eq_getElem this]
    · have h1 : (List.range n)[i]? = none := List.getElem?_eq_none (by simp; omega)
      have h2 : Bs[i]? = none := List.getElem?_eq_none (by omega)
      rw [h1, h2]; rfl
  have e2 : (ir ++ ic).map (fun i => Bs[i]?) = (Rs ++ Cs).map some := by rw [List.map_append, List.map_append, hr, hc]
  have e3 : ((Rs ++ Cs).map some).Perm (Bs.map some) := by rw [← e1, ← e2]; exact hp.map _
  have e4 : (Rs ++ Cs).Perm Bs := by
    have := e3.filterMap id
    simpa [List.filterMap_map] using this
  have e5 := e4.flatten
  rw [List.flatten_append] at e5
  exact e5.symm
theorem zs_f1 (a : va_W) : zs_fl [a] = a := by simp [zs_fl]
theorem zs_f2 (a b : va_W) : zs_fl [a, b] = a ++ b := by simp [zs_fl]
theorem zs_f3 (a b c : va_W) : zs_fl [a, b, c] = a ++ b ++ c := by simp [zs_fl]
theorem zs_f4 (a b c d : va_W) : zs_fl [a, b, c, d] = a ++ b ++ c ++ d := by simp [zs_fl]
theorem zs_f5 (a b c d e : va_W) : zs_fl [a, b, c, d, e] = a ++ b ++ c ++ d ++ e := by simp [zs_fl]
theorem zs_f6 (a b c d e f : va_W) : zs_fl [a, b, c, d, e, f] = a ++ b ++ c ++ d ++ e ++ f := by simp [zs_fl]
theorem zs_f7 (a b c d e f g : va_W) : zs_fl [a, b, c, d, e, f, g] = a ++ b ++ c ++ d ++ e ++ f ++ g := by simp [zs_fl]
theorem zs_f8 (a b c d e f g h : va_W) : zs_fl [a, b, c, d, e, f, g, h] = a ++ b ++ c ++ d ++ e ++ f ++ g ++ h := by simp [zs_fl]
section ZL
variable {p : Program} {l : Launch} {e : Env} {R : Room} {s : State} {m : MethodId} {args : Array Value} {below : List Frame} {meth : Method} {c : Code} {H : Heap} {locs : List Loc} {cells slots : Nat} {Q : State → Prop}
variable {cc : ByteArray} {pc nL : Nat} {ret : Option FieldType} {Ts : List Cond} {own : String} {ls : Array Slot} {G : GG} {A : Nat → Prop}
/-- the rest of the world, and the called one's part -/
theorem zs_cut {Bs : List va_W} (S : zs_S G A s.heap H locs (zs_fl Bs)) (n : Nat) (ir ic : List Nat) {Rs Cs : List va_W} {wc : va_W} (hn : Bs.length = n) (hr : ir.map (fun i => Bs[i]?) = Rs.map some) (hc : ic.map (fun i => Bs[i]?) = Cs.map some) (hp : (ir ++ ic).Perm (List.range n)) (hwc : zs_fl Cs = wc) : zs_S G A s.heap H locs (zs_fl Rs ++ wc) := by
  rw [← hwc]; exact zs_Sp S (zs_pmB n ir ic hn hr hc hp)
theorem zs_lrun (C : zs_C p s m args meth c cc nL ret Ts own) (hK : zs_E G A s) (hA : ∀ q, s.heap.size ≤ q → A q) {Bs : List va_W} {wr wc : va_W} (S0 : zs_S G A s.heap H locs (zs_fl Bs)) (S : zs_S G A s.heap H locs (wr ++ wc)) (As rest : List Value) (q0 k : Nat) {y : MethodName} {bytes : ByteArray} {maxL : Nat} {rt : Option FieldType} {wl wl' : List Cond} {rm : Room} {Qc : Array Value → State → Outcome → State → Prop} {free : Addr → Prop} {Cn : String} {T : u_T} {N ci index b : Nat} {fs st : List Value} {lv : List (Nat × Value)}
    (hM : Met l y wl rm (va_Pc (.ref b :: As) (zs_pre G wc H.size)) Qc 0 0 free) (hG : GoodIn Ts (wsV own index Cn y wl)) (hwl : wl = Cond.code y bytes maxL rt :: wl') (hrc : rm.cells = 0) (hrs : rm.slots = 0) (hd : y.cls = Cn ∧ y.cls ≠ "java/lang/invoke/MethodHandle" ∧ y.cls ≠ "java/lang/invoke/VarHandle" ∧ (parseMethodDescriptor y.desc).map (fun d => d.parameters.length) = some k) (hR : rm.frames + 1 ≤ R.frames ∧ 8 + (maxL + 11) + rm.locals ≤ R.locals)
    (he : (zs_fl Bs)[q0]? = some (b, .inr (ci, fs))) (hc : vwCl[ci]? = some (Cn, T, N)) (hlen : As.length = k) (hlv : lv_has ls nL lv) (hst : st = As.reverse ++ .ref b :: rest) (hW : (rest.map fun v => v.category).sum ≤ 8) (hdg : decode cc pc = .ok (.invokevirtual index, 3)) (hf : cells + 0 ≤ R.cells ∧ slots + 0 ≤ R.slots) :
    va_Run p l e R s m args below meth c H locs cells slots 0 0 (F0 m pc ls st) rest (Qc (Value.ref b :: As).toArray) free :=
  va_runV C.1 hM (cwV k C.1.2.2.2.2 hG hwl hrc hrs hd hR) ⟨zs_blind, va_recv (q := (Cn, T, N)) hK.1.1 S0.1 hc he, (zs_prSR hK hA S).2⟩ rfl hlen hlv.1 hst (lv_room hW) hdg hf
theorem zs_li {Bs' Rs Cs' : List va_W} {a : Array Value} {st0 rest : List Value} {wc wc' : va_W} {r : Int32} (S : zs_S G A s.heap H locs (zs_fl Rs ++ wc)) (hA : ∀ q, s.heap.size ≤ q → A q) (n : Nat) (ir ic : List Nat) (hr : va_Run p l e R s m args below meth c H locs cells slots 0 0 (F0 m pc ls st0) rest (zs_Qi G wc' r (va_A wc H.size) a) (va_A wc H.size))
    (hwc : zs_fl Cs' = wc') (hn : Bs'.length = n) (hR : ir.map (fun i => Bs'[i]?) = Rs.map some) (hC : ic.map (fun i => Bs'[i]?) = Cs'.map some) (hp : (ir ++ ic).Perm (List.range n))
    (kk : ∀ (H1 : Heap) (locs1 : List Loc), zs_S G A s.heap H1 locs1 (zs_fl Bs') → W p l e R s m args below meth c H1 locs1 cells slots Q (F0 m (pc + 3) ls (.int r :: rest))) : W p l e R s m args below meth c H locs cells slots Q (F0 m pc ls st0) :=
  va_calli hr S.2.2 (fun q _ h => zs_freeR S hA q h) (zs_freeR S hA) (fun _ _ _ H1 locs1 ht _ hw hB _ hk1 hS1 => by
    subst hw
    obtain ⟨hP1, hD1⟩ := hB
    rw [ht] at hP1
    have S1 := zs_backR S hA hP1 hD1 hk1 hS1
    rw [← hwc] at S1
    exact kk H1 locs1 (zs_Sp S1 (zs_pmB n ir ic hn hR hC hp).symm))
theorem zs_ll {Bs' Rs Cs' : List va_W} {a : Array Value} {st0 rest : List Value} {wc wc' : va_W} {r : Int64} (S : zs_S G A s.heap H locs (zs_fl Rs ++ wc)) (hA : ∀ q, s.heap.size ≤ q → A q) (n : Nat) (ir ic : List Nat) (hr : va_Run p l e R s m args below meth c H locs cells slots 0 0 (F0 m pc ls st0) rest (zs_Ql G wc' r (va_A wc H.size) a) (va_A wc H.size))
    (hwc : zs_fl Cs' = wc') (hn : Bs'.length = n) (hR : ir.map (fun i => Bs'[i]?) = Rs.map some) (hC : ic.map (fun i => Bs'[i]?) = Cs'.map some) (hp : (ir ++ ic).Perm (List.range n))
    (kk : ∀ (H1 : Heap) (locs1 : List Loc), zs_S G A s.heap H1 locs1 (zs_fl Bs') → W p l e R s m args below meth c H1 locs1 cells slots Q (F0 m (pc + 3) ls (.long r :: rest))) : W p l e R s m args below meth c H locs cells slots Q (F0 m pc ls st0) :=
  va_calll hr S.2.2 (fun q _ h => zs_freeR S hA q h) (zs_freeR S hA) (fun _ _ _ H1 locs1 ht _ hw hB _ hk1 hS1 => by
    subst hw
    obtain ⟨hP1, hD1⟩ := hB
    rw [ht] at hP1
    have S1 := zs_backR S hA hP1 hD1 hk1 hS1
    rw [← hwc] at S1
    exact kk H1 locs1 (zs_Sp S1 (zs_pmB n ir ic hn hR hC hp).symm))
end ZL
