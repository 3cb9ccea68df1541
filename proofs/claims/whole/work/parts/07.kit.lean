/-! MY TOOLS: an object's numbers are a function of (row, place); worlds are laid out of objects; the kit's rows over them -/
abbrev Ob : Type := Nat → Nat → Int32
abbrev Ad : Type := Nat → Nat
/-- the classes' numbers, the array classes' numbers (ints, bytes, Presents), where the string constants lie -/
abbrev GG : Type := va_G × (ClassId × (ClassId × (ClassId × (Ad × Ad))))
def zs_up (P : Ob) (c i : Nat) (v : Int32) : Ob := fun c' => if c' = c then upd (P c) i v else P c'
def zs_tys (G : GG) : List (ClassId × FieldType) := [(G.2.1, .int), (G.2.2.1, .byte), (G.2.2.2.1, .object "SeenCools$Present")]
def zs_K (G : GG) (U : State) : Prop := va_K G.1 vwCl (zs_tys G) U ∧ va_Nw (.methodLinkNest RX1 53 yX7_bit "SeenCools") U ∧ (vk_R RX5 60 "wall" (G.2.2.2.2.1 0) U ∧ vk_R RX5 66 "sees" (G.2.2.2.2.1 1) U ∧ vk_R RX5 68 "work" (G.2.2.2.2.1 2) U ∧ vk_R RX5 70 "limit" (G.2.2.2.2.1 3) U)
/-- what lies in the heap and nobody writes: the four words, String's switch, a formatter -/
def zs_V (G : GG) (A : Nat → Prop) (U : State) (H : Heap) : Prop := vk_S 4 [4, 4, 4, 5] [[119, 97, 108, 108], [115, 101, 101, 115], [119, 111, 114, 107], [108, 105, 109, 105, 116]] G.2.2.2.2.1 G.2.2.2.2.2 A U H ∧ va_Z "java/lang/String" "COMPACT_STRINGS" "Z" (.int 1) A U H ∧ va_Zq "jdk/internal/util/Preconditions" "SIOOBE_FORMATTER" "Ljava/util/function/BiFunction;" A U H
theorem zs_V.moved {G : GG} {A : Nat → Prop} {u U : State} {H : Heap} (hvm : u.vm.Alike U.vm) (h : zs_V G A u H) : zs_V G A U H := ⟨h.1.moved hvm, h.2.1.moved hvm, h.2.2.moved hvm⟩
theorem zs_V.kept {G : GG} {A : Nat → Prop} {U : State} {H H1 : Heap} (h : zs_V G A U H) (hq : ∀ a : Nat, a < H.size → ¬ A a → H1[a]? = H[a]?) : zs_V G A U H1 := ⟨h.1.kept hq, h.2.1.kept hq, h.2.2.kept hq⟩
theorem zs_V.narrow {G : GG} {A B : Nat → Prop} {U : State} {H : Heap} (h : zs_V G A U H) (hAB : ∀ q, B q → A q) : zs_V G B U H := ⟨h.1.narrow hAB, h.2.1.narrow hAB, h.2.2.narrow hAB⟩
def zs_E (G : GG) (A : Nat → Prop) (s : State) : Prop := zs_K G s ∧ zs_V G A s s.heap
theorem zs_K.warm {G : GG} {s U : State} (hW : s.WarmedH U.vm) (h : zs_K G s) : zs_K G U := ⟨va_K.moved hW.alike h.1, va_Nw.warmM hW h.2.1, h.2.2.1.warm hW, h.2.2.2.1.warm hW, h.2.2.2.2.1.warm hW, h.2.2.2.2.2.warm hW⟩
theorem zs_K.call {G : GG} {U : State} {g : JFrame} {mk : MethodId} {a : Array Value} (h : zs_K G U) : zs_K G (U.calling g mk a) := ⟨va_K.moved (u := U) (U := U.calling g mk a) (Vm.Alike.refl U.vm) h.1, va_Nw.same (u := U) (U := U.calling g mk a) rfl rfl h.2.1, vk_R.same (u := U) (U := U.calling g mk a) rfl h.2.2.1, vk_R.same (u := U) (U := U.calling g mk a) rfl h.2.2.2.1, vk_R.same (u := U) (U := U.calling g mk a) rfl h.2.2.2.2.1, vk_R.same (u := U) (U := U.calling g mk a) rfl h.2.2.2.2.2⟩
def zs_S (G : GG) (A : Nat → Prop) (H0 H : Heap) (locs : List Loc) (ws : va_W) : Prop := va_P G.1 vwCl ws H ∧ va_D A ws ∧ va_S A H0 H locs
def zs_C (p : Program) (s : State) (m : MethodId) (args : Array Value) (meth : Method) (c : Code) (cc : ByteArray) (nL : Nat) (ret : Option FieldType) (Ts : List Cond) (own : String) : Prop :=
  CallFix p m c cc nL s args Ts own ∧ meth.sig.returnType = ret ∧ meth.locks = false
def zs_pre (G : GG) (w : va_W) (sz : Nat) : State → Prop := fun U => U.heap.size = sz ∧ va_P G.1 vwCl w U.heap ∧ zs_K G U ∧ va_D (fun _ => True) w ∧ zs_V G (va_A w sz) U U.heap
def zs_B (G : GG) (A : Nat → Prop) (w : va_W) : Unit → State → Prop := fun _ t => va_P G.1 vwCl w t.heap ∧ va_D A w
def zs_Qi (G : GG) (w : va_W) (r : Int32) (A : Nat → Prop) : Array Value → State → Outcome → State → Prop := va_Qi (fun (r' : Int32) (_ : Unit) => r' = r) (zs_B G A w) A
def zs_Ql (G : GG) (w : va_W) (r : Int64) (A : Nat → Prop) : Array Value → State → Outcome → State → Prop := va_Ql (fun (r' : Int64) (_ : Unit) => r' = r) (zs_B G A w) A
def zs_Qv (G : GG) (w : va_W) (A : Nat → Prop) : Array Value → State → Outcome → State → Prop := va_Qv (fun (_ : Unit) => True) (zs_B G A w) A
/-! a program of options -/
def zs_ck {α : Type} (i : Int32) (n : Nat) (k : Option α) : Option α := if i < 0 ∨ n ≤ i.toNatClampNeg then none else k
def zs_nz {α : Type} (d : Int32) (k : Option α) : Option α := if d = 0 then none else k
def zs_bd {α β : Type} (x : Option α) (k : α → Option β) : Option β := match x with
  | none => none
  | some a => k a
def zs_b2 {α α2 β : Type} (x : Option (α × α2)) (k : α → α2 → Option β) : Option β := match x with
  | none => none
  | some a => k a.1 a.2
def zs_b3 {α α2 α3 β : Type} (x : Option (α × (α2 × α3))) (k : α → α2 → α3 → Option β) : Option β := match x with
  | none => none
  | some a => k a.1 a.2.1 a.2.2
def zs_b4 {α α2 α3 α4 β : Type} (x : Option (α × (α2 × (α3 × α4)))) (k : α → α2 → α3 → α4 → Option β) : Option β := match x with
  | none => none
  | some a => k a.1 a.2.1 a.2.2.1 a.2.2.2
def zs_b11 {α0 α1 α2 α3 α4 α5 α6 α7 α8 α9 α10 β : Type} (x : Option (α0 × (α1 × (α2 × (α3 × (α4 × (α5 × (α6 × (α7 × (α8 × (α9 × α10))))))))))) (k : α0 → α1 → α2 → α3 → α4 → α5 → α6 → α7 → α8 → α9 → α10 → Option β) : Option β := match x with
  | none => none
  | some a => k a.1 a.2.1 a.2.2.1 a.2.2.2.1 a.2.2.2.2.1 a.2.2.2.2.2.1 a.2.2.2.2.2.2.1 a.2.2.2.2.2.2.2.1 a.2.2.2.2.2.2.2.2.1 a.2.2.2.2.2.2.2.2.2.1 a.2.2.2.2.2.2.2.2.2.2
theorem zs_b11S {α0 α1 α2 α3 α4 α5 α6 α7 α8 α9 α10 β : Type} {x : Option (α0 × (α1 × (α2 × (α3 × (α4 × (α5 × (α6 × (α7 × (α8 × (α9 × α10))))))))))} {k : α0 → α1 → α2 → α3 → α4 → α5 → α6 → α7 → α8 → α9 → α10 → Option β} {r : β} (h : zs_b11 x k = some r) : ∃ a0 a1 a2 a3 a4 a5 a6 a7 a8 a9 a10, x = some (a0, (a1, (a2, (a3, (a4, (a5, (a6, (a7, (a8, (a9, a10)))))))))) ∧ k a0 a1 a2 a3 a4 a5 a6 a7 a8 a9 a10 = some r := by
  cases x with
  | none => cases h
  | some a => exact ⟨a.1, a.2.1, a.2.2.1, a.2.2.2.1, a.2.2.2.2.1, a.2.2.2.2.2.1, a.2.2.2.2.2.2.1, a.2.2.2.2.2.2.2.1, a.2.2.2.2.2.2.2.2.1, a.2.2.2.2.2.2.2.2.2.1, a.2.2.2.2.2.2.2.2.2.2, rfl, h⟩
def zs_let {α β : Type} (x : α) (k : α → β) : β := k x
/-- so many turns of a loop -/
def zs_fix {α : Type} (bot : α) (step : α → α) : Nat → α
  | 0 => bot
  | n + 1 => step (zs_fix bot step n)
theorem zs_t {α : Type} {c : Prop} [Decidable c] {x y : Option α} {r : α} (h : (if c then x else y) = some r) (hc : c) : x = some r := by rw [if_pos hc] at h; exact h
theorem zs_f {α : Type} {c : Prop} [Decidable c] {x y : Option α} {r : α} (h : (if c then x else y) = some r) (hc : ¬ c) : y = some r := by rw [if_neg hc] at h; exact h
theorem zs_ckS {α : Type} {i : Int32} {n : Nat} {k : Option α} {r : α} (h : zs_ck i n k = some r) : vp_in i n ∧ k = some r := by
  unfold zs_ck at h
  by_cases hc : i < 0 ∨ n ≤ i.toNatClampNeg
  · rw [if_pos hc] at h; cases h
  · rw [if_neg hc] at h; exact ⟨hc, h⟩
theorem zs_nzS {α : Type} {d : Int32} {k : Option α} {r : α} (h : zs_nz d k = some r) : (¬ d = 0) ∧ k = some r := by
  unfold zs_nz at h
  by_cases hc : d = 0
  · rw [if_pos hc] at h; cases h
  · rw [if_neg hc] at h; exact ⟨hc, h⟩
theorem zs_bdS {α β : Type} {x : Option α} {k : α → Option β} {r : β} (h : zs_bd x k = some r) : ∃ a, x = some a ∧ k a = some r := by
  cases x with
  | none => cases h
  | some a => exact ⟨a, rfl, h⟩
theorem zs_b2S {α α2 β : Type} {x : Option (α × α2)} {k : α → α2 → Option β} {r : β} (h : zs_b2 x k = some r) : ∃ a a2, x = some (a, a2) ∧ k a a2 = some r := by
  cases x with
  | none => cases h
  | some a => exact ⟨a.1, a.2, rfl, h⟩
theorem zs_b3S {α α2 α3 β : Type} {x : Option (α × (α2 × α3))} {k : α → α2 → α3 → Option β} {r : β} (h : zs_b3 x k = some r) : ∃ a a2 a3, x = some (a, (a2, a3)) ∧ k a a2 a3 = some r := by
  cases x with
  | none => cases h
  | some a => exact ⟨a.1, a.2.1, a.2.2, rfl, h⟩
theorem zs_b4S {α α2 α3 α4 β : Type} {x : Option (α × (α2 × (α3 × α4)))} {k : α → α2 → α3 → α4 → Option β} {r : β} (h : zs_b4 x k = some r) : ∃ a a2 a3 a4, x = some (a, (a2, (a3, a4))) ∧ k a a2 a3 a4 = some r := by
  cases x with
  | none => cases h
  | some a => exact ⟨a.1, a.2.1, a.2.2.1, a.2.2.2, rfl, h⟩
theorem zs_letS {α β : Type} {x y : α} {k : α → Option β} {r : β} (h : zs_let x k = some r) (e : y = x) : k y = some r := by rw [e]; exact h
/-- a number that is a truth value -/
def zs_bl {α : Type} (b : Int32) (k : Option α) : Option α := if b = 0 ∨ b = 1 then k else none
theorem zs_blS {α : Type} {b : Int32} {k : Option α} {r : α} (h : zs_bl b k = some r) : (b = 0 ∨ b = 1) ∧ k = some r := by
  unfold zs_bl at h
  by_cases hc : b = 0 ∨ b = 1
  · rw [if_pos hc] at h; exact ⟨hc, h⟩
  · rw [if_neg hc] at h; cases h
theorem zs_bln {b : Int32} (h : b = 0 ∨ b = 1) : narrow .boolean (.int b) = .int b := by rcases h with rfl | rfl <;> rfl
theorem zs_s1 {α : Type} {a b : α} (h : some a = some b) : a = b := Option.some.inj h
theorem zs_s2 {α β : Type} {a b : α} {x y : β} (h : some (a, x) = some (b, y)) : a = b ∧ x = y := by cases h; exact ⟨rfl, rfl⟩
theorem zs_s3 {α β γ : Type} {a b : α} {x y : β} {u v : γ} (h : some (a, (x, u)) = some (b, (y, v))) : a = b ∧ x = y ∧ u = v := by cases h; exact ⟨rfl, rfl, rfl⟩
theorem zs_s4 {α β γ δ : Type} {a b : α} {x y : β} {u v : γ} {z w : δ} (h : some (a, (x, (u, z))) = some (b, (y, (v, w)))) : a = b ∧ x = y ∧ u = v ∧ z = w := by cases h; exact ⟨rfl, rfl, rfl, rfl⟩
theorem zs_s5 {α0 α1 α2 α3 α4 : Type} {a0 b0 : α0} {a1 b1 : α1} {a2 b2 : α2} {a3 b3 : α3} {a4 b4 : α4} (h : some (a0, (a1, (a2, (a3, a4)))) = some (b0, (b1, (b2, (b3, b4))))) : a0 = b0 ∧ a1 = b1 ∧ a2 = b2 ∧ a3 = b3 ∧ a4 = b4 := by cases h; exact ⟨rfl, rfl, rfl, rfl, rfl⟩
theorem zs_s6 {α0 α1 α2 α3 α4 α5 : Type} {a0 b0 : α0} {a1 b1 : α1} {a2 b2 : α2} {a3 b3 : α3} {a4 b4 : α4} {a5 b5 : α5} (h : some (a0, (a1, (a2, (a3, (a4, a5))))) = some (b0, (b1, (b2, (b3, (b4, b5)))))) : a0 = b0 ∧ a1 = b1 ∧ a2 = b2 ∧ a3 = b3 ∧ a4 = b4 ∧ a5 = b5 := by cases h; exact ⟨rfl, rfl, rfl, rfl, rfl, rfl⟩
theorem zs_s7 {α0 α1 α2 α3 α4 α5 α6 : Type} {a0 b0 : α0} {a1 b1 : α1} {a2 b2 : α2} {a3 b3 : α3} {a4 b4 : α4} {a5 b5 : α5} {a6 b6 : α6} (h : some (a0, (a1, (a2, (a3, (a4, (a5, a6)))))) = some (b0, (b1, (b2, (b3, (b4, (b5, b6))))))) : a0 = b0 ∧ a1 = b1 ∧ a2 = b2 ∧ a3 = b3 ∧ a4 = b4 ∧ a5 = b5 ∧ a6 = b6 := by cases h; exact ⟨rfl, rfl, rfl, rfl, rfl, rfl, rfl⟩
theorem zs_s8 {α0 α1 α2 α3 α4 α5 α6 α7 : Type} {a0 b0 : α0} {a1 b1 : α1} {a2 b2 : α2} {a3 b3 : α3} {a4 b4 : α4} {a5 b5 : α5} {a6 b6 : α6} {a7 b7 : α7} (h : some (a0, (a1, (a2, (a3, (a4, (a5, (a6, a7))))))) = some (b0, (b1, (b2, (b3, (b4, (b5, (b6, b7)))))))) : a0 = b0 ∧ a1 = b1 ∧ a2 = b2 ∧ a3 = b3 ∧ a4 = b4 ∧ a5 = b5 ∧ a6 = b6 ∧ a7 = b7 := by cases h; exact ⟨rfl, rfl, rfl, rfl, rfl, rfl, rfl, rfl⟩
theorem zs_s9 {α0 α1 α2 α3 α4 α5 α6 α7 α8 : Type} {a0 b0 : α0} {a1 b1 : α1} {a2 b2 : α2} {a3 b3 : α3} {a4 b4 : α4} {a5 b5 : α5} {a6 b6 : α6} {a7 b7 : α7} {a8 b8 : α8} (h : some (a0, (a1, (a2, (a3, (a4, (a5, (a6, (a7, a8)))))))) = some (b0, (b1, (b2, (b3, (b4, (b5, (b6, (b7, b8))))))))) : a0 = b0 ∧ a1 = b1 ∧ a2 = b2 ∧ a3 = b3 ∧ a4 = b4 ∧ a5 = b5 ∧ a6 = b6 ∧ a7 = b7 ∧ a8 = b8 := by cases h; exact ⟨rfl, rfl, rfl, rfl, rfl, rfl, rfl, rfl, rfl⟩
theorem zs_s10 {α0 α1 α2 α3 α4 α5 α6 α7 α8 α9 : Type} {a0 b0 : α0} {a1 b1 : α1} {a2 b2 : α2} {a3 b3 : α3} {a4 b4 : α4} {a5 b5 : α5} {a6 b6 : α6} {a7 b7 : α7} {a8 b8 : α8} {a9 b9 : α9} (h : some (a0, (a1, (a2, (a3, (a4, (a5, (a6, (a7, (a8, a9))))))))) = some (b0, (b1, (b2, (b3, (b4, (b5, (b6, (b7, (b8, b9)))))))))) : a0 = b0 ∧ a1 = b1 ∧ a2 = b2 ∧ a3 = b3 ∧ a4 = b4 ∧ a5 = b5 ∧ a6 = b6 ∧ a7 = b7 ∧ a8 = b8 ∧ a9 = b9 := by cases h; exact ⟨rfl, rfl, rfl, rfl, rfl, rfl, rfl, rfl, rfl, rfl⟩
theorem zs_s11 {α0 α1 α2 α3 α4 α5 α6 α7 α8 α9 α10 : Type} {a0 b0 : α0} {a1 b1 : α1} {a2 b2 : α2} {a3 b3 : α3} {a4 b4 : α4} {a5 b5 : α5} {a6 b6 : α6} {a7 b7 : α7} {a8 b8 : α8} {a9 b9 : α9} {a10 b10 : α10} (h : some (a0, (a1, (a2, (a3, (a4, (a5, (a6, (a7, (a8, (a9, a10)))))))))) = some (b0, (b1, (b2, (b3, (b4, (b5, (b6, (b7, (b8, (b9, b10))))))))))) : a0 = b0 ∧ a1 = b1 ∧ a2 = b2 ∧ a3 = b3 ∧ a4 = b4 ∧ a5 = b5 ∧ a6 = b6 ∧ a7 = b7 ∧ a8 = b8 ∧ a9 = b9 ∧ a10 = b10 := by cases h; exact ⟨rfl, rfl, rfl, rfl, rfl, rfl, rfl, rfl, rfl, rfl, rfl⟩
/-! a switch over 0 .. n-1 -/
theorem zs_ne {x : Int32} {n : Nat} (hn : n < 2 ^ 31) (h : ¬ x = nI n) : x.toInt ≠ (n : Int) := fun e => h (Int32.toInt_inj.mp (by rw [e, nI_toInt hn]))
theorem zs_sw4 {x : Int32} (h0 : ¬ x = (0 : Int32)) (h1 : ¬ x = (1 : Int32)) (h2 : ¬ x = (2 : Int32)) (h3 : ¬ x = (3 : Int32)) : x.toInt < 0 ∨ (3 : Int) < x.toInt := by
  have e0 := zs_ne (n := 0) (by decide) h0
  have e1 := zs_ne (n := 1) (by decide) h1
  have e2 := zs_ne (n := 2) (by decide) h2
  have e3 := zs_ne (n := 3) (by decide) h3
  omega
theorem zs_sw5 {x : Int32} (h0 : ¬ x = (0 : Int32)) (h1 : ¬ x = (1 : Int32)) (h2 : ¬ x = (2 : Int32)) (h3 : ¬ x = (3 : Int32)) (h4 : ¬ x = (4 : Int32)) : x.toInt < 0 ∨ (4 : Int) < x.toInt := by
  have e0 := zs_ne (n := 0) (by decide) h0
  have e1 := zs_ne (n := 1) (by decide) h1
  have e2 := zs_ne (n := 2) (by decide) h2
  have e3 := zs_ne (n := 3) (by decide) h3
  have e4 := zs_ne (n := 4) (by decide) h4
  omega
theorem zs_sw6 {x : Int32} (h0 : ¬ x = (0 : Int32)) (h1 : ¬ x = (1 : Int32)) (h2 : ¬ x = (2 : Int32)) (h3 : ¬ x = (3 : Int32)) (h4 : ¬ x = (4 : Int32)) (h5 : ¬ x = (5 : Int32)) : x.toInt < 0 ∨ (5 : Int) < x.toInt := by
  have e0 := zs_ne (n := 0) (by decide) h0
  have e1 := zs_ne (n := 1) (by decide) h1
  have e2 := zs_ne (n := 2) (by decide) h2
  have e3 := zs_ne (n := 3) (by decide) h3
  have e4 := zs_ne (n := 4) (by decide) h4
  have e5 := zs_ne (n := 5) (by decide) h5
  omega
theorem zs_sw7 {x : Int32} (h0 : ¬ x = (0 : Int32)) (h1 : ¬ x = (1 : Int32)) (h2 : ¬ x = (2 : Int32)) (h3 : ¬ x = (3 : Int32)) (h4 : ¬ x = (4 : Int32)) (h5 : ¬ x = (5 : Int32)) (h6 : ¬ x = (6 : Int32)) : x.toInt < 0 ∨ (6 : Int) < x.toInt := by
  have e0 := zs_ne (n := 0) (by decide) h0
  have e1 := zs_ne (n := 1) (by decide) h1
  have e2 := zs_ne (n := 2) (by decide) h2
  have e3 := zs_ne (n := 3) (by decide) h3
  have e4 := zs_ne (n := 4) (by decide) h4
  have e5 := zs_ne (n := 5) (by decide) h5
  have e6 := zs_ne (n := 6) (by decide) h6
  omega
theorem zs_sw1_4 {x : Int32} (h1 : ¬ x = (1 : Int32)) (h2 : ¬ x = (2 : Int32)) (h3 : ¬ x = (3 : Int32)) (h4 : ¬ x = (4 : Int32)) : x.toInt < 1 ∨ (4 : Int) < x.toInt := by
  have e1 := zs_ne (n := 1) (by decide) h1
  have e2 := zs_ne (n := 2) (by decide) h2
  have e3 := zs_ne (n := 3) (by decide) h3
  have e4 := zs_ne (n := 4) (by decide) h4
  omega
theorem zs_sub {D : va_G} {cl : List vw_C} {ws ws' : va_W} {H : Heap} (h : va_P D cl ws H) (is : List Nat) (hs : is.map (fun i => ws[i]?) = ws'.map some) : va_P D cl ws' H := by
  intro k q hk
  have h1 : (is.map (fun i => ws[i]?))[k]? = some (some q) := by rw [hs, List.getElem?_map, hk]; rfl
  rw [List.getElem?_map] at h1
  cases hi : is[k]? with
  | none => rw [hi] at h1; cases h1
  | some i => rw [hi] at h1; exact h i q (Option.some.inj h1)
theorem zs_blind {G : GG} {w : va_W} {sz : Nat} {av : List Value} : FrameBlind (va_Pc av (zs_pre G w sz)) := fun _ _ _ _ q => by
  obtain ⟨q0, q1, qP, qK, qD, qV⟩ := q
  exact ⟨q0, q1, qP, qK.call, qD, zs_V.moved (Vm.Alike.refl _) qV⟩
/-- the entry -/
theorem zs_met {l : Launch} {y : MethodName} {wl wl' : List Cond} {rm : Room} {G : GG} {w0 : va_W} {sz : Nat} {av : List Value} {Qc : (Nat → Prop) → Array Value → State → Outcome → State → Prop} {mc ms : Nat} {cc : ByteArray} {maxL : Nat} {ret : Option FieldType} {own : String}
    (hy : plainName y.cls = true) (hw : wl = Cond.code y cc maxL ret :: wl') (hown : y.cls = own) (hlen : (lg_sl av).length ≤ maxL)
    (body : ∀ p e s m args below meth c, zs_C p s m args meth c cc maxL ret wl own → ∀ A : Nat → Prop, zs_E G A s → (∀ q, s.heap.size ≤ q → A q) → zs_S G A s.heap s.heap [] w0 → s.heap.size = sz → (y.name = "<init>" → meth.name = "<init>") →
      ∀ ls, lv_has ls maxL (lv_args 0 av) → W p l e rm s m args below meth c s.heap [] 0 0 (MQ below (Qc A) args s mc ms A) (F0 m 0 ls [])) :
    Met l y wl rm (va_Pc av (zs_pre G w0 sz)) (Qc (va_A w0 sz)) mc ms (va_A w0 sz) := by
  refine Met.ofW (cc := cc) (maxL := maxL) (ret := ret) hy hw ?_
  intro p e s m args below meth c s₁ B hml hv
  obtain ⟨rfl, hsz, hP, hK, hD0, hV⟩ := hv
  have hD := hD0.self (sz := sz)
  have hl := lv_entry av (n := maxL) hlen
  rw [lg_entry_eq]
  exact body p e s m av.toArray below meth c ⟨⟨B.exec, B.bytes, hml, by rw [← hown]; exact findClass_of_methodNamed B.named, atoms_spec (ws := wl) B.pre⟩, B.returns, B.notSynchronized⟩ (va_A w0 sz) ⟨hK, hV⟩ (fun q h => Or.inr (by rw [← hsz]; exact h)) ⟨hP, hD, va_S.rf⟩ hsz (fun h => by rw [← h]; exact (name_of_methodNamed B.named B.method).1) _ hl
section ZS
variable {p : Program} {l : Launch} {e : Env} {R : Room} {s : State} {m : MethodId} {args : Array Value} {below : List Frame} {meth : Method} {c : Code} {H H0 : Heap} {locs : List Loc} {cells slots : Nat} {Q : State → Prop}
variable {cc : ByteArray} {pc nL : Nat} {ret : Option FieldType} {Ts : List Cond} {own : String} {ls : Array Slot} {rest : List Value} {G : GG} {A : Nat → Prop} {ws : va_W}
theorem zs_get (C : zs_C p s m args meth c cc nL ret Ts own) (hK : zs_E G A s) (S : zs_S G A H0 H locs ws) (q0 k : Nat) {Cn : String} {T : u_T} {N ci index a : Nat} {fs : List Value} {v : Value} (he : ws[q0]? = some (a, .inr (ci, fs))) (hc : vwCl[ci]? = some (Cn, T, N)) (hk : k < N) (hin : ∀ w ∈ u_ws Cn T N, w ∈ Ts) (hl : Cond.fieldLink own index (T k).1 (T k).2.1 (T k).2.2.1 ∈ Ts) (hv : fs[k]? = some v) (hdg : decode cc pc = .ok (.getfield index, 3))
    (kk : W p l e R s m args below meth c H locs cells slots Q (F0 m (pc + 3) ls (v :: rest))) : W p l e R s m args below meth c H locs cells slots Q (F0 m pc ls (.ref a :: rest)) :=
  va_get C.1.1 C.1.2.1 C.1.2.2.2.2 hin C.1.2.2.2.1 hK.1.1 S.1 q0 he hc k hk (C.1.2.2.2.2 _ hl) (fun _ h => h) hv hdg kk
theorem zs_put (C : zs_C p s m args meth c cc nL ret Ts own) (hK : zs_E G A s) (S : zs_S G A H0 H locs ws) (q0 k : Nat) {Cn : String} {T : u_T} {N ci index a : Nat} {fs : List Value} {v : Value} {ty : Nat → FieldType} {ws' : va_W} (he : ws[q0]? = some (a, .inr (ci, fs))) (hc : vwCl[ci]? = some (Cn, T, N)) (hk : k < N) (hin : ∀ w ∈ u_ws Cn T N, w ∈ Ts) (hty : ∀ k, k < N → parseFieldDescriptor (T k).2.2.1 = some (ty k)) (hnm : ∀ a, a < N → ∀ b, b < N → a ≠ b → (T a).2.1 ≠ (T b).2.1) (hl : Cond.fieldLink own index (T k).1 (T k).2.1 (T k).2.2.1 ∈ Ts) (hfin : (T k).2.2.2 = false) (hn : narrow (ty k) v = v) (hfit : fits (ty k) v = true) (hlen : k < fs.length) (hw : ws.set q0 (a, .inr (ci, fs.set k v)) = ws') (hdg : decode cc pc = .ok (.putfield index, 3))
    (kk : ∀ (H1 : Heap) (locs1 : List Loc), zs_S G A H0 H1 locs1 ws' → W p l e R s m args below meth c H1 locs1 cells slots Q (F0 m (pc + 3) ls rest)) : W p l e R s m args below meth c H locs cells slots Q (F0 m pc ls (v :: .ref a :: rest)) := by
  subst hw
  exact va_put C.1.1 C.1.2.1 C.1.2.2.2.2 hin ty hty hnm C.1.2.2.2.1 hK.1.1 S.1 S.2.1 S.2.2 q0 he hc k hk (C.1.2.2.2.2 _ hl) (fun _ h => h) hfin (hty k hk) hn hfit hlen hdg (fun H1 locs1 h1 h2 h3 => kk H1 locs1 ⟨h1, h2, h3⟩)
theorem zs_putF (C : zs_C p s m args meth c cc nL ret Ts own) (hin2 : meth.name = "<init>") (hK : zs_E G A s) (S : zs_S G A H0 H locs ws) (q0 k : Nat) {Cn : String} {T : u_T} {N ci index a : Nat} {fs : List Value} {v : Value} {ty : Nat → FieldType} {ws' : va_W} (he : ws[q0]? = some (a, .inr (ci, fs))) (hc : vwCl[ci]? = some (Cn, T, N)) (hk : k < N) (hin : ∀ w ∈ u_ws Cn T N, w ∈ Ts) (hty : ∀ k, k < N → parseFieldDescriptor (T k).2.2.1 = some (ty k)) (hnm : ∀ a, a < N → ∀ b, b < N → a ≠ b → (T a).2.1 ≠ (T b).2.1) (hl : Cond.fieldLink own index (T k).1 (T k).2.1 (T k).2.2.1 ∈ Ts) (hfin : (T k).2.2.2 = true) (hdecl : (T k).1 = own) (hn : narrow (ty k) v = v) (hfit : fits (ty k) v = true) (hlen : k < fs.length) (hw : ws.set q0 (a, .inr (ci, fs.set k v)) = ws') (hdg : decode cc pc = .ok (.putfield index, 3))
    (kk : ∀ (H1 : Heap) (locs1 : List Loc), zs_S G A H0 H1 locs1 ws' → W p l e R s m args below meth c H1 locs1 cells slots Q (F0 m (pc + 3) ls rest)) : W p l e R s m args below meth c H locs cells slots Q (F0 m pc ls (v :: .ref a :: rest)) := by
  subst hw
  exact va_putF C.1.1 C.1.2.1 C.1.2.2.2.2 hin ty hty hnm C.1.2.2.2.1 hK.1.1 S.1 S.2.1 S.2.2 q0 he hc k hk (C.1.2.2.2.2 _ hl) (fun _ h => h) hfin hin2 hdecl (hty k hk) hn hfit hlen hdg (fun H1 locs1 h1 h2 h3 => kk H1 locs1 ⟨h1, h2, h3⟩)
theorem zs_iald (C : zs_C p s m args meth c cc nL ret Ts own) (hK : zs_E G A s) (S : zs_S G A H0 H locs ws) (q0 : Nat) {a n : Nat} {f : Nat → Int32} (ha : ws[q0]? = some (a, .inl (G.2.1, n, .inl f))) {i : Int32} (hin : vp_in i n) (hdg : decode cc pc = .ok (.iaload, 1))
    (kk : W p l e R s m args below meth c H locs cells slots Q (F0 m (pc + 1) ls (.int (f i.toNatClampNeg) :: rest))) : W p l e R s m args below meth c H locs cells slots Q (F0 m pc ls (.int i :: .ref a :: rest)) :=
  va_iald C.1.1 C.1.2.1 hK.1.1 S.1 q0 0 ha rfl hin hdg kk
theorem zs_bald (C : zs_C p s m args meth c cc nL ret Ts own) (hK : zs_E G A s) (S : zs_S G A H0 H locs ws) (q0 : Nat) {a n : Nat} {f : Nat → Int32} (ha : ws[q0]? = some (a, .inl (G.2.2.1, n, .inl f))) {i : Int32} (hin : vp_in i n) (hdg : decode cc pc = .ok (.baload, 1))
    (kk : W p l e R s m args below meth c H locs cells slots Q (F0 m (pc + 1) ls (.int (f i.toNatClampNeg) :: rest))) : W p l e R s m args below meth c H locs cells slots Q (F0 m pc ls (.int i :: .ref a :: rest)) :=
  va_bald C.1.1 C.1.2.1 hK.1.1 S.1 q0 1 ha rfl hin hdg kk
theorem zs_iast (C : zs_C p s m args meth c cc nL ret Ts own) (hK : zs_E G A s) (S : zs_S G A H0 H locs ws) (q0 : Nat) {a n : Nat} {f : Nat → Int32} {ws' : va_W} (ha : ws[q0]? = some (a, .inl (G.2.1, n, .inl f))) {i x : Int32} (hin : vp_in i n) (hw : ws.set q0 (a, .inl (G.2.1, n, .inl (upd f i.toNatClampNeg x))) = ws') (hdg : decode cc pc = .ok (.iastore, 1))
    (kk : ∀ (H1 : Heap) (locs1 : List Loc), zs_S G A H0 H1 locs1 ws' → W p l e R s m args below meth c H1 locs1 cells slots Q (F0 m (pc + 1) ls rest)) : W p l e R s m args below meth c H locs cells slots Q (F0 m pc ls (.int x :: .int i :: .ref a :: rest)) := by
  subst hw
  exact va_iast C.1.1 C.1.2.1 hK.1.1 S.1 S.2.1 S.2.2 q0 0 ha rfl hin hdg (fun H1 locs1 h1 h2 h3 => kk H1 locs1 ⟨h1, h2, h3⟩)
theorem zs_bast (C : zs_C p s m args meth c cc nL ret Ts own) (hK : zs_E G A s) (S : zs_S G A H0 H locs ws) (q0 : Nat) {a n : Nat} {f : Nat → Int32} {ws' : va_W} (ha : ws[q0]? = some (a, .inl (G.2.2.1, n, .inl f))) {i x : Int32} (hin : vp_in i n) (hw : ws.set q0 (a, .inl (G.2.2.1, n, .inl (upd f i.toNatClampNeg (vp_nar .byte x)))) = ws') (hdg : decode cc pc = .ok (.bastore, 1))
    (kk : ∀ (H1 : Heap) (locs1 : List Loc), zs_S G A H0 H1 locs1 ws' → W p l e R s m args below meth c H1 locs1 cells slots Q (F0 m (pc + 1) ls rest)) : W p l e R s m args below meth c H locs cells slots Q (F0 m pc ls (.int x :: .int i :: .ref a :: rest)) := by
  subst hw
  exact va_bast C.1.1 C.1.2.1 hK.1.1 S.1 S.2.1 S.2.2 q0 1 ha rfl hin hdg (fun H1 locs1 h1 h2 h3 => kk H1 locs1 ⟨h1, h2, h3⟩)
theorem zs_alen (C : zs_C p s m args meth c cc nL ret Ts own) (hK : zs_E G A s) (S : zs_S G A H0 H locs ws) (q0 : Nat) {a n : Nat} {f : Nat → Int32} (ha : ws[q0]? = some (a, .inl (G.2.1, n, .inl f))) {v : Int32} (hv : Int32.ofNat n = v) (hdg : decode cc pc = .ok (.arraylength, 1))
    (kk : W p l e R s m args below meth c H locs cells slots Q (F0 m (pc + 1) ls (.int v :: rest))) : W p l e R s m args below meth c H locs cells slots Q (F0 m pc ls (.ref a :: rest)) :=
  va_alen C.1.1 C.1.2.1 hK.1.1 S.1 q0 0 (ty := .int) ha rfl hv hdg kk
theorem zs_perm (S : zs_S G A H0 H locs ws) {ws' : va_W} (pm : List Nat) (hp : pm.map (fun i => ws[i]?) = ws'.map some) (hpn : va_nd pm = true) : zs_S G A H0 H locs ws' := ⟨zs_sub S.1 pm hp, S.2.1.sub pm hpn hp, S.2.2⟩
theorem zs_aald0 (C : zs_C p s m args meth c cc nL ret Ts own) (hK : zs_E G A s) (S : zs_S G A H0 H locs ws) (q0 : Nat) {a x0 x1 : Nat} (ha : ws[q0]? = some (a, .inl (G.2.2.2.1, (2, .inr (.inr (.inr (.inr (va_up (va_up (fun _ => none) 0 (some x0)) 1 (some x1))))))))) {i : Int32} (hi : i = 0) (hin : vp_in i 2) (hdg : decode cc pc = .ok (.aaload, 1))
    (kk : W p l e R s m args below meth c H locs cells slots Q (F0 m (pc + 1) ls (.ref x0 :: rest))) : W p l e R s m args below meth c H locs cells slots Q (F0 m pc ls (.int i :: .ref a :: rest)) := by
  subst hi
  exact va_aldq C.1.1 C.1.2.1 hK.1.1 S.1 q0 2 ha rfl hin hdg kk
theorem zs_aald1 (C : zs_C p s m args meth c cc nL ret Ts own) (hK : zs_E G A s) (S : zs_S G A H0 H locs ws) (q0 : Nat) {a x0 x1 : Nat} (ha : ws[q0]? = some (a, .inl (G.2.2.2.1, (2, .inr (.inr (.inr (.inr (va_up (va_up (fun _ => none) 0 (some x0)) 1 (some x1))))))))) {i : Int32} (hi : ¬ i = 0) (hin : vp_in i 2) (hdg : decode cc pc = .ok (.aaload, 1))
    (kk : W p l e R s m args below meth c H locs cells slots Q (F0 m (pc + 1) ls (.ref x1 :: rest))) : W p l e R s m args below meth c H locs cells slots Q (F0 m pc ls (.int i :: .ref a :: rest)) := by
  obtain ⟨j, hj, rfl⟩ := vp_in_of hin (by decide)
  have h1 : j = 1 := by
    rcases (show j = 0 ∨ j = 1 by omega) with rfl | rfl
    · exact absurd nI_0 hi
    · rfl
  subst h1
  exact va_aldq C.1.1 C.1.2.1 hK.1.1 S.1 q0 2 ha rfl hin hdg kk
/-! ends -/
theorem zs_iret (C : zs_C p s m args meth c cc nL (some .int) Ts own) (S : zs_S G A s.heap H locs ws) {v : Int32} (hdg : decode cc pc = .ok (.ireturn, 1)) : W p l e R s m args below meth c H locs cells slots (MQ below (zs_Qi G ws v A) args s cells slots A) (F0 m pc ls [.int v]) :=
  W.iret C.1.1 C.1.2.1 C.2.1 (fun t ht _ => ⟨⟨v, (), rfl, rfl, by rw [ht]; exact S.1, S.2.1⟩, S.2.2.F ht⟩) S.2.2.2.2 hdg C.2.2
theorem zs_zret (C : zs_C p s m args meth c cc nL (some .boolean) Ts own) (S : zs_S G A s.heap H locs ws) {v : Int32} (hn : narrow .boolean (.int v) = .int v) (hdg : decode cc pc = .ok (.ireturn, 1)) : W p l e R s m args below meth c H locs cells slots (MQ below (zs_Qi G ws v A) args s cells slots A) (F0 m pc ls [.int v]) :=
  W.zret C.1.1 C.1.2.1 C.2.1 hn (fun t ht _ => ⟨⟨v, (), rfl, rfl, by rw [ht]; exact S.1, S.2.1⟩, S.2.2.F ht⟩) S.2.2.2.2 hdg C.2.2
theorem zs_lret (C : zs_C p s m args meth c cc nL (some .long) Ts own) (S : zs_S G A s.heap H locs ws) {v : Int64} (hdg : decode cc pc = .ok (.lreturn, 1)) : W p l e R s m args below meth c H locs cells slots (MQ below (zs_Ql G ws v A) args s cells slots A) (F0 m pc ls [.long v]) :=
  W.lret C.1.1 C.1.2.1 C.2.1 (fun t ht _ => ⟨⟨v, (), rfl, rfl, by rw [ht]; exact S.1, S.2.1⟩, S.2.2.F ht⟩) S.2.2.2.2 hdg C.2.2
theorem zs_vret (C : zs_C p s m args meth c cc nL none Ts own) (S : zs_S G A s.heap H locs ws) (hdg : decode cc pc = .ok (.return_, 1)) : W p l e R s m args below meth c H locs cells slots (MQ below (zs_Qv G ws A) args s cells slots A) (F0 m pc ls []) :=
  W.vret C.1.1 C.1.2.1 C.2.1 (fun t ht _ => ⟨⟨(), rfl, trivial, by rw [ht]; exact S.1, S.2.1⟩, S.2.2.F ht⟩) S.2.2.2.2 hdg C.2.2
theorem zs_iretE (C : zs_C p s m args meth c cc nL (some .int) Ts own) (S : zs_S G A s.heap H locs ws) {v r : Int32} {ws' : va_W} (hv : v = r) (hw : ws = ws') (hdg : decode cc pc = .ok (.ireturn, 1)) : W p l e R s m args below meth c H locs cells slots (MQ below (zs_Qi G ws' r A) args s cells slots A) (F0 m pc ls [.int v]) := by
  subst hv; subst hw
  exact zs_iret C S hdg
theorem zs_zretE (C : zs_C p s m args meth c cc nL (some .boolean) Ts own) (S : zs_S G A s.heap H locs ws) {v r : Int32} {ws' : va_W} (hn : narrow .boolean (.int v) = .int v) (hv : v = r) (hw : ws = ws') (hdg : decode cc pc = .ok (.ireturn, 1)) : W p l e R s m args below meth c H locs cells slots (MQ below (zs_Qi G ws' r A) args s cells slots A) (F0 m pc ls [.int v]) := by
  subst hv; subst hw
  exact zs_zret C S hn hdg
theorem zs_lretE (C : zs_C p s m args meth c cc nL (some .long) Ts own) (S : zs_S G A s.heap H locs ws) {v r : Int64} {ws' : va_W} (hv : v = r) (hw : ws = ws') (hdg : decode cc pc = .ok (.lreturn, 1)) : W p l e R s m args below meth c H locs cells slots (MQ below (zs_Ql G ws' r A) args s cells slots A) (F0 m pc ls [.long v]) := by
  subst hv; subst hw
  exact zs_lret C S hdg
theorem zs_vretE (C : zs_C p s m args meth c cc nL none Ts own) (S : zs_S G A s.heap H locs ws) {ws' : va_W} (hw : ws = ws') (hdg : decode cc pc = .ok (.return_, 1)) : W p l e R s m args below meth c H locs cells slots (MQ below (zs_Qv G ws' A) args s cells slots A) (F0 m pc ls []) := by
  subst hw
  exact zs_vret C S hdg
/-! calls -/
theorem zs_prS (hK : zs_E G A s) (hA : ∀ q, s.heap.size ≤ q → A q) (S : zs_S G A s.heap H locs ws) {wc : va_W} (isC : List Nat) (hC : isC.map (fun i => ws[i]?) = wc.map some) (hnC : va_nd isC = true) {As : List Value} : PreS s H (va_Pc As (zs_pre G wc H.size)) As :=
  ⟨zs_blind, fun U hU hW => ⟨rfl, by rw [hU], by rw [hU]; exact zs_sub S.1 isC hC, hK.1.warm hW, (S.2.1.sub isC hnC hC).weaken (fun _ _ _ _ => trivial), by rw [hU]; exact ((hK.2.kept S.2.2.2.1).narrow (va_free S.2.1 S.2.2 hA isC hC)).moved hW.alike⟩⟩
theorem zs_prV (hK : zs_E G A s) (hA : ∀ q, s.heap.size ≤ q → A q) (S : zs_S G A s.heap H locs ws) {wc : va_W} (isC : List Nat) (hC : isC.map (fun i => ws[i]?) = wc.map some) (hnC : va_nd isC = true) (q0 : Nat) {Cn : String} {T : u_T} {N ci b : Nat} {fs : List Value} (he : ws[q0]? = some (b, .inr (ci, fs))) (hc : vwCl[ci]? = some (Cn, T, N)) {As : List Value} : PreV s H Cn b (va_Pc (.ref b :: As) (zs_pre G wc H.size)) As :=
  ⟨zs_blind, va_recv (q := (Cn, T, N)) hK.1.1 S.1 hc he, fun U hU hW => ⟨rfl, by rw [hU], by rw [hU]; exact zs_sub S.1 isC hC, hK.1.warm hW, (S.2.1.sub isC hnC hC).weaken (fun _ _ _ _ => trivial), by rw [hU]; exact ((hK.2.kept S.2.2.2.1).narrow (va_free S.2.1 S.2.2 hA isC hC)).moved hW.alike⟩⟩
theorem zs_runV (C : zs_C p s m args meth c cc nL ret Ts own) (hK : zs_E G A s) (hA : ∀ q, s.heap.size ≤ q → A q) (S : zs_S G A s.heap H locs ws) (As rest : List Value) (isC : List Nat) (q0 n : Nat) {y : MethodName} {bytes : ByteArray} {maxL : Nat} {rt : Option FieldType} {wl wl' : List Cond} {rm : Room} {Qc : Array Value → State → Outcome → State → Prop} {free : Addr → Prop} {wc : va_W} {Cn : String} {T : u_T} {N ci index b : Nat} {fs st : List Value} {lv : List (Nat × Value)} {mc ms : Nat}
    (hM : Met l y wl rm (va_Pc (.ref b :: As) (zs_pre G wc H.size)) Qc mc ms free) (hG : GoodIn Ts (wsV own index Cn y wl)) (hwl : wl = Cond.code y bytes maxL rt :: wl') (hrc : rm.cells = mc) (hrs : rm.slots = ms) (hd : y.cls = Cn ∧ y.cls ≠ "java/lang/invoke/MethodHandle" ∧ y.cls ≠ "java/lang/invoke/VarHandle" ∧ (parseMethodDescriptor y.desc).map (fun d => d.parameters.length) = some n) (hR : rm.frames + 1 ≤ R.frames ∧ 8 + (maxL + 11) + rm.locals ≤ R.locals)
    (hC : isC.map (fun i => ws[i]?) = wc.map some) (hnC : va_nd isC = true) (he : ws[q0]? = some (b, .inr (ci, fs))) (hc : vwCl[ci]? = some (Cn, T, N)) (hlen : As.length = n) (hlv : lv_has ls nL lv) (hst : st = As.reverse ++ .ref b :: rest) (hW : (rest.map fun v => v.category).sum ≤ 8) (hdg : decode cc pc = .ok (.invokevirtual index, 3)) (hf : cells + mc ≤ R.cells ∧ slots + ms ≤ R.slots) :
    va_Run p l e R s m args below meth c H locs cells slots mc ms (F0 m pc ls st) rest (Qc (Value.ref b :: As).toArray) free :=
  va_runV C.1 hM (cwV n C.1.2.2.2.2 hG hwl hrc hrs hd hR) (zs_prV hK hA S isC hC hnC q0 he hc) rfl hlen hlv.1 hst (lv_room hW) hdg hf
theorem zs_runS (C : zs_C p s m args meth c cc nL ret Ts own) (hK : zs_E G A s) (hA : ∀ q, s.heap.size ≤ q → A q) (S : zs_S G A s.heap H locs ws) (As rest : List Value) (isC : List Nat) (n : Nat) {y : MethodName} {bytes : ByteArray} {maxL : Nat} {rt : Option FieldType} {wl wl' : List Cond} {rm : Room} {Qc : Array Value → State → Outcome → State → Prop} {free : Addr → Prop} {wc : va_W} {index : Nat} {st : List Value} {lv : List (Nat × Value)} {mc ms : Nat}
    (hM : Met l y wl rm (va_Pc As (zs_pre G wc H.size)) Qc mc ms free) (hG : GoodIn Ts (va_wsS own index y wl)) (hwl : wl = Cond.code y bytes maxL rt :: wl') (hrc : rm.cells = mc) (hrs : rm.slots = ms) (hd : y.cls ≠ "java/lang/invoke/MethodHandle" ∧ y.cls ≠ "java/lang/invoke/VarHandle" ∧ (parseMethodDescriptor y.desc).map (fun d => d.parameters.length) = some n) (hR : rm.frames + 1 ≤ R.frames ∧ 8 + (maxL + 11) + rm.locals ≤ R.locals)
    (hC : isC.map (fun i => ws[i]?) = wc.map some) (hnC : va_nd isC = true) (hlen : As.length = n) (hlv : lv_has ls nL lv) (hst : st = As.reverse ++ rest) (hW : (rest.map fun v => v.category).sum ≤ 8) (hdg : decode cc pc = .ok (.invokestatic index, 3)) (hf : cells + mc ≤ R.cells ∧ slots + ms ≤ R.slots) :
    va_Run p l e R s m args below meth c H locs cells slots mc ms (F0 m pc ls st) rest (Qc As.toArray) free :=
  va_runS C.1 hM (va_cwS n C.1.2.2.2.2 hG hwl hrc hrs hd hR) (zs_prS hK hA S isC hC hnC) rfl hlen hlv.1 hst (lv_room hW) hdg hf
theorem zs_runSN (C : zs_C p s m args meth c cc nL ret Ts own) (hK : zs_E G A s) (hA : ∀ q, s.heap.size ≤ q → A q) (S : zs_S G A s.heap H locs ws) (As rest : List Value) (isC : List Nat) (n : Nat) {y : MethodName} {bytes : ByteArray} {maxL : Nat} {rt : Option FieldType} {wl wl' : List Cond} {rm : Room} {Qc : Array Value → State → Outcome → State → Prop} {free : Addr → Prop} {wc : va_W} {index : Nat} {host : String} {st : List Value} {lv : List (Nat × Value)} {mc ms : Nat}
    (hM : Met l y wl rm (va_Pc As (zs_pre G wc H.size)) Qc mc ms free) (hG : GoodIn Ts wl) (hwl : wl = Cond.code y bytes maxL rt :: wl') (hrc : rm.cells = mc) (hrs : rm.slots = ms) (hl : va_Nw (.methodLinkNest own index y host) s) (hini : Cond.initialized y.cls ∈ Ts) (hstt : Cond.static y ∈ Ts) (hd : y.cls ≠ "java/lang/invoke/MethodHandle" ∧ y.cls ≠ "java/lang/invoke/VarHandle" ∧ (parseMethodDescriptor y.desc).map (fun d => d.parameters.length) = some n) (hR : rm.frames + 1 ≤ R.frames ∧ 8 + (maxL + 11) + rm.locals ≤ R.locals)
    (hC : isC.map (fun i => ws[i]?) = wc.map some) (hnC : va_nd isC = true) (hlen : As.length = n) (hlv : lv_has ls nL lv) (hst : st = As.reverse ++ rest) (hW : (rest.map fun v => v.category).sum ≤ 8) (hdg : decode cc pc = .ok (.invokestatic index, 3)) (hf : cells + mc ≤ R.cells ∧ slots + ms ≤ R.slots) :
    va_Run p l e R s m args below meth c H locs cells slots mc ms (F0 m pc ls st) rest (Qc As.toArray) free :=
  va_runSN C.1 hM ⟨va_cnB n C.1.2.2.2.2 hG hwl hrc hrs hl (C.1.2.2.2.2 _ hini) hd hR, C.1.2.2.2.2 _ hstt, trivial⟩ (zs_prS hK hA S isC hC hnC) rfl hlen hlv.1 hst (lv_room hW) hdg hf
theorem zs_free (S : zs_S G A s.heap H locs ws) (hA : ∀ q, s.heap.size ≤ q → A q) {wc : va_W} (isC : List Nat) (hC : isC.map (fun i => ws[i]?) = wc.map some) : ∀ q, va_A wc H.size q → A q := va_free S.2.1 S.2.2 hA isC hC
theorem zs_back (S : zs_S G A s.heap H locs ws) (hA : ∀ q, s.heap.size ≤ q → A q) {wc wr wc' ws' : va_W} {H1 : Heap} {locs1 : List Loc} {t : State} (isC isR pm : List Nat) (hC : isC.map (fun i => ws[i]?) = wc.map some) (hR : isR.map (fun i => ws[i]?) = wr.map some) (hn : va_nd isR = true) (hdis : ∀ i ∈ isR, i ∉ isC) (hp : pm.map (fun i => (wr ++ wc')[i]?) = ws'.map some) (hpn : va_nd pm = true)
    (ht : t.heap = H1) (hB : zs_B G (va_A wc H.size) wc' () t) (hk1 : ∀ q : Nat, q < H.size → ¬ va_A wc H.size q → H1[q]? = H[q]?) (hS1 : va_S A s.heap H1 locs1) : zs_S G A s.heap H1 locs1 ws' := by
  obtain ⟨hP1, hD1⟩ := hB
  rw [ht] at hP1
  obtain ⟨hP2, hD2⟩ := va_join S.1 S.2.1 isC isR hC hR hn hdis hk1 (zs_free S hA isC hC) hP1 hD1
  exact ⟨zs_sub hP2 pm hp, hD2.sub pm hpn hp, hS1⟩
theorem zs_calli {a : Array Value} {st0 : List Value} {mc ms : Nat} {wc wr wc' ws' : va_W} {r : Int32} (S : zs_S G A s.heap H locs ws) (hA : ∀ q, s.heap.size ≤ q → A q) (isC isR pm : List Nat) (hr : va_Run p l e R s m args below meth c H locs cells slots mc ms (F0 m pc ls st0) rest (zs_Qi G wc' r (va_A wc H.size) a) (va_A wc H.size))
    (hC : isC.map (fun i => ws[i]?) = wc.map some) (hR : isR.map (fun i => ws[i]?) = wr.map some) (hn : va_nd isR = true) (hdis : ∀ i ∈ isR, i ∉ isC) (hp : pm.map (fun i => (wr ++ wc')[i]?) = ws'.map some) (hpn : va_nd pm = true)
    (kk : ∀ (H1 : Heap) (locs1 : List Loc), zs_S G A s.heap H1 locs1 ws' → W p l e R s m args below meth c H1 locs1 (cells + mc) (slots + ms) Q (F0 m (pc + 3) ls (.int r :: rest))) : W p l e R s m args below meth c H locs cells slots Q (F0 m pc ls st0) :=
  va_calli hr S.2.2 (fun q _ h => zs_free S hA isC hC q h) (zs_free S hA isC hC) (fun _ _ _ H1 locs1 ht _ hw hB _ hk1 hS1 => by
    subst hw
    exact kk H1 locs1 (zs_back S hA isC isR pm hC hR hn hdis hp hpn ht hB hk1 hS1))
theorem zs_calll {a : Array Value} {st0 : List Value} {mc ms : Nat} {wc wr wc' ws' : va_W} {r : Int64} (S : zs_S G A s.heap H locs ws) (hA : ∀ q, s.heap.size ≤ q → A q) (isC isR pm : List Nat) (hr : va_Run p l e R s m args below meth c H locs cells slots mc ms (F0 m pc ls st0) rest (zs_Ql G wc' r (va_A wc H.size) a) (va_A wc H.size))
    (hC : isC.map (fun i => ws[i]?) = wc.map some) (hR : isR.map (fun i => ws[i]?) = wr.map some) (hn : va_nd isR = true) (hdis : ∀ i ∈ isR, i ∉ isC) (hp : pm.map (fun i => (wr ++ wc')[i]?) = ws'.map some) (hpn : va_nd pm = true)
    (kk : ∀ (H1 : Heap) (locs1 : List Loc), zs_S G A s.heap H1 locs1 ws' → W p l e R s m args below meth c H1 locs1 (cells + mc) (slots + ms) Q (F0 m (pc + 3) ls (.long r :: rest))) : W p l e R s m args below meth c H locs cells slots Q (F0 m pc ls st0) :=
  va_calll hr S.2.2 (fun q _ h => zs_free S hA isC hC q h) (zs_free S hA isC hC) (fun _ _ _ H1 locs1 ht _ hw hB _ hk1 hS1 => by
    subst hw
    exact kk H1 locs1 (zs_back S hA isC isR pm hC hR hn hdis hp hpn ht hB hk1 hS1))
theorem zs_callv {a : Array Value} {st0 : List Value} {mc ms : Nat} {wc wr wc' ws' : va_W} (S : zs_S G A s.heap H locs ws) (hA : ∀ q, s.heap.size ≤ q → A q) (isC isR pm : List Nat) (hr : va_Run p l e R s m args below meth c H locs cells slots mc ms (F0 m pc ls st0) rest (zs_Qv G wc' (va_A wc H.size) a) (va_A wc H.size))
    (hC : isC.map (fun i => ws[i]?) = wc.map some) (hR : isR.map (fun i => ws[i]?) = wr.map some) (hn : va_nd isR = true) (hdis : ∀ i ∈ isR, i ∉ isC) (hp : pm.map (fun i => (wr ++ wc')[i]?) = ws'.map some) (hpn : va_nd pm = true)
    (kk : ∀ (H1 : Heap) (locs1 : List Loc), zs_S G A s.heap H1 locs1 ws' → W p l e R s m args below meth c H1 locs1 (cells + mc) (slots + ms) Q (F0 m (pc + 3) ls rest)) : W p l e R s m args below meth c H locs cells slots Q (F0 m pc ls st0) :=
  va_callv hr S.2.2 (fun q _ h => zs_free S hA isC hC q h) (zs_free S hA isC hC) (fun _ _ H1 locs1 ht _ _ hB _ hk1 hS1 => kk H1 locs1 (zs_back S hA isC isR pm hC hR hn hdis hp hpn ht hB hk1 hS1))
/-- a callee that has no world -/
theorem zs_calliP {a : Array Value} {st0 : List Value} {r : Int32} (S : zs_S G A s.heap H locs ws) (hA : ∀ q, s.heap.size ≤ q → A q) (hr : va_Run p l e R s m args below meth c H locs cells slots 0 0 (F0 m pc ls st0) rest (zs_Qi G [] r (va_A [] H.size) a) (va_A [] H.size))
    (kk : ∀ (H1 : Heap) (locs1 : List Loc), zs_S G A s.heap H1 locs1 ws → W p l e R s m args below meth c H1 locs1 cells slots Q (F0 m (pc + 3) ls (.int r :: rest))) : W p l e R s m args below meth c H locs cells slots Q (F0 m pc ls st0) := by
  have hf : ∀ q, va_A [] H.size q → A q := zs_free S hA (wc := []) [] rfl
  refine va_calli hr S.2.2 (fun q _ h => hf q h) hf (fun _ _ _ H1 locs1 ht _ hw hB _ hk1 hS1 => ?_)
  subst hw
  refine kk H1 locs1 ⟨fun k q hq => (S.1 k q hq).kept (hk1 q.1 (S.1 k q hq).lt (fun h => ?_)), S.2.1, hS1⟩
  rcases h with ⟨k2, e2, h⟩ | h
  · simp at h
  · exact absurd (S.1 k q hq).lt (by omega)
end ZS
