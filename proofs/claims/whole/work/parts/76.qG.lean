/-! ===== PURE 33: the law's loop: every call on both sides alike ===== -/
theorem zp_b11 {α0 α1 α2 α3 α4 α5 α6 α7 α8 α9 α10 β : Type} {a0 : α0} {a1 : α1} {a2 : α2} {a3 : α3} {a4 : α4} {a5 : α5} {a6 : α6} {a7 : α7} {a8 : α8} {a9 : α9} {a10 : α10} {k : α0 → α1 → α2 → α3 → α4 → α5 → α6 → α7 → α8 → α9 → α10 → Option β} : zs_b11 (some (a0, (a1, (a2, (a3, (a4, (a5, (a6, (a7, (a8, (a9, a10))))))))))) k = k a0 a1 a2 a3 a4 a5 a6 a7 a8 a9 a10 := rfl
def zm_R (r : Ob → Int64 → Ob → Ob → Ob → Ob → Ob → Ob → Ob → Ob → Ob → Ob → Ob → Ob → Ob → Int64 → Ad → Ad → Int32 → Option (Int32)) (x : Int32) : Prop := ∀ (Xm : Ob) (tr : Int64) (Tx Rd Tk Pr Sg Ah Tn Yi Im0 Im1 Yt Yr Md : Ob) (mt : Int64) (aYt aYr : Ad), zr Xm tr Tx Pr Sg Im0 Im1 Yt Md mt → r Xm tr Tx Rd Tk Pr Sg Ah Tn Yi Im0 Im1 Yt Yr Md mt aYt aYr x = some 1
theorem zm_824 {xs : Nat → Int32} {L i : Nat} {r : Ob → Int64 → Ob → Ob → Ob → Ob → Ob → Ob → Ob → Ob → Ob → Ob → Ob → Ob → Ob → Int64 → Ad → Ad → Int32 → Option (Int32)} (hR : zm_R r (nI (i + 4))) {Xm : Ob} {tr : Int64} {Tx Rd Tk Pr Sg Ah Tn Yi Im0 Im1 Yt Yr Md : Ob} {mt : Int64} {aYt aYr : Ad} (h : zr Xm tr Tx Pr Sg Im0 Im1 Yt Md mt) : F_L_law_824 xs L r Xm tr Tx Rd Tk Pr Sg Ah Tn Yi Im0 Im1 Yt Yr Md mt aYt aYr (nI i) = some 1 := by
  unfold F_L_law_824
  simp only [zp_let]
  rw [show nI i + (4 : Int32) = nI (i + 4) from nI_add i 4]
  exact hR _ _ _ _ _ _ _ _ _ _ _ _ _ _ _ _ _ _ h
theorem zm_148 {xs : Nat → Int32} {L i : Nat} {r : Ob → Int64 → Ob → Ob → Ob → Ob → Ob → Ob → Ob → Ob → Ob → Ob → Ob → Ob → Ob → Int64 → Ad → Ad → Int32 → Option (Int32)} (hR : zm_R r (nI (i + 4))) (hL : i + 3 < L) (hL2 : L ≤ 256) {Xm : Ob} {tr : Int64} {Tx Rd Tk Pr Sg Ah Tn Yi Im0 Im1 Yt Yr Md : Ob} {mt : Int64} {aYt aYr : Ad} (h : zr Xm tr Tx Pr Sg Im0 Im1 Yt Md mt) : F_L_law_148 xs L r Xm tr Tx Rd Tk Pr Sg Ah Tn Yi Im0 Im1 Yt Yr Md mt aYt aYr (nI i) = some 1 := by
  have k1 : ∀ {α : Type} (y : Option α), zs_ck (nI i + (1 : Int32)) L y = y := fun y => zp_ckl (i + 1) (nI_add i 1) (by omega) (by omega)
  have k2 : ∀ {α : Type} (y : Option α), zs_ck (nI i + (2 : Int32)) L y = y := fun y => zp_ckl (i + 2) (nI_add i 2) (by omega) (by omega)
  have k3 : ∀ {α : Type} (y : Option α), zs_ck (nI i + (3 : Int32)) L y = y := fun y => zp_ckl (i + 3) (nI_add i 3) (by omega) (by omega)
  obtain ⟨r1, Tx', Md', e1, e2, h'⟩ := zo_type h ((((xs (nI i + (1 : Int32)).toNatClampNeg).toInt64) <<< ((32 : Int32).toInt64 &&& 63)) ||| ((xs (nI i + (2 : Int32)).toNatClampNeg).toInt64 &&& (4294967295 : Int64))) (xs (nI i + (3 : Int32)).toNatClampNeg)
  unfold F_L_law_148
  rw [k1, k2, k3, e1, zp_b2, k1, k2, k3, e2, zp_b2, if_pos rfl]
  exact zm_824 hR h'
theorem zm_211 {xs : Nat → Int32} {L i : Nat} {r : Ob → Int64 → Ob → Ob → Ob → Ob → Ob → Ob → Ob → Ob → Ob → Ob → Ob → Ob → Ob → Int64 → Ad → Ad → Int32 → Option (Int32)} (hR : zm_R r (nI (i + 4))) {Xm : Ob} {tr : Int64} {Tx Rd Tk Pr Sg Ah Tn Yi Im0 Im1 Yt Yr Md : Ob} {mt : Int64} {aYt aYr : Ad} (h : zr Xm tr Tx Pr Sg Im0 Im1 Yt Md mt) : F_L_law_211 xs L r Xm tr Tx Rd Tk Pr Sg Ah Tn Yi Im0 Im1 Yt Yr Md mt aYt aYr (nI i) = some 1 := by
  obtain ⟨r1, Tx', Md', e1, e2, h'⟩ := zo_clear h
  unfold F_L_law_211
  rw [e1, zp_b2, e2, zp_b2, if_pos rfl]
  exact zm_824 hR h'
theorem zm_224 {xs : Nat → Int32} {L i : Nat} {r : Ob → Int64 → Ob → Ob → Ob → Ob → Ob → Ob → Ob → Ob → Ob → Ob → Ob → Ob → Ob → Int64 → Ad → Ad → Int32 → Option (Int32)} (hR : zm_R r (nI (i + 4))) {Xm : Ob} {tr : Int64} {Tx Rd Tk Pr Sg Ah Tn Yi Im0 Im1 Yt Yr Md : Ob} {mt : Int64} {aYt aYr : Ad} (h : zr Xm tr Tx Pr Sg Im0 Im1 Yt Md mt) : F_L_law_224 xs L r Xm tr Tx Rd Tk Pr Sg Ah Tn Yi Im0 Im1 Yt Yr Md mt aYt aYr (nI i) = some 1 := by
  obtain ⟨r1, Xm', Tx', Rd', Tk', Pr', Sg', Yt', Yr', a1, a2, Md', e1, e2, h'⟩ := zo_walls h Rd Tk Yr aYt aYr
  unfold F_L_law_224
  rw [e1, zp_b11, e2, zp_b2, if_pos rfl]
  exact zm_824 hR h'
theorem zm_237 {xs : Nat → Int32} {L i : Nat} {r : Ob → Int64 → Ob → Ob → Ob → Ob → Ob → Ob → Ob → Ob → Ob → Ob → Ob → Ob → Ob → Int64 → Ad → Ad → Int32 → Option (Int32)} (hR : zm_R r (nI (i + 4))) (hL : i + 3 < L) (hL2 : L ≤ 256) {Xm : Ob} {tr : Int64} {Tx Rd Tk Pr Sg Ah Tn Yi Im0 Im1 Yt Yr Md : Ob} {mt : Int64} {aYt aYr : Ad} (h : zr Xm tr Tx Pr Sg Im0 Im1 Yt Md mt) : F_L_law_237 xs L r Xm tr Tx Rd Tk Pr Sg Ah Tn Yi Im0 Im1 Yt Yr Md mt aYt aYr (nI i) = some 1 := by
  have k1 : ∀ {α : Type} (y : Option α), zs_ck (nI i + (1 : Int32)) L y = y := fun y => zp_ckl (i + 1) (nI_add i 1) (by omega) (by omega)
  have k2 : ∀ {α : Type} (y : Option α), zs_ck (nI i + (2 : Int32)) L y = y := fun y => zp_ckl (i + 2) (nI_add i 2) (by omega) (by omega)
  obtain ⟨r1, e1, e2⟩ := zo_wall h (xs (nI i + (1 : Int32)).toNatClampNeg) (xs (nI i + (2 : Int32)).toNatClampNeg)
  unfold F_L_law_237
  rw [k1, k2, e1, zp_bd, k1, k2, e2, zp_bd, if_pos rfl]
  exact zm_824 hR h
theorem zm_270 {xs : Nat → Int32} {L i : Nat} {r : Ob → Int64 → Ob → Ob → Ob → Ob → Ob → Ob → Ob → Ob → Ob → Ob → Ob → Ob → Ob → Int64 → Ad → Ad → Int32 → Option (Int32)} (hR : zm_R r (nI (i + 4))) (hL : i + 3 < L) (hL2 : L ≤ 256) {Xm : Ob} {tr : Int64} {Tx Rd Tk Pr Sg Ah Tn Yi Im0 Im1 Yt Yr Md : Ob} {mt : Int64} {aYt aYr : Ad} (h : zr Xm tr Tx Pr Sg Im0 Im1 Yt Md mt) : F_L_law_270 xs L r Xm tr Tx Rd Tk Pr Sg Ah Tn Yi Im0 Im1 Yt Yr Md mt aYt aYr (nI i) = some 1 := by
  have k1 : ∀ {α : Type} (y : Option α), zs_ck (nI i + (1 : Int32)) L y = y := fun y => zp_ckl (i + 1) (nI_add i 1) (by omega) (by omega)
  have k2 : ∀ {α : Type} (y : Option α), zs_ck (nI i + (2 : Int32)) L y = y := fun y => zp_ckl (i + 2) (nI_add i 2) (by omega) (by omega)
  obtain ⟨r1, e1, e2⟩ := zo_sees h (xs (nI i + (1 : Int32)).toNatClampNeg) (xs (nI i + (2 : Int32)).toNatClampNeg)
  unfold F_L_law_270
  rw [k1, k2, e1, zp_bd, k1, k2, e2, zp_bd, if_pos rfl]
  exact zm_824 hR h
theorem zm_303 {xs : Nat → Int32} {L i : Nat} {r : Ob → Int64 → Ob → Ob → Ob → Ob → Ob → Ob → Ob → Ob → Ob → Ob → Ob → Ob → Ob → Int64 → Ad → Ad → Int32 → Option (Int32)} (hR : zm_R r (nI (i + 4))) {Xm : Ob} {tr : Int64} {Tx Rd Tk Pr Sg Ah Tn Yi Im0 Im1 Yt Yr Md : Ob} {mt : Int64} {aYt aYr : Ad} (h : zr Xm tr Tx Pr Sg Im0 Im1 Yt Md mt) : F_L_law_303 xs L r Xm tr Tx Rd Tk Pr Sg Ah Tn Yi Im0 Im1 Yt Yr Md mt aYt aYr (nI i) = some 1 := by
  obtain ⟨r1, Pr', Md', e1, e2, h'⟩ := zo_hour h
  unfold F_L_law_303
  rw [e1, zp_b2, e2, zp_b2, if_pos rfl]
  exact zm_824 hR h'
theorem zm_316 {xs : Nat → Int32} {L i : Nat} {r : Ob → Int64 → Ob → Ob → Ob → Ob → Ob → Ob → Ob → Ob → Ob → Ob → Ob → Ob → Ob → Int64 → Ad → Ad → Int32 → Option (Int32)} (hR : zm_R r (nI (i + 4))) (hL : i + 3 < L) (hL2 : L ≤ 256) {Xm : Ob} {tr : Int64} {Tx Rd Tk Pr Sg Ah Tn Yi Im0 Im1 Yt Yr Md : Ob} {mt : Int64} {aYt aYr : Ad} (h : zr Xm tr Tx Pr Sg Im0 Im1 Yt Md mt) : F_L_law_316 xs L r Xm tr Tx Rd Tk Pr Sg Ah Tn Yi Im0 Im1 Yt Yr Md mt aYt aYr (nI i) = some 1 := by
  have k1 : ∀ {α : Type} (y : Option α), zs_ck (nI i + (1 : Int32)) L y = y := fun y => zp_ckl (i + 1) (nI_add i 1) (by omega) (by omega)
  have k2 : ∀ {α : Type} (y : Option α), zs_ck (nI i + (2 : Int32)) L y = y := fun y => zp_ckl (i + 2) (nI_add i 2) (by omega) (by omega)
  obtain ⟨r1, Pr', Md', e1, e2, h'⟩ := zo_shut h (xs (nI i + (1 : Int32)).toNatClampNeg) (xs (nI i + (2 : Int32)).toNatClampNeg)
  unfold F_L_law_316
  rw [k1, k2, e1, zp_b2, k1, k2, e2, zp_b2, if_pos rfl]
  exact zm_824 hR h'
theorem zm_349 {xs : Nat → Int32} {L i : Nat} {r : Ob → Int64 → Ob → Ob → Ob → Ob → Ob → Ob → Ob → Ob → Ob → Ob → Ob → Ob → Ob → Int64 → Ad → Ad → Int32 → Option (Int32)} (hR : zm_R r (nI (i + 4))) (hL : i + 3 < L) (hL2 : L ≤ 256) {Xm : Ob} {tr : Int64} {Tx Rd Tk Pr Sg Ah Tn Yi Im0 Im1 Yt Yr Md : Ob} {mt : Int64} {aYt aYr : Ad} (h : zr Xm tr Tx Pr Sg Im0 Im1 Yt Md mt) : F_L_law_349 xs L r Xm tr Tx Rd Tk Pr Sg Ah Tn Yi Im0 Im1 Yt Yr Md mt aYt aYr (nI i) = some 1 := by
  have k1 : ∀ {α : Type} (y : Option α), zs_ck (nI i + (1 : Int32)) L y = y := fun y => zp_ckl (i + 1) (nI_add i 1) (by omega) (by omega)
  have k2 : ∀ {α : Type} (y : Option α), zs_ck (nI i + (2 : Int32)) L y = y := fun y => zp_ckl (i + 2) (nI_add i 2) (by omega) (by omega)
  obtain ⟨r1, Pr', Md', e1, e2, h'⟩ := zo_mirror h (xs (nI i + (1 : Int32)).toNatClampNeg) (xs (nI i + (2 : Int32)).toNatClampNeg)
  unfold F_L_law_349
  rw [k1, k2, e1, zp_b2, k1, k2, e2, zp_b2, if_pos rfl]
  exact zm_824 hR h'
theorem zm_382 {xs : Nat → Int32} {L i : Nat} {r : Ob → Int64 → Ob → Ob → Ob → Ob → Ob → Ob → Ob → Ob → Ob → Ob → Ob → Ob → Ob → Int64 → Ad → Ad → Int32 → Option (Int32)} (hR : zm_R r (nI (i + 4))) {Xm : Ob} {tr : Int64} {Tx Rd Tk Pr Sg Ah Tn Yi Im0 Im1 Yt Yr Md : Ob} {mt : Int64} {aYt aYr : Ad} (h : zr Xm tr Tx Pr Sg Im0 Im1 Yt Md mt) : F_L_law_382 xs L r Xm tr Tx Rd Tk Pr Sg Ah Tn Yi Im0 Im1 Yt Yr Md mt aYt aYr (nI i) = some 1 := by
  obtain ⟨r1, Pr', Md', e1, e2, h'⟩ := zo_undo h
  unfold F_L_law_382
  rw [e1, zp_b2, e2, zp_b2, if_pos rfl]
  exact zm_824 hR h'
theorem zm_395 {xs : Nat → Int32} {L i : Nat} {r : Ob → Int64 → Ob → Ob → Ob → Ob → Ob → Ob → Ob → Ob → Ob → Ob → Ob → Ob → Ob → Int64 → Ad → Ad → Int32 → Option (Int32)} (hR : zm_R r (nI (i + 4))) (hL : i + 3 < L) (hL2 : L ≤ 256) {Xm : Ob} {tr : Int64} {Tx Rd Tk Pr Sg Ah Tn Yi Im0 Im1 Yt Yr Md : Ob} {mt : Int64} {aYt aYr : Ad} (h : zr Xm tr Tx Pr Sg Im0 Im1 Yt Md mt) : F_L_law_395 xs L r Xm tr Tx Rd Tk Pr Sg Ah Tn Yi Im0 Im1 Yt Yr Md mt aYt aYr (nI i) = some 1 := by
  have k1 : ∀ {α : Type} (y : Option α), zs_ck (nI i + (1 : Int32)) L y = y := fun y => zp_ckl (i + 1) (nI_add i 1) (by omega) (by omega)
  obtain ⟨r1, e1, e2⟩ := zo_now h (xs (nI i + (1 : Int32)).toNatClampNeg)
  unfold F_L_law_395
  rw [k1, e1, zp_bd, k1, e2, zp_bd, if_pos rfl]
  exact zm_824 hR h
theorem zm_418 {xs : Nat → Int32} {L i : Nat} {r : Ob → Int64 → Ob → Ob → Ob → Ob → Ob → Ob → Ob → Ob → Ob → Ob → Ob → Ob → Ob → Int64 → Ad → Ad → Int32 → Option (Int32)} (hR : zm_R r (nI (i + 4))) (hL : i + 3 < L) (hL2 : L ≤ 256) {Xm : Ob} {tr : Int64} {Tx Rd Tk Pr Sg Ah Tn Yi Im0 Im1 Yt Yr Md : Ob} {mt : Int64} {aYt aYr : Ad} (h : zr Xm tr Tx Pr Sg Im0 Im1 Yt Md mt) : F_L_law_418 xs L r Xm tr Tx Rd Tk Pr Sg Ah Tn Yi Im0 Im1 Yt Yr Md mt aYt aYr (nI i) = some 1 := by
  have k1 : ∀ {α : Type} (y : Option α), zs_ck (nI i + (1 : Int32)) L y = y := fun y => zp_ckl (i + 1) (nI_add i 1) (by omega) (by omega)
  have k2 : ∀ {α : Type} (y : Option α), zs_ck (nI i + (2 : Int32)) L y = y := fun y => zp_ckl (i + 2) (nI_add i 2) (by omega) (by omega)
  obtain ⟨r1, Tn', Md', e1, e2, h'⟩ := zo_behind h Ah Tn (xs (nI i + (1 : Int32)).toNatClampNeg) (xs (nI i + (2 : Int32)).toNatClampNeg)
  unfold F_L_law_418
  rw [k1, k2, e1, zp_b2, k1, k2, e2, zp_b2, if_pos rfl]
  exact zm_824 hR h'
theorem zm_451 {xs : Nat → Int32} {L i : Nat} {r : Ob → Int64 → Ob → Ob → Ob → Ob → Ob → Ob → Ob → Ob → Ob → Ob → Ob → Ob → Ob → Int64 → Ad → Ad → Int32 → Option (Int32)} (hR : zm_R r (nI (i + 4))) (hL : i + 3 < L) (hL2 : L ≤ 256) {Xm : Ob} {tr : Int64} {Tx Rd Tk Pr Sg Ah Tn Yi Im0 Im1 Yt Yr Md : Ob} {mt : Int64} {aYt aYr : Ad} (h : zr Xm tr Tx Pr Sg Im0 Im1 Yt Md mt) : F_L_law_451 xs L r Xm tr Tx Rd Tk Pr Sg Ah Tn Yi Im0 Im1 Yt Yr Md mt aYt aYr (nI i) = some 1 := by
  have k1 : ∀ {α : Type} (y : Option α), zs_ck (nI i + (1 : Int32)) L y = y := fun y => zp_ckl (i + 1) (nI_add i 1) (by omega) (by omega)
  obtain ⟨r1, Tn', Md', e1, e2, h'⟩ := zo_first h Ah Tn (xs (nI i + (1 : Int32)).toNatClampNeg)
  unfold F_L_law_451
  rw [k1, e1, zp_b2, k1, e2, zp_b2, if_pos rfl]
  exact zm_824 hR h'
theorem zm_474 {xs : Nat → Int32} {L i : Nat} {r : Ob → Int64 → Ob → Ob → Ob → Ob → Ob → Ob → Ob → Ob → Ob → Ob → Ob → Ob → Ob → Int64 → Ad → Ad → Int32 → Option (Int32)} (hR : zm_R r (nI (i + 4))) {Xm : Ob} {tr : Int64} {Tx Rd Tk Pr Sg Ah Tn Yi Im0 Im1 Yt Yr Md : Ob} {mt : Int64} {aYt aYr : Ad} (h : zr Xm tr Tx Pr Sg Im0 Im1 Yt Md mt) : F_L_law_474 xs L r Xm tr Tx Rd Tk Pr Sg Ah Tn Yi Im0 Im1 Yt Yr Md mt aYt aYr (nI i) = some 1 := by
  obtain ⟨r1, Ah', Tn', Md', e1, e2, h'⟩ := zo_rest h Ah Tn
  unfold F_L_law_474
  rw [e1, zp_b3, e2, zp_b2, if_pos rfl]
  exact zm_824 hR h'
theorem zm_487 {xs : Nat → Int32} {L i : Nat} {r : Ob → Int64 → Ob → Ob → Ob → Ob → Ob → Ob → Ob → Ob → Ob → Ob → Ob → Ob → Ob → Int64 → Ad → Ad → Int32 → Option (Int32)} (hR : zm_R r (nI (i + 4))) (hL : i + 3 < L) (hL2 : L ≤ 256) {Xm : Ob} {tr : Int64} {Tx Rd Tk Pr Sg Ah Tn Yi Im0 Im1 Yt Yr Md : Ob} {mt : Int64} {aYt aYr : Ad} (h : zr Xm tr Tx Pr Sg Im0 Im1 Yt Md mt) : F_L_law_487 xs L r Xm tr Tx Rd Tk Pr Sg Ah Tn Yi Im0 Im1 Yt Yr Md mt aYt aYr (nI i) = some 1 := by
  have k1 : ∀ {α : Type} (y : Option α), zs_ck (nI i + (1 : Int32)) L y = y := fun y => zp_ckl (i + 1) (nI_add i 1) (by omega) (by omega)
  have k2 : ∀ {α : Type} (y : Option α), zs_ck (nI i + (2 : Int32)) L y = y := fun y => zp_ckl (i + 2) (nI_add i 2) (by omega) (by omega)
  obtain ⟨r1, Tn', Md', e1, e2, h'⟩ := zo_coolest h Ah Tn (xs (nI i + (1 : Int32)).toNatClampNeg) (xs (nI i + (2 : Int32)).toNatClampNeg)
  unfold F_L_law_487
  rw [k1, k2, e1, zp_b2, k1, k2, e2, zp_b2, if_pos rfl]
  exact zm_824 hR h'
theorem zm_520 {xs : Nat → Int32} {L i : Nat} {r : Ob → Int64 → Ob → Ob → Ob → Ob → Ob → Ob → Ob → Ob → Ob → Ob → Ob → Ob → Ob → Int64 → Ad → Ad → Int32 → Option (Int32)} (hR : zm_R r (nI (i + 4))) (hL : i + 3 < L) (hL2 : L ≤ 256) {Xm : Ob} {tr : Int64} {Tx Rd Tk Pr Sg Ah Tn Yi Im0 Im1 Yt Yr Md : Ob} {mt : Int64} {aYt aYr : Ad} (h : zr Xm tr Tx Pr Sg Im0 Im1 Yt Md mt) : F_L_law_520 xs L r Xm tr Tx Rd Tk Pr Sg Ah Tn Yi Im0 Im1 Yt Yr Md mt aYt aYr (nI i) = some 1 := by
  have k1 : ∀ {α : Type} (y : Option α), zs_ck (nI i + (1 : Int32)) L y = y := fun y => zp_ckl (i + 1) (nI_add i 1) (by omega) (by omega)
  have k2 : ∀ {α : Type} (y : Option α), zs_ck (nI i + (2 : Int32)) L y = y := fun y => zp_ckl (i + 2) (nI_add i 2) (by omega) (by omega)
  obtain ⟨r1, Tn', Yi', Md', e1, e2, h'⟩ := zo_busy h Ah Tn Yi (xs (nI i + (1 : Int32)).toNatClampNeg) (xs (nI i + (2 : Int32)).toNatClampNeg)
  unfold F_L_law_520
  rw [k1, k2, e1, zp_b3, k1, k2, e2, zp_b2, if_pos rfl]
  exact zm_824 hR h'
theorem zm_553 {xs : Nat → Int32} {L i : Nat} {r : Ob → Int64 → Ob → Ob → Ob → Ob → Ob → Ob → Ob → Ob → Ob → Ob → Ob → Ob → Ob → Int64 → Ad → Ad → Int32 → Option (Int32)} (hR : zm_R r (nI (i + 4))) (hL : i + 3 < L) (hL2 : L ≤ 256) {Xm : Ob} {tr : Int64} {Tx Rd Tk Pr Sg Ah Tn Yi Im0 Im1 Yt Yr Md : Ob} {mt : Int64} {aYt aYr : Ad} (h : zr Xm tr Tx Pr Sg Im0 Im1 Yt Md mt) : F_L_law_553 xs L r Xm tr Tx Rd Tk Pr Sg Ah Tn Yi Im0 Im1 Yt Yr Md mt aYt aYr (nI i) = some 1 := by
  have k1 : ∀ {α : Type} (y : Option α), zs_ck (nI i + (1 : Int32)) L y = y := fun y => zp_ckl (i + 1) (nI_add i 1) (by omega) (by omega)
  have k2 : ∀ {α : Type} (y : Option α), zs_ck (nI i + (2 : Int32)) L y = y := fun y => zp_ckl (i + 2) (nI_add i 2) (by omega) (by omega)
  have k3 : ∀ {α : Type} (y : Option α), zs_ck (nI i + (3 : Int32)) L y = y := fun y => zp_ckl (i + 3) (nI_add i 3) (by omega) (by omega)
  obtain ⟨r1, Tn', Md', e1, e2, h'⟩ := zo_blanket h Ah Tn (xs (nI i + (1 : Int32)).toNatClampNeg) (xs (nI i + (2 : Int32)).toNatClampNeg) (xs (nI i + (3 : Int32)).toNatClampNeg)
  unfold F_L_law_553
  rw [k1, k2, k3, e1, zp_b2, k1, k2, k3, e2, zp_b2, if_pos rfl]
  exact zm_824 hR h'
theorem zm_596 {xs : Nat → Int32} {L i : Nat} {r : Ob → Int64 → Ob → Ob → Ob → Ob → Ob → Ob → Ob → Ob → Ob → Ob → Ob → Ob → Ob → Int64 → Ad → Ad → Int32 → Option (Int32)} (hR : zm_R r (nI (i + 4))) (hL : i + 3 < L) (hL2 : L ≤ 256) {Xm : Ob} {tr : Int64} {Tx Rd Tk Pr Sg Ah Tn Yi Im0 Im1 Yt Yr Md : Ob} {mt : Int64} {aYt aYr : Ad} (h : zr Xm tr Tx Pr Sg Im0 Im1 Yt Md mt) : F_L_law_596 xs L r Xm tr Tx Rd Tk Pr Sg Ah Tn Yi Im0 Im1 Yt Yr Md mt aYt aYr (nI i) = some 1 := by
  have k1 : ∀ {α : Type} (y : Option α), zs_ck (nI i + (1 : Int32)) L y = y := fun y => zp_ckl (i + 1) (nI_add i 1) (by omega) (by omega)
  have k2 : ∀ {α : Type} (y : Option α), zs_ck (nI i + (2 : Int32)) L y = y := fun y => zp_ckl (i + 2) (nI_add i 2) (by omega) (by omega)
  obtain ⟨r1, Tn', Yi', Md', e1, e2, h'⟩ := zo_harm h Ah Tn Yi (xs (nI i + (1 : Int32)).toNatClampNeg) (xs (nI i + (2 : Int32)).toNatClampNeg)
  unfold F_L_law_596
  rw [k1, k2, e1, zp_b3, k1, k2, e2, zp_b2, if_pos rfl]
  exact zm_824 hR h'
theorem zm_629 {xs : Nat → Int32} {L i : Nat} {r : Ob → Int64 → Ob → Ob → Ob → Ob → Ob → Ob → Ob → Ob → Ob → Ob → Ob → Ob → Ob → Int64 → Ad → Ad → Int32 → Option (Int32)} (hR : zm_R r (nI (i + 4))) (hL : i + 3 < L) (hL2 : L ≤ 256) {Xm : Ob} {tr : Int64} {Tx Rd Tk Pr Sg Ah Tn Yi Im0 Im1 Yt Yr Md : Ob} {mt : Int64} {aYt aYr : Ad} (h : zr Xm tr Tx Pr Sg Im0 Im1 Yt Md mt) : F_L_law_629 xs L r Xm tr Tx Rd Tk Pr Sg Ah Tn Yi Im0 Im1 Yt Yr Md mt aYt aYr (nI i) = some 1 := by
  have k1 : ∀ {α : Type} (y : Option α), zs_ck (nI i + (1 : Int32)) L y = y := fun y => zp_ckl (i + 1) (nI_add i 1) (by omega) (by omega)
  have k2 : ∀ {α : Type} (y : Option α), zs_ck (nI i + (2 : Int32)) L y = y := fun y => zp_ckl (i + 2) (nI_add i 2) (by omega) (by omega)
  have k3 : ∀ {α : Type} (y : Option α), zs_ck (nI i + (3 : Int32)) L y = y := fun y => zp_ckl (i + 3) (nI_add i 3) (by omega) (by omega)
  obtain ⟨r1, Sg', Md', e1, e2, h'⟩ := zo_saw h (xs (nI i + (1 : Int32)).toNatClampNeg) (xs (nI i + (2 : Int32)).toNatClampNeg) (xs (nI i + (3 : Int32)).toNatClampNeg)
  unfold F_L_law_629
  rw [k1, k2, k3, e1, zp_b2, k1, k2, k3, e2, zp_b2, if_pos rfl]
  exact zm_824 hR h'
theorem zm_672 {xs : Nat → Int32} {L i : Nat} {r : Ob → Int64 → Ob → Ob → Ob → Ob → Ob → Ob → Ob → Ob → Ob → Ob → Ob → Ob → Ob → Int64 → Ad → Ad → Int32 → Option (Int32)} (hR : zm_R r (nI (i + 4))) {Xm : Ob} {tr : Int64} {Tx Rd Tk Pr Sg Ah Tn Yi Im0 Im1 Yt Yr Md : Ob} {mt : Int64} {aYt aYr : Ad} (h : zr Xm tr Tx Pr Sg Im0 Im1 Yt Md mt) : F_L_law_672 xs L r Xm tr Tx Rd Tk Pr Sg Ah Tn Yi Im0 Im1 Yt Yr Md mt aYt aYr (nI i) = some 1 := by
  obtain ⟨r1, Sg', Md', e1, e2, h'⟩ := zo_forget h
  unfold F_L_law_672
  rw [e1, zp_b2, e2, zp_b2, if_pos rfl]
  exact zm_824 hR h'
theorem zm_685 {xs : Nat → Int32} {L i : Nat} {r : Ob → Int64 → Ob → Ob → Ob → Ob → Ob → Ob → Ob → Ob → Ob → Ob → Ob → Ob → Ob → Int64 → Ad → Ad → Int32 → Option (Int32)} (hR : zm_R r (nI (i + 4))) (hL : i + 3 < L) (hL2 : L ≤ 256) {Xm : Ob} {tr : Int64} {Tx Rd Tk Pr Sg Ah Tn Yi Im0 Im1 Yt Yr Md : Ob} {mt : Int64} {aYt aYr : Ad} (h : zr Xm tr Tx Pr Sg Im0 Im1 Yt Md mt) : F_L_law_685 xs L r Xm tr Tx Rd Tk Pr Sg Ah Tn Yi Im0 Im1 Yt Yr Md mt aYt aYr (nI i) = some 1 := by
  have k1 : ∀ {α : Type} (y : Option α), zs_ck (nI i + (1 : Int32)) L y = y := fun y => zp_ckl (i + 1) (nI_add i 1) (by omega) (by omega)
  obtain ⟨r1, Tn', Yi', Md', e1, e2, h'⟩ := zo_holes h Ah Tn Yi (xs (nI i + (1 : Int32)).toNatClampNeg)
  unfold F_L_law_685
  rw [k1, e1, zp_b3, k1, e2, zp_b2, if_pos rfl]
  exact zm_824 hR h'
theorem zm_708 {xs : Nat → Int32} {L i : Nat} {r : Ob → Int64 → Ob → Ob → Ob → Ob → Ob → Ob → Ob → Ob → Ob → Ob → Ob → Ob → Ob → Int64 → Ad → Ad → Int32 → Option (Int32)} (hR : zm_R r (nI (i + 4))) (hL : i + 3 < L) (hL2 : L ≤ 256) {Xm : Ob} {tr : Int64} {Tx Rd Tk Pr Sg Ah Tn Yi Im0 Im1 Yt Yr Md : Ob} {mt : Int64} {aYt aYr : Ad} (h : zr Xm tr Tx Pr Sg Im0 Im1 Yt Md mt) : F_L_law_708 xs L r Xm tr Tx Rd Tk Pr Sg Ah Tn Yi Im0 Im1 Yt Yr Md mt aYt aYr (nI i) = some 1 := by
  have k1 : ∀ {α : Type} (y : Option α), zs_ck (nI i + (1 : Int32)) L y = y := fun y => zp_ckl (i + 1) (nI_add i 1) (by omega) (by omega)
  have k2 : ∀ {α : Type} (y : Option α), zs_ck (nI i + (2 : Int32)) L y = y := fun y => zp_ckl (i + 2) (nI_add i 2) (by omega) (by omega)
  obtain ⟨r1, tr', mt', e1, e2, h'⟩ := zo_mark h (xs (nI i + (1 : Int32)).toNatClampNeg) (xs (nI i + (2 : Int32)).toNatClampNeg)
  unfold F_L_law_708
  rw [k1, k2, e1, zp_b2, k1, k2, e2, zp_b2, if_pos rfl]
  exact zm_824 hR h'
theorem zm_741 {xs : Nat → Int32} {L i : Nat} {r : Ob → Int64 → Ob → Ob → Ob → Ob → Ob → Ob → Ob → Ob → Ob → Ob → Ob → Ob → Ob → Int64 → Ad → Ad → Int32 → Option (Int32)} (hR : zm_R r (nI (i + 4))) (hL : i + 3 < L) (hL2 : L ≤ 256) {Xm : Ob} {tr : Int64} {Tx Rd Tk Pr Sg Ah Tn Yi Im0 Im1 Yt Yr Md : Ob} {mt : Int64} {aYt aYr : Ad} (h : zr Xm tr Tx Pr Sg Im0 Im1 Yt Md mt) : F_L_law_741 xs L r Xm tr Tx Rd Tk Pr Sg Ah Tn Yi Im0 Im1 Yt Yr Md mt aYt aYr (nI i) = some 1 := by
  have k1 : ∀ {α : Type} (y : Option α), zs_ck (nI i + (1 : Int32)) L y = y := fun y => zp_ckl (i + 1) (nI_add i 1) (by omega) (by omega)
  obtain ⟨r1, Xm', Im0', Im1', Md', e1, e2, h'⟩ := zo_keep h (xs (nI i + (1 : Int32)).toNatClampNeg)
  unfold F_L_law_741
  rw [k1, e1, zp_b4, k1, e2, zp_b2, if_pos rfl]
  exact zm_824 hR h'
theorem zm_764 {xs : Nat → Int32} {L i : Nat} {r : Ob → Int64 → Ob → Ob → Ob → Ob → Ob → Ob → Ob → Ob → Ob → Ob → Ob → Ob → Ob → Int64 → Ad → Ad → Int32 → Option (Int32)} (hR : zm_R r (nI (i + 4))) (hL : i + 3 < L) (hL2 : L ≤ 256) {Xm : Ob} {tr : Int64} {Tx Rd Tk Pr Sg Ah Tn Yi Im0 Im1 Yt Yr Md : Ob} {mt : Int64} {aYt aYr : Ad} (h : zr Xm tr Tx Pr Sg Im0 Im1 Yt Md mt) : F_L_law_764 xs L r Xm tr Tx Rd Tk Pr Sg Ah Tn Yi Im0 Im1 Yt Yr Md mt aYt aYr (nI i) = some 1 := by
  have k1 : ∀ {α : Type} (y : Option α), zs_ck (nI i + (1 : Int32)) L y = y := fun y => zp_ckl (i + 1) (nI_add i 1) (by omega) (by omega)
  obtain ⟨r1, Pr', Md', e1, e2, h'⟩ := zo_back h (xs (nI i + (1 : Int32)).toNatClampNeg)
  unfold F_L_law_764
  rw [k1, e1, zp_b2, k1, e2, zp_b2, if_pos rfl]
  exact zm_824 hR h'
theorem zm_787 {xs : Nat → Int32} {L i : Nat} {r : Ob → Int64 → Ob → Ob → Ob → Ob → Ob → Ob → Ob → Ob → Ob → Ob → Ob → Ob → Ob → Int64 → Ad → Ad → Int32 → Option (Int32)} (hR : zm_R r (nI (i + 4))) (hL : i + 3 < L) (hL2 : L ≤ 256) {Xm : Ob} {tr : Int64} {Tx Rd Tk Pr Sg Ah Tn Yi Im0 Im1 Yt Yr Md : Ob} {mt : Int64} {aYt aYr : Ad} (h : zr Xm tr Tx Pr Sg Im0 Im1 Yt Md mt) : F_L_law_787 xs L r Xm tr Tx Rd Tk Pr Sg Ah Tn Yi Im0 Im1 Yt Yr Md mt aYt aYr (nI i) = some 1 := by
  have k1 : ∀ {α : Type} (y : Option α), zs_ck (nI i + (1 : Int32)) L y = y := fun y => zp_ckl (i + 1) (nI_add i 1) (by omega) (by omega)
  obtain ⟨r1, e1, e2⟩ := zo_count h (xs (nI i + (1 : Int32)).toNatClampNeg)
  unfold F_L_law_787
  rw [k1, e1, zp_bd, k1, e2, zp_bd, if_pos rfl]
  exact zm_824 hR h
theorem zm_810 {xs : Nat → Int32} {L i : Nat} {r : Ob → Int64 → Ob → Ob → Ob → Ob → Ob → Ob → Ob → Ob → Ob → Ob → Ob → Ob → Ob → Int64 → Ad → Ad → Int32 → Option (Int32)} (hR : zm_R r (nI (i + 4))) {Xm : Ob} {tr : Int64} {Tx Rd Tk Pr Sg Ah Tn Yi Im0 Im1 Yt Yr Md : Ob} {mt : Int64} {aYt aYr : Ad} (h : zr Xm tr Tx Pr Sg Im0 Im1 Yt Md mt) : F_L_law_810 xs L r Xm tr Tx Rd Tk Pr Sg Ah Tn Yi Im0 Im1 Yt Yr Md mt aYt aYr (nI i) = some 1 := by
  obtain ⟨r1, e1, e2⟩ := zo_trace h
  unfold F_L_law_810
  rw [e1, zp_bd, e2, zp_bd, if_pos ((lg_cmp_eq _ _).mpr rfl)]
  exact zm_824 hR h
theorem zm_4 : ∀ L, L < 257 → (Int32.ofNat L - (4 : Int32)).toInt = (L : Int) - 4 := by decide +kernel
theorem zm_lt {L i : Nat} (hL : L ≤ 256) (hi : i ≤ 256) : (Int32.ofNat L - (4 : Int32) < nI i) ↔ L < i + 4 := by
  rw [Int32.lt_iff_toInt_lt, zm_4 L (by omega), nI_toInt (by omega)]; omega
theorem zm_turn {xs : Nat → Int32} {L i : Nat} {r : Ob → Int64 → Ob → Ob → Ob → Ob → Ob → Ob → Ob → Ob → Ob → Ob → Ob → Ob → Ob → Int64 → Ad → Ad → Int32 → Option (Int32)} (hR : zm_R r (nI (i + 4))) (hL : i + 3 < L) (hL2 : L ≤ 256) {Xm : Ob} {tr : Int64} {Tx Rd Tk Pr Sg Ah Tn Yi Im0 Im1 Yt Yr Md : Ob} {mt : Int64} {aYt aYr : Ad} (h : zr Xm tr Tx Pr Sg Im0 Im1 Yt Md mt) : F_L_law_18_s xs L r Xm tr Tx Rd Tk Pr Sg Ah Tn Yi Im0 Im1 Yt Yr Md mt aYt aYr (nI i) = some 1 := by
  unfold F_L_law_18_s
  rw [if_neg (fun q => by have := (zm_lt hL2 (show i ≤ 256 by omega)).mp q; omega), zp_ck (show i < L by omega) (by omega)]
  by_cases c0 : xs (nI i).toNatClampNeg &&& (31 : Int32) = (0 : Int32)
  · rw [if_pos c0]; exact zm_148 hR hL hL2 h
  rw [if_neg c0]
  by_cases c1 : xs (nI i).toNatClampNeg &&& (31 : Int32) = (1 : Int32)
  · rw [if_pos c1]; exact zm_211 hR h
  rw [if_neg c1]
  by_cases c2 : xs (nI i).toNatClampNeg &&& (31 : Int32) = (2 : Int32)
  · rw [if_pos c2]; exact zm_224 hR h
  rw [if_neg c2]
  by_cases c3 : xs (nI i).toNatClampNeg &&& (31 : Int32) = (3 : Int32)
  · rw [if_pos c3]; exact zm_237 hR hL hL2 h
  rw [if_neg c3]
  by_cases c4 : xs (nI i).toNatClampNeg &&& (31 : Int32) = (4 : Int32)
  · rw [if_pos c4]; exact zm_270 hR hL hL2 h
  rw [if_neg c4]
  by_cases c5 : xs (nI i).toNatClampNeg &&& (31 : Int32) = (5 : Int32)
  · rw [if_pos c5]; exact zm_303 hR h
  rw [if_neg c5]
  by_cases c6 : xs (nI i).toNatClampNeg &&& (31 : Int32) = (6 : Int32)
  · rw [if_pos c6]; exact zm_316 hR hL hL2 h
  rw [if_neg c6]
  by_cases c7 : xs (nI i).toNatClampNeg &&& (31 : Int32) = (7 : Int32)
  · rw [if_pos c7]; exact zm_349 hR hL hL2 h
  rw [if_neg c7]
  by_cases c8 : xs (nI i).toNatClampNeg &&& (31 : Int32) = (8 : Int32)
  · rw [if_pos c8]; exact zm_382 hR h
  rw [if_neg c8]
  by_cases c9 : xs (nI i).toNatClampNeg &&& (31 : Int32) = (9 : Int32)
  · rw [if_pos c9]; exact zm_395 hR hL hL2 h
  rw [if_neg c9]
  by_cases c10 : xs (nI i).toNatClampNeg &&& (31 : Int32) = (10 : Int32)
  · rw [if_pos c10]; exact zm_418 hR hL hL2 h
  rw [if_neg c10]
  by_cases c11 : xs (nI i).toNatClampNeg &&& (31 : Int32) = (11 : Int32)
  · rw [if_pos c11]; exact zm_451 hR hL hL2 h
  rw [if_neg c11]
  by_cases c12 : xs (nI i).toNatClampNeg &&& (31 : Int32) = (12 : Int32)
  · rw [if_pos c12]; exact zm_474 hR h
  rw [if_neg c12]
  by_cases c13 : xs (nI i).toNatClampNeg &&& (31 : Int32) = (13 : Int32)
  · rw [if_pos c13]; exact zm_487 hR hL hL2 h
  rw [if_neg c13]
  by_cases c14 : xs (nI i).toNatClampNeg &&& (31 : Int32) = (14 : Int32)
  · rw [if_pos c14]; exact zm_520 hR hL hL2 h
  rw [if_neg c14]
  by_cases c15 : xs (nI i).toNatClampNeg &&& (31 : Int32) = (15 : Int32)
  · rw [if_pos c15]; exact zm_553 hR hL hL2 h
  rw [if_neg c15]
  by_cases c16 : xs (nI i).toNatClampNeg &&& (31 : Int32) = (16 : Int32)
  · rw [if_pos c16]; exact zm_596 hR hL hL2 h
  rw [if_neg c16]
  by_cases c17 : xs (nI i).toNatClampNeg &&& (31 : Int32) = (17 : Int32)
  · rw [if_pos c17]; exact zm_629 hR hL hL2 h
  rw [if_neg c17]
  by_cases c18 : xs (nI i).toNatClampNeg &&& (31 : Int32) = (18 : Int32)
  · rw [if_pos c18]; exact zm_672 hR h
  rw [if_neg c18]
  by_cases c19 : xs (nI i).toNatClampNeg &&& (31 : Int32) = (19 : Int32)
  · rw [if_pos c19]; exact zm_685 hR hL hL2 h
  rw [if_neg c19]
  by_cases c20 : xs (nI i).toNatClampNeg &&& (31 : Int32) = (20 : Int32)
  · rw [if_pos c20]; exact zm_708 hR hL hL2 h
  rw [if_neg c20]
  by_cases c21 : xs (nI i).toNatClampNeg &&& (31 : Int32) = (21 : Int32)
  · rw [if_pos c21]; exact zm_741 hR hL hL2 h
  rw [if_neg c21]
  by_cases c22 : xs (nI i).toNatClampNeg &&& (31 : Int32) = (22 : Int32)
  · rw [if_pos c22]; exact zm_764 hR hL hL2 h
  rw [if_neg c22]
  by_cases c23 : xs (nI i).toNatClampNeg &&& (31 : Int32) = (23 : Int32)
  · rw [if_pos c23]; exact zm_787 hR hL hL2 h
  rw [if_neg c23]
  by_cases c24 : xs (nI i).toNatClampNeg &&& (31 : Int32) = (24 : Int32)
  · rw [if_pos c24]; exact zm_810 hR h
  rw [if_neg c24]
  exact zm_824 hR h
theorem zm_key {xs : Nat → Int32} {L : Nat} (hL : L ≤ 256) : ∀ (k i f : Nat), i ≤ L → L < i + 4 * k + 4 → k < f → zm_R (F_L_law_18 xs L f) (nI i) := by
  intro k
  induction k with
  | zero =>
    intro i f hi hk hf Xm tr Tx Rd Tk Pr Sg Ah Tn Yi Im0 Im1 Yt Yr Md mt aYt aYr h
    obtain ⟨f, rfl⟩ := zp_f1 hf
    rw [F_L_law_18_n]; unfold F_L_law_18_s
    rw [if_pos ((zm_lt hL (by omega)).mpr (by omega))]
  | succ k ih =>
    intro i f hi hk hf Xm tr Tx Rd Tk Pr Sg Ah Tn Yi Im0 Im1 Yt Yr Md mt aYt aYr h
    obtain ⟨f, rfl⟩ := zp_f1 hf
    rw [F_L_law_18_n]
    by_cases c : L < i + 4
    · unfold F_L_law_18_s
      rw [if_pos ((zm_lt hL (by omega)).mpr c)]
    · exact zm_turn (ih (i + 4) f (by omega) (by omega) (by omega)) (by omega) hL h
theorem zm_P0 (n : Int32) : zr_P 0 0 0 0 0 0 (fun _ => 0) (fun _ => 0) zs_Z := by
  refine ⟨⟨rfl, rfl, rfl, rfl, rfl⟩, fun j hj => absurd hj (by omega), ⟨0, rfl, by decide⟩, ⟨0, rfl, by decide⟩, ⟨0, rfl, by omega, fun i hi => absurd hi (by omega)⟩, 0, fun _ => 0, rfl, by omega, fun w hw => absurd hw (by omega), ?_⟩
  simp [zp_sm]
theorem zm_main {xs : Nat → Int32} {L : Nat} (hL : L ≤ 256) : ∃ Y0 : Ob, F_X6_makeEmpty zs_Z = some Y0 ∧ ∀ aYt aYr : Ad, F_L_law_18 xs L 1000 zs_Z 0 zs_Z zs_Z zs_Z zs_Z zs_Z zs_Z zs_Z Y0 zs_Z zs_Z Y0 Y0 zs_Md0 0 aYt aYr 0 = some 1 := by
  obtain ⟨Y0, e0, y0, y1, y3, y4⟩ := zc_empty zs_Z
  refine ⟨Y0, e0, fun aYt aYr => ?_⟩
  refine zm_key hL 64 0 1000 (by omega) (by omega) (by omega) _ _ _ _ _ _ _ _ _ _ _ _ _ _ _ _ _ _ ⟨0, ?_, zm_P0 0, ?_, ?_, ?_, rfl⟩
  · have zs : zp_sm (fun _ => 0) 6 = 0 := by rw [zp_smk]
    refine ⟨⟨y0, rfl, by omega, y1⟩, ⟨fun j hj => absurd hj (by omega), fun j hj => absurd hj (by omega), fun j hj => absurd hj (by omega), fun j hj => absurd hj (by omega), fun j hj => y4 j hj, fun j hj => y3 7 (Or.inr (Or.inr (Or.inr (Or.inr (Or.inr rfl))))) j hj⟩, fun _ => 0, fun _ => 0, fun _ => 0, fun _ _ => 0, fun w hw => absurd hw (by omega), fun w hw => absurd hw (by omega), fun w hw => absurd hw (by omega), fun i o hi ho => rfl, fun i hi => by rw [zs]; omega, fun i hi => by rw [zs]; exact y3 6 (Or.inr (Or.inr (Or.inr (Or.inr (Or.inl rfl))))) i hi, 99, rfl, by omega⟩
  · exact ⟨0, fun _ => 0, by omega, rfl, rfl, fun i hi => absurd hi (by omega)⟩
  · exact ⟨0, by omega, rfl, rfl, fun i hi => absurd hi (by omega)⟩
  · exact ⟨⟨0, rfl, by omega⟩, Or.inr ⟨by decide +kernel, by decide +kernel⟩, Or.inr ⟨by decide +kernel, by decide +kernel⟩⟩
