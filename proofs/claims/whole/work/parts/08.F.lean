/-! the JDK's methods over the four words: a word is its place k < 4 -/
def zs_len (k : Nat) : Nat := [4, 4, 4, 5].getD k 0
def zs_byt (k : Nat) : List Int32 := [[119, 97, 108, 108], [115, 101, 101, 115], [119, 111, 114, 107], [108, 105, 109, 105, 116]].getD k []
def zs_chr (k : Nat) (i : Int32) : Int32 := (((zs_byt k).getD i.toNatClampNeg 0 &&& 255).toUInt32 % 65536).toInt32
/-- a place of a word -/
def zs_ch {α : Type} (k : Nat) (i : Int32) (x : Option α) : Option α := if ¬ i < 0 ∧ i < nI (zs_len k) then x else none
theorem zs_chS {α : Type} {k : Nat} {i : Int32} {x : Option α} {r : α} (h : zs_ch k i x = some r) : (¬ i < 0 ∧ i < nI (zs_len k)) ∧ x = some r := by
  unfold zs_ch at h
  by_cases hc : ¬ i < 0 ∧ i < nI (zs_len k)
  · rw [if_pos hc] at h; exact ⟨hc, h⟩
  · rw [if_neg hc] at h; cases h
def wX0 (G : GG) (a aTn aYi : Ad) (P : Ob) : va_W := [(a 0, .inr (0, [.ref (aTn 0), .ref (aYi 0), .ref (a 1)])), (a 1, .inl (G.2.1, (48, .inl (P 1))))]
def wX1 (G : GG) (a : Ad) (P : Ob) : va_W := [(a 0, .inr (1, [.int (P 0 0), .int (P 0 1), .int (P 0 2), .int (P 0 3), .int (P 0 4), .ref (a 1), .ref (a 2), .ref (a 3)])), (a 1, .inl (G.2.1, (6, .inl (P 1)))), (a 2, .inl (G.2.1, (6, .inl (P 2)))), (a 3, .inl (G.2.1, (10, .inl (P 3))))]
def wX2 (G : GG) (a aTk : Ad) (P : Ob) : va_W := [(a 0, .inr (2, [.ref (aTk 0), .int (P 0 1), .int (P 0 2), .int (P 0 3), .int (P 0 4), .int (P 0 5)]))]
def wX3 (G : GG) (a : Ad) (P : Ob) : va_W := [(a 0, .inr (3, [.int (P 0 0), .ref (a 1), .ref (a 2), .ref (a 3)])), (a 1, .inl (G.2.1, (8, .inl (P 1)))), (a 2, .inl (G.2.1, (8, .inl (P 2)))), (a 3, .inl (G.2.1, (8, .inl (P 3))))]
def wX4 (G : GG) (a : Ad) (P : Ob) : va_W := [(a 0, .inr (4, [.ref (a 1), .int (P 0 1)])), (a 1, .inl (G.2.2.1, (250, .inl (P 1))))]
def wX5 (G : GG) (a : Ad) (P : Ob) : va_W := [(a 0, .inr (5, [.ref (a 1), .ref (a 2), .ref (a 3), .int (P 0 3)])), (a 1, .inl (G.2.1, (251, .inl (P 1)))), (a 2, .inl (G.2.1, (251, .inl (P 2)))), (a 3, .inl (G.2.1, (251, .inl (P 3))))]
def wX6 (G : GG) (a : Ad) (P : Ob) : va_W := [(a 0, .inr (6, [.int (P 0 0), .int (P 0 1), .ref (a 1), .ref (a 2), .ref (a 3), .ref (a 4), .ref (a 5), .ref (a 6), .ref (a 7)])), (a 1, .inl (G.2.1, (6, .inl (P 1)))), (a 2, .inl (G.2.1, (6, .inl (P 2)))), (a 3, .inl (G.2.1, (6, .inl (P 3)))), (a 4, .inl (G.2.1, (6, .inl (P 4)))), (a 5, .inl (G.2.1, (36, .inl (P 5)))), (a 6, .inl (G.2.1, (6, .inl (P 6)))), (a 7, .inl (G.2.1, (6, .inl (P 7))))]
def wX8 (G : GG) (a : Ad) (P : Ob) (t : Int64) : va_W := [(a 0, .inr (8, [.ref (a 1), .int (P 0 1), .int (P 0 2), .int (P 0 3), .int (P 0 4), .int (P 0 5), .int (P 0 6), .int (P 0 7), .ref (a 2), .ref (a 3), .int (P 0 10), .int (P 0 11), .ref (a 4), .ref (a 5), .ref (a 6), .ref (a 7), .ref (a 8), .ref (a 9), .int (P 0 18), .int (P 0 19), .int (P 0 20), .int (P 0 21), .ref (a 10), .ref (a 11), .int (P 0 24), .ref (a 12), .ref (a 13), .int (P 0 27), .ref (a 14), .ref (a 15), .ref (a 16), .long t, .ref (a 17)])), (a 1, .inl (G.2.1, (250, .inl (P 1)))), (a 2, .inl (G.2.1, (24, .inl (P 2)))), (a 3, .inl (G.2.1, (36, .inl (P 3)))), (a 4, .inl (G.2.1, (6, .inl (P 4)))), (a 5, .inl (G.2.1, (6, .inl (P 5)))), (a 6, .inl (G.2.1, (6, .inl (P 6)))), (a 7, .inl (G.2.1, (6, .inl (P 7)))), (a 8, .inl (G.2.1, (36, .inl (P 8)))), (a 9, .inl (G.2.1, (6, .inl (P 9)))), (a 10, .inl (G.2.1, (6, .inl (P 10)))), (a 11, .inl (G.2.1, (10, .inl (P 11)))), (a 12, .inl (G.2.1, (6, .inl (P 12)))), (a 13, .inl (G.2.1, (6, .inl (P 13)))), (a 14, .inl (G.2.1, (8, .inl (P 14)))), (a 15, .inl (G.2.1, (8, .inl (P 15)))), (a 16, .inl (G.2.1, (8, .inl (P 16)))), (a 17, .inl (G.2.1, (42, .inl (P 17))))]
def wX7 (G : GG) (a aTx aRd aPr aSg aAh aIm0 aIm1 aYt aYr : Ad) (P : Ob) (t : Int64) : va_W := [(a 0, .inr (7, [.ref (aTx 0), .ref (aRd 0), .ref (aPr 0), .ref (aSg 0), .ref (aAh 0), .ref (a 1), .ref (aYt 0), .ref (aYr 0), .int (P 0 8), .long t])), (a 1, .inl (G.2.2.2.1, (2, .inr (.inr (.inr (.inr (va_up (va_up (fun _ => none) 0 (some (aIm0 0))) 1 (some (aIm1 0)))))))))]
noncomputable def F_J6_bitCount_0f7a4 (u1 : Int32) : Option (Int32) :=
  zs_let ((u1 - ((((u1).toUInt32 >>> (((1 : Int32)).toUInt32 &&& Int32.toUInt32 31)).toInt32) &&& (1431655765 : Int32)))) (fun z1 => zs_let (((z1 &&& (858993459 : Int32)) + ((((z1).toUInt32 >>> (((2 : Int32)).toUInt32 &&& Int32.toUInt32 31)).toInt32) &&& (858993459 : Int32)))) (fun z3 => zs_let (((z3 + (((z3).toUInt32 >>> (((4 : Int32)).toUInt32 &&& Int32.toUInt32 31)).toInt32)) &&& (252645135 : Int32))) (fun z5 => zs_let ((z5 + (((z5).toUInt32 >>> (((8 : Int32)).toUInt32 &&& Int32.toUInt32 31)).toInt32))) (fun z7 => zs_let ((z7 + (((z7).toUInt32 >>> (((16 : Int32)).toUInt32 &&& Int32.toUInt32 31)).toInt32))) (fun z9 => some (z9 &&& (63 : Int32)))))))
noncomputable def F_X7_bit (u1 : Int32) (u2 : Int32) : Option (Int32) :=
  some ((u1 >>> (u2 &&& 31)) &&& (1 : Int32))
noncomputable def F_X7_isImage (u1 : Int32) : Option (Int32) :=
  (if u1 < 0 then some (0 : Int32) else (if (2 : Int32) ≤ u1 then some (0 : Int32) else some (1 : Int32)))
noncomputable def F_X7_isBit_9  : Option (Int32) :=
  some (1 : Int32)
noncomputable def F_X7_isBit (u1 : Int32) : Option (Int32) :=
  (if u1 = 0 then (F_X7_isBit_9) else (if u1 = (1 : Int32) then (F_X7_isBit_9) else some (0 : Int32)))
noncomputable def F_X7_isWithin (u1 : Int32) (u2 : Int32) : Option (Int32) :=
  (if u1 < 0 then some (0 : Int32) else (if u2 < u1 then some (0 : Int32) else some (1 : Int32)))
noncomputable def F_X7_leastOf_2_s (rec : Int32 → Int32 → Option (Int32)) (x0 : Int32) (x1 : Int32) : Option (Int32) :=
  (if (6 : Int32) ≤ x1 then some (-9 : Int32) else zs_bd (F_X7_bit x0 x1) (fun r3 => (if r3 = (1 : Int32) then some x1 else zs_let (x1 + (1 : Int32)) (fun z6 => (rec x0 z6)))))
noncomputable def F_X7_leastOf_2 (n : Nat) : Int32 → Int32 → Option (Int32) := zs_fix (fun _ _ => none) (F_X7_leastOf_2_s) n
theorem F_X7_leastOf_2_z (x0 : Int32) (x1 : Int32) : F_X7_leastOf_2 0 x0 x1 = none := rfl
theorem F_X7_leastOf_2_n (n : Nat) (x0 : Int32) (x1 : Int32) : F_X7_leastOf_2 (n + 1) x0 x1 = F_X7_leastOf_2_s (F_X7_leastOf_2 n) x0 x1 := rfl
noncomputable def F_X7_leastOf (u1 : Int32) : Option (Int32) :=
  (F_X7_leastOf_2 1000 u1 (0 : Int32))
noncomputable def F_X6_setLimit (Yd : Ob) (u1 : Int32) : Option (Ob) :=
  zs_let (zs_up Yd 0 1 (((10 : Int32) * u1) + (9 : Int32))) (fun Ydw1 => some Ydw1)
noncomputable def F_X6_makeEmpty_69_s (rec : Ob → Int32 → Option (Ob)) (Yd : Ob) (x1 : Int32) : Option (Ob) :=
  (if (36 : Int32) ≤ x1 then some Yd else zs_ck x1 36 (zs_let (zs_up Yd 5 (x1).toNatClampNeg (0 : Int32)) (fun Ydw4 => zs_let (x1 + (1 : Int32)) (fun z6 => (rec Ydw4 z6)))))
noncomputable def F_X6_makeEmpty_69 (n : Nat) : Ob → Int32 → Option (Ob) := zs_fix (fun _ _ => none) (F_X6_makeEmpty_69_s) n
theorem F_X6_makeEmpty_69_z (Yd : Ob) (x1 : Int32) : F_X6_makeEmpty_69 0 Yd x1 = none := rfl
theorem F_X6_makeEmpty_69_n (n : Nat) (Yd : Ob) (x1 : Int32) : F_X6_makeEmpty_69 (n + 1) Yd x1 = F_X6_makeEmpty_69_s (F_X6_makeEmpty_69 n) Yd x1 := rfl
noncomputable def F_X6_makeEmpty_67 (Yd : Ob) : Option (Ob) :=
  (F_X6_makeEmpty_69 1000 Yd (0 : Int32))
noncomputable def F_X6_makeEmpty_13_s (rec : Ob → Int32 → Option (Ob)) (Yd : Ob) (x1 : Int32) : Option (Ob) :=
  (if (6 : Int32) ≤ x1 then (F_X6_makeEmpty_67 Yd) else zs_ck x1 6 (zs_let (zs_up Yd 1 (x1).toNatClampNeg (0 : Int32)) (fun Ydw10 => zs_ck x1 6 (zs_let (zs_up Ydw10 2 (x1).toNatClampNeg (0 : Int32)) (fun Ydw13 => zs_ck x1 6 (zs_let (zs_up Ydw13 3 (x1).toNatClampNeg (0 : Int32)) (fun Ydw16 => zs_ck x1 6 (zs_let (zs_up Ydw16 4 (x1).toNatClampNeg (0 : Int32)) (fun Ydw19 => zs_ck x1 6 (zs_let (zs_up Ydw19 6 (x1).toNatClampNeg (0 : Int32)) (fun Ydw22 => zs_ck x1 6 (zs_let (zs_up Ydw22 7 (x1).toNatClampNeg (0 : Int32)) (fun Ydw25 => zs_let (x1 + (1 : Int32)) (fun z27 => (rec Ydw25 z27)))))))))))))))
noncomputable def F_X6_makeEmpty_13 (n : Nat) : Ob → Int32 → Option (Ob) := zs_fix (fun _ _ => none) (F_X6_makeEmpty_13_s) n
theorem F_X6_makeEmpty_13_z (Yd : Ob) (x1 : Int32) : F_X6_makeEmpty_13 0 Yd x1 = none := rfl
theorem F_X6_makeEmpty_13_n (n : Nat) (Yd : Ob) (x1 : Int32) : F_X6_makeEmpty_13 (n + 1) Yd x1 = F_X6_makeEmpty_13_s (F_X6_makeEmpty_13 n) Yd x1 := rfl
noncomputable def F_X6_makeEmpty (Yd : Ob) : Option (Ob) :=
  zs_let (zs_up Yd 0 0 (0 : Int32)) (fun Ydw29 => zs_bd (F_X6_setLimit Ydw29 (9 : Int32)) (fun Ydw31 => (F_X6_makeEmpty_13 1000 Ydw31 (0 : Int32))))
noncomputable def F_X6_copy_104_s (Yo : Ob) (rec : Ob → Int32 → Option (Ob)) (Yd : Ob) (x2 : Int32) : Option (Ob) :=
  (if (36 : Int32) ≤ x2 then some Yd else zs_ck x2 36 (zs_ck x2 36 (zs_let (zs_up Yd 5 (x2).toNatClampNeg (Yo 5 (x2).toNatClampNeg)) (fun Ydw5 => zs_let (x2 + (1 : Int32)) (fun z7 => (rec Ydw5 z7))))))
noncomputable def F_X6_copy_104 (Yo : Ob) (n : Nat) : Ob → Int32 → Option (Ob) := zs_fix (fun _ _ => none) (F_X6_copy_104_s Yo) n
theorem F_X6_copy_104_z (Yo : Ob) (Yd : Ob) (x2 : Int32) : F_X6_copy_104 Yo 0 Yd x2 = none := rfl
theorem F_X6_copy_104_n (Yo : Ob) (n : Nat) (Yd : Ob) (x2 : Int32) : F_X6_copy_104 Yo (n + 1) Yd x2 = F_X6_copy_104_s Yo (F_X6_copy_104 Yo n) Yd x2 := rfl
noncomputable def F_X6_copy_102 (Yo : Ob) (Yd : Ob) : Option (Ob) :=
  (F_X6_copy_104 Yo 1000 Yd (0 : Int32))
noncomputable def F_X6_copy_18_s (Yo : Ob) (rec : Ob → Int32 → Option (Ob)) (Yd : Ob) (x2 : Int32) : Option (Ob) :=
  (if (6 : Int32) ≤ x2 then (F_X6_copy_102 Yo Yd) else zs_ck x2 6 (zs_ck x2 6 (zs_let (zs_up Yd 1 (x2).toNatClampNeg (Yo 1 (x2).toNatClampNeg)) (fun Ydw12 => zs_ck x2 6 (zs_ck x2 6 (zs_let (zs_up Ydw12 2 (x2).toNatClampNeg (Yo 2 (x2).toNatClampNeg)) (fun Ydw16 => zs_ck x2 6 (zs_ck x2 6 (zs_let (zs_up Ydw16 3 (x2).toNatClampNeg (Yo 3 (x2).toNatClampNeg)) (fun Ydw20 => zs_ck x2 6 (zs_ck x2 6 (zs_let (zs_up Ydw20 4 (x2).toNatClampNeg (Yo 4 (x2).toNatClampNeg)) (fun Ydw24 => zs_ck x2 6 (zs_ck x2 6 (zs_let (zs_up Ydw24 6 (x2).toNatClampNeg (Yo 6 (x2).toNatClampNeg)) (fun Ydw28 => zs_ck x2 6 (zs_ck x2 6 (zs_let (zs_up Ydw28 7 (x2).toNatClampNeg (Yo 7 (x2).toNatClampNeg)) (fun Ydw32 => zs_let (x2 + (1 : Int32)) (fun z34 => (rec Ydw32 z34)))))))))))))))))))))
noncomputable def F_X6_copy_18 (Yo : Ob) (n : Nat) : Ob → Int32 → Option (Ob) := zs_fix (fun _ _ => none) (F_X6_copy_18_s Yo) n
theorem F_X6_copy_18_z (Yo : Ob) (Yd : Ob) (x2 : Int32) : F_X6_copy_18 Yo 0 Yd x2 = none := rfl
theorem F_X6_copy_18_n (Yo : Ob) (n : Nat) (Yd : Ob) (x2 : Int32) : F_X6_copy_18 Yo (n + 1) Yd x2 = F_X6_copy_18_s Yo (F_X6_copy_18 Yo n) Yd x2 := rfl
noncomputable def F_X6_copy (Yd : Ob) (Yo : Ob) : Option (Ob) :=
  zs_let (zs_up Yd 0 0 (Yo 0 0)) (fun Ydw36 => zs_let (zs_up Ydw36 0 1 (Yo 0 1)) (fun Ydw38 => (F_X6_copy_18 Yo 1000 Ydw38 (0 : Int32))))
noncomputable def F_X6_hasRoom (Yd : Ob) : Option (Int32) :=
  (if (6 : Int32) ≤ (Yd 0 0) then some (0 : Int32) else some (1 : Int32))
noncomputable def F_X6_addWall (Yd : Ob) (u1 : Int32) (u2 : Int32) : Option (Ob) :=
  zs_bd (F_X6_hasRoom Yd) (fun r1 => (if r1 = 0 then some Yd else zs_ck (Yd 0 0) 6 (zs_let (zs_up Yd 1 ((Yd 0 0)).toNatClampNeg u1) (fun Ydw6 => zs_ck (Ydw6 0 0) 6 (zs_let (zs_up Ydw6 2 ((Ydw6 0 0)).toNatClampNeg u2) (fun Ydw9 => zs_let (zs_up Ydw9 0 0 ((Ydw9 0 0) + (1 : Int32))) (fun Ydw11 => some Ydw11)))))))
noncomputable def F_X6_partsLeft (Yd : Ob) (u1 : Int32) (u2 : Int32) : Option (Int32) :=
  zs_ck u1 6 (zs_ck u2 6 (some ((10 : Int32) - (if (Yd 6 (u1).toNatClampNeg) < (Yd 6 (u2).toNatClampNeg) then (Yd 6 (u2).toNatClampNeg) else (Yd 6 (u1).toNatClampNeg)))))
noncomputable def F_X6_addParts (Yd : Ob) (u1 : Int32) (u2 : Int32) (u3 : Int32) : Option (Ob) :=
  zs_ck ((u1 * (6 : Int32)) + u2) 36 (zs_ck ((u1 * (6 : Int32)) + u2) 36 (zs_let (zs_up Yd 5 (((u1 * (6 : Int32)) + u2)).toNatClampNeg ((Yd 5 (((u1 * (6 : Int32)) + u2)).toNatClampNeg) + u3)) (fun Ydw3 => zs_ck ((u2 * (6 : Int32)) + u1) 36 (zs_ck ((u2 * (6 : Int32)) + u1) 36 (zs_let (zs_up Ydw3 5 (((u2 * (6 : Int32)) + u1)).toNatClampNeg ((Ydw3 5 (((u2 * (6 : Int32)) + u1)).toNatClampNeg) + u3)) (fun Ydw7 => zs_ck u1 6 (zs_ck u1 6 (zs_let (zs_up Ydw7 6 (u1).toNatClampNeg ((Ydw7 6 (u1).toNatClampNeg) + u3)) (fun Ydw11 => zs_ck u2 6 (zs_ck u2 6 (zs_let (zs_up Ydw11 6 (u2).toNatClampNeg ((Ydw11 6 (u2).toNatClampNeg) + u3)) (fun Ydw15 => some Ydw15))))))))))))
noncomputable def F_X6_dark (Yd : Ob) (u1 : Int32) : Option (Int32) :=
  zs_ck u1 6 (some ((10 : Int32) - (Yd 6 (u1).toNatClampNeg)))
noncomputable def F_X1_begin_27_s (Yd : Ob) (rec : Ob → Int32 → Option (Ob)) (Pr : Ob) (x2 : Int32) : Option (Ob) :=
  (if (6 : Int32) ≤ x2 then some Pr else zs_ck x2 6 (zs_ck x2 6 (zs_let (zs_up Pr 1 (x2).toNatClampNeg (Yd 1 (x2).toNatClampNeg)) (fun Prw5 => zs_let (x2 + (1 : Int32)) (fun z7 => (rec Prw5 z7))))))
noncomputable def F_X1_begin_27 (Yd : Ob) (n : Nat) : Ob → Int32 → Option (Ob) := zs_fix (fun _ _ => none) (F_X1_begin_27_s Yd) n
theorem F_X1_begin_27_z (Yd : Ob) (Pr : Ob) (x2 : Int32) : F_X1_begin_27 Yd 0 Pr x2 = none := rfl
theorem F_X1_begin_27_n (Yd : Ob) (n : Nat) (Pr : Ob) (x2 : Int32) : F_X1_begin_27 Yd (n + 1) Pr x2 = F_X1_begin_27_s Yd (F_X1_begin_27 Yd n) Pr x2 := rfl
noncomputable def F_X1_begin (Pr : Ob) (Yd : Ob) : Option (Ob) :=
  zs_let (zs_up Pr 0 0 (0 : Int32)) (fun Prw9 => zs_let (zs_up Prw9 0 1 (0 : Int32)) (fun Prw11 => zs_let (zs_up Prw11 0 2 (0 : Int32)) (fun Prw13 => zs_let (zs_up Prw13 0 3 (0 : Int32)) (fun Prw15 => zs_let (zs_up Prw15 0 4 (0 : Int32)) (fun Prw17 => (F_X1_begin_27 Yd 1000 Prw17 (0 : Int32)))))))
noncomputable def F_X1_copy_34_s (Po : Ob) (rec : Ob → Int32 → Option (Ob)) (Pr : Ob) (x2 : Int32) : Option (Ob) :=
  (if (6 : Int32) ≤ x2 then some Pr else zs_ck x2 6 (zs_ck x2 6 (zs_let (zs_up Pr 1 (x2).toNatClampNeg (Po 1 (x2).toNatClampNeg)) (fun Prw5 => zs_let (x2 + (1 : Int32)) (fun z7 => (rec Prw5 z7))))))
noncomputable def F_X1_copy_34 (Po : Ob) (n : Nat) : Ob → Int32 → Option (Ob) := zs_fix (fun _ _ => none) (F_X1_copy_34_s Po) n
theorem F_X1_copy_34_z (Po : Ob) (Pr : Ob) (x2 : Int32) : F_X1_copy_34 Po 0 Pr x2 = none := rfl
theorem F_X1_copy_34_n (Po : Ob) (n : Nat) (Pr : Ob) (x2 : Int32) : F_X1_copy_34 Po (n + 1) Pr x2 = F_X1_copy_34_s Po (F_X1_copy_34 Po n) Pr x2 := rfl
noncomputable def F_X1_copy (Pr : Ob) (Po : Ob) : Option (Ob) :=
  zs_let (zs_up Pr 0 0 (Po 0 0)) (fun Prw9 => zs_let (zs_up Prw9 0 1 (Po 0 1)) (fun Prw11 => zs_let (zs_up Prw11 0 2 (Po 0 2)) (fun Prw13 => zs_let (zs_up Prw13 0 3 (Po 0 3)) (fun Prw15 => (F_X1_copy_34 Po 1000 Prw15 (0 : Int32))))))
noncomputable def F_X1_copyWithChanges_15_s (Po : Ob) (rec : Ob → Int32 → Option (Ob)) (Pr : Ob) (x2 : Int32) : Option (Ob) :=
  (if (10 : Int32) ≤ x2 then some Pr else zs_ck x2 10 (zs_ck x2 10 (zs_let (zs_up Pr 3 (x2).toNatClampNeg (Po 3 (x2).toNatClampNeg)) (fun Prw5 => zs_let (x2 + (1 : Int32)) (fun z7 => (rec Prw5 z7))))))
noncomputable def F_X1_copyWithChanges_15 (Po : Ob) (n : Nat) : Ob → Int32 → Option (Ob) := zs_fix (fun _ _ => none) (F_X1_copyWithChanges_15_s Po) n
theorem F_X1_copyWithChanges_15_z (Po : Ob) (Pr : Ob) (x2 : Int32) : F_X1_copyWithChanges_15 Po 0 Pr x2 = none := rfl
theorem F_X1_copyWithChanges_15_n (Po : Ob) (n : Nat) (Pr : Ob) (x2 : Int32) : F_X1_copyWithChanges_15 Po (n + 1) Pr x2 = F_X1_copyWithChanges_15_s Po (F_X1_copyWithChanges_15 Po n) Pr x2 := rfl
noncomputable def F_X1_copyWithChanges (Pr : Ob) (Po : Ob) : Option (Ob) :=
  zs_bd (F_X1_copy Pr Po) (fun Prw9 => zs_let (zs_up Prw9 0 4 (Po 0 4)) (fun Prw11 => (F_X1_copyWithChanges_15 Po 1000 Prw11 (0 : Int32))))
noncomputable def F_X1_turn (Pr : Ob) (u1 : Int32) : Option (Ob) :=
  (if (6 : Int32) ≤ u1 then zs_let (zs_up Pr 0 2 ((Pr 0 2) ^^^ ((1 : Int32) <<< ((u1 - (6 : Int32)) &&& 31)))) (fun Prw2 => some Prw2) else zs_let (zs_up Pr 0 1 ((Pr 0 1) ^^^ ((1 : Int32) <<< (u1 &&& 31)))) (fun Prw5 => some Prw5))
noncomputable def F_X1_change_43 (Pr : Ob) (x1 : Int32) : Option (Ob) :=
  zs_ck (Pr 0 4) 10 (zs_let (zs_up Pr 3 ((Pr 0 4)).toNatClampNeg x1) (fun Prw2 => zs_let (zs_up Prw2 0 4 ((Prw2 0 4) + (1 : Int32))) (fun Prw4 => zs_bd (F_X1_turn Prw4 x1) (fun Prw6 => some Prw6))))
noncomputable def F_X1_change_37 (Pr : Ob) (x1 : Int32) : Option (Ob) :=
  zs_let (zs_up Pr 0 4 (9 : Int32)) (fun Prw9 => (F_X1_change_43 Prw9 x1))
noncomputable def F_X1_change_11_s (rec : Ob → Int32 → Int32 → Option (Ob)) (Pr : Ob) (x1 : Int32) (x2 : Int32) : Option (Ob) :=
  (if (10 : Int32) ≤ x2 then (F_X1_change_37 Pr x1) else zs_ck x2 10 (zs_ck (x2 - (1 : Int32)) 10 (zs_let (zs_up Pr 3 ((x2 - (1 : Int32))).toNatClampNeg (Pr 3 (x2).toNatClampNeg)) (fun Prw14 => zs_let (x2 + (1 : Int32)) (fun z16 => (rec Prw14 x1 z16))))))
noncomputable def F_X1_change_11 (n : Nat) : Ob → Int32 → Int32 → Option (Ob) := zs_fix (fun _ _ _ => none) (F_X1_change_11_s) n
theorem F_X1_change_11_z (Pr : Ob) (x1 : Int32) (x2 : Int32) : F_X1_change_11 0 Pr x1 x2 = none := rfl
theorem F_X1_change_11_n (n : Nat) (Pr : Ob) (x1 : Int32) (x2 : Int32) : F_X1_change_11 (n + 1) Pr x1 x2 = F_X1_change_11_s (F_X1_change_11 n) Pr x1 x2 := rfl
noncomputable def F_X1_change (Pr : Ob) (u1 : Int32) : Option (Ob) :=
  (if (Pr 0 4) < (10 : Int32) then (F_X1_change_43 Pr u1) else (F_X1_change_11 1000 Pr u1 (1 : Int32)))
noncomputable def F_X1_changeBack (Pr : Ob) : Option (Ob) :=
  (if (Pr 0 4) ≤ 0 then some Pr else zs_let (zs_up Pr 0 4 ((Pr 0 4) - (1 : Int32))) (fun Prw3 => zs_ck (Prw3 0 4) 10 (zs_bd (F_X1_turn Prw3 (Prw3 3 ((Prw3 0 4)).toNatClampNeg)) (fun Prw6 => some Prw6))))
noncomputable def F_X1_giveOff_156 (Yd : Ob) (r55 : Ob → Int32 → Int32 → Int32 → Int32 → Option (Int32 × Ob)) (Pr : Ob) (x2 : Int32) (x3 : Int32) (x4 : Int32) (x5 : Int32) : Option (Int32 × Ob) :=
  zs_let (x5 + (1 : Int32)) (fun z1 => (r55 Pr x2 x3 x4 z1))
noncomputable def F_X1_giveOff_55_s (Yd : Ob) (rec : Ob → Int32 → Int32 → Int32 → Int32 → Option (Int32 × Ob)) (Pr : Ob) (x2 : Int32) (x3 : Int32) (x4 : Int32) (x5 : Int32) : Option (Int32 × Ob) :=
  (if (Yd 0 0) ≤ x5 then some (x4, Pr) else zs_ck ((x2 * (6 : Int32)) + x5) 36 (zs_let (((x3 * (Yd 5 (((x2 * (6 : Int32)) + x5)).toNatClampNeg)) / (10 : Int32))) (fun z7 => (if z7 = 0 then (F_X1_giveOff_156 Yd rec Pr x2 x3 x4 x5) else zs_bd (F_X7_bit (Pr 0 2) x5) (fun r10 => (if r10 = (1 : Int32) then zs_ck x2 6 (zs_ck x2 6 (zs_let (zs_up Pr 2 (x2).toNatClampNeg ((Pr 2 (x2).toNatClampNeg) + z7)) (fun Prw24 => zs_let ((x4 - z7)) (fun z26 => (F_X1_giveOff_156 Yd rec Prw24 x2 x3 z26 x5))))) else zs_bd (F_X7_bit (Pr 0 1) x5) (fun r13 => (if r13 = 0 then zs_ck x5 6 (zs_ck x5 6 (zs_let (zs_up Pr 2 (x5).toNatClampNeg ((Pr 2 (x5).toNatClampNeg) + z7)) (fun Prw18 => zs_let ((x4 - z7)) (fun z20 => (F_X1_giveOff_156 Yd rec Prw18 x2 x3 z20 x5))))) else (F_X1_giveOff_156 Yd rec Pr x2 x3 x4 x5)))))))))
noncomputable def F_X1_giveOff_55 (Yd : Ob) (n : Nat) : Ob → Int32 → Int32 → Int32 → Int32 → Option (Int32 × Ob) := zs_fix (fun _ _ _ _ _ => none) (F_X1_giveOff_55_s Yd) n
theorem F_X1_giveOff_55_z (Yd : Ob) (Pr : Ob) (x2 : Int32) (x3 : Int32) (x4 : Int32) (x5 : Int32) : F_X1_giveOff_55 Yd 0 Pr x2 x3 x4 x5 = none := rfl
theorem F_X1_giveOff_55_n (Yd : Ob) (n : Nat) (Pr : Ob) (x2 : Int32) (x3 : Int32) (x4 : Int32) (x5 : Int32) : F_X1_giveOff_55 Yd (n + 1) Pr x2 x3 x4 x5 = F_X1_giveOff_55_s Yd (F_X1_giveOff_55 Yd n) Pr x2 x3 x4 x5 := rfl
noncomputable def F_X1_giveOff_32 (Yd : Ob) (Pr : Ob) (x2 : Int32) (y0 : Int32) : Option (Int32 × Ob) :=
  (if y0 = 0 then some ((0 : Int32), Pr) else zs_ck x2 6 (zs_ck x2 6 (zs_let (zs_up Pr 2 (x2).toNatClampNeg ((Pr 2 (x2).toNatClampNeg) - y0)) (fun Prw31 => (F_X1_giveOff_55 Yd 1000 Prw31 x2 y0 y0 (0 : Int32))))))
noncomputable def F_X1_giveOff (Pr : Ob) (Yd : Ob) (u2 : Int32) : Option (Int32 × Ob) :=
  zs_bd (F_X7_bit (Pr 0 1) u2) (fun r35 => (if r35 = (1 : Int32) then (F_X1_giveOff_32 Yd Pr u2 (0 : Int32)) else zs_ck u2 6 (zs_ck u2 6 ((F_X1_giveOff_32 Yd Pr u2 (((Pr 1 (u2).toNatClampNeg) * (Yd 2 (u2).toNatClampNeg)) / (10 : Int32)))))))
noncomputable def F_X1_goBy_123 (Yd : Ob) (Pr : Ob) (x3 : Int32) : Option (Int32 × Ob) :=
  zs_let (zs_up Pr 0 0 ((Pr 0 0) + (1 : Int32))) (fun Prw1 => zs_let (zs_up Prw1 0 3 ((Prw1 0 3) + x3)) (fun Prw3 => some (x3, Prw3)))
noncomputable def F_X1_goBy_94_s (Yd : Ob) (rec : Ob → Int32 → Int32 → Option (Int32 × Ob)) (Pr : Ob) (x3 : Int32) (x4 : Int32) : Option (Int32 × Ob) :=
  (if (Yd 0 0) ≤ x4 then (F_X1_goBy_123 Yd Pr x3) else zs_ck x4 6 (zs_ck x4 6 (zs_let (zs_up Pr 1 (x4).toNatClampNeg (Pr 2 (x4).toNatClampNeg)) (fun Prw10 => zs_let (x4 + (1 : Int32)) (fun z12 => (rec Prw10 x3 z12))))))
noncomputable def F_X1_goBy_94 (Yd : Ob) (n : Nat) : Ob → Int32 → Int32 → Option (Int32 × Ob) := zs_fix (fun _ _ _ => none) (F_X1_goBy_94_s Yd) n
theorem F_X1_goBy_94_z (Yd : Ob) (Pr : Ob) (x3 : Int32) (x4 : Int32) : F_X1_goBy_94 Yd 0 Pr x3 x4 = none := rfl
theorem F_X1_goBy_94_n (Yd : Ob) (n : Nat) (Pr : Ob) (x3 : Int32) (x4 : Int32) : F_X1_goBy_94 Yd (n + 1) Pr x3 x4 = F_X1_goBy_94_s Yd (F_X1_goBy_94 Yd n) Pr x3 x4 := rfl
noncomputable def F_X1_goBy_91 (Yd : Ob) (Pr : Ob) (x3 : Int32) : Option (Int32 × Ob) :=
  (F_X1_goBy_94 Yd 1000 Pr x3 (0 : Int32))
noncomputable def F_X1_goBy_66_s (Yd : Ob) (rec : Ob → Int32 → Int32 → Option (Int32 × Ob)) (Pr : Ob) (x3 : Int32) (x4 : Int32) : Option (Int32 × Ob) :=
  (if (Yd 0 0) ≤ x4 then (F_X1_goBy_91 Yd Pr x3) else zs_b2 (F_X1_giveOff Pr Yd x4) (fun r15 Prw16 => zs_let ((x3 + r15)) (fun z18 => zs_let (x4 + (1 : Int32)) (fun z20 => (rec Prw16 z18 z20)))))
noncomputable def F_X1_goBy_66 (Yd : Ob) (n : Nat) : Ob → Int32 → Int32 → Option (Int32 × Ob) := zs_fix (fun _ _ _ => none) (F_X1_goBy_66_s Yd) n
theorem F_X1_goBy_66_z (Yd : Ob) (Pr : Ob) (x3 : Int32) (x4 : Int32) : F_X1_goBy_66 Yd 0 Pr x3 x4 = none := rfl
theorem F_X1_goBy_66_n (Yd : Ob) (n : Nat) (Pr : Ob) (x3 : Int32) (x4 : Int32) : F_X1_goBy_66 Yd (n + 1) Pr x3 x4 = F_X1_goBy_66_s Yd (F_X1_goBy_66 Yd n) Pr x3 x4 := rfl
noncomputable def F_X1_goBy_61 (Yd : Ob) (Pr : Ob) : Option (Int32 × Ob) :=
  (F_X1_goBy_66 Yd 1000 Pr (0 : Int32) (0 : Int32))
noncomputable def F_X1_goBy_10_s (Yd : Ob) (rec : Ob → Int32 → Int32 → Option (Int32 × Ob)) (Pr : Ob) (x2 : Int32) (x3 : Int32) : Option (Int32 × Ob) :=
  (if (Yd 0 0) ≤ x3 then (F_X1_goBy_61 Yd Pr) else zs_ck x3 6 (zs_ck x3 6 (zs_bd (F_X7_bit (Yd 4 (x3).toNatClampNeg) x2) (fun r25 => zs_ck x3 6 (zs_ck x3 6 (zs_ck x3 6 (zs_let (zs_up Pr 2 (x3).toNatClampNeg (((Pr 1 (x3).toNatClampNeg) + (r25 * (Yd 3 (x3).toNatClampNeg))) + (Yd 7 (x3).toNatClampNeg))) (fun Prw30 => zs_let (x3 + (1 : Int32)) (fun z32 => (rec Prw30 x2 z32))))))))))
noncomputable def F_X1_goBy_10 (Yd : Ob) (n : Nat) : Ob → Int32 → Int32 → Option (Int32 × Ob) := zs_fix (fun _ _ _ => none) (F_X1_goBy_10_s Yd) n
theorem F_X1_goBy_10_z (Yd : Ob) (Pr : Ob) (x2 : Int32) (x3 : Int32) : F_X1_goBy_10 Yd 0 Pr x2 x3 = none := rfl
theorem F_X1_goBy_10_n (Yd : Ob) (n : Nat) (Pr : Ob) (x2 : Int32) (x3 : Int32) : F_X1_goBy_10 Yd (n + 1) Pr x2 x3 = F_X1_goBy_10_s Yd (F_X1_goBy_10 Yd n) Pr x2 x3 := rfl
noncomputable def F_X1_goBy (Pr : Ob) (Yd : Ob) : Option (Int32 × Ob) :=
  zs_let (((Pr 0 0) - (Pr 0 0) / (8 : Int32) * (8 : Int32))) (fun z34 => (F_X1_goBy_10 Yd 1000 Pr z34 (0 : Int32)))
noncomputable def F_X1_warmthOfAll_4_s (Pr : Ob) (rec : Int32 → Int32 → Int32 → Option (Int32)) (x1 : Int32) (x2 : Int32) (x3 : Int32) : Option (Int32) :=
  (if x1 ≤ x3 then some x2 else (if (6 : Int32) ≤ x3 then some x2 else zs_ck x3 6 (zs_let ((x2 + (Pr 1 (x3).toNatClampNeg))) (fun z6 => zs_let (x3 + (1 : Int32)) (fun z8 => (rec x1 z6 z8))))))
noncomputable def F_X1_warmthOfAll_4 (Pr : Ob) (n : Nat) : Int32 → Int32 → Int32 → Option (Int32) := zs_fix (fun _ _ _ => none) (F_X1_warmthOfAll_4_s Pr) n
theorem F_X1_warmthOfAll_4_z (Pr : Ob) (x1 : Int32) (x2 : Int32) (x3 : Int32) : F_X1_warmthOfAll_4 Pr 0 x1 x2 x3 = none := rfl
theorem F_X1_warmthOfAll_4_n (Pr : Ob) (n : Nat) (x1 : Int32) (x2 : Int32) (x3 : Int32) : F_X1_warmthOfAll_4 Pr (n + 1) x1 x2 x3 = F_X1_warmthOfAll_4_s Pr (F_X1_warmthOfAll_4 Pr n) x1 x2 x3 := rfl
noncomputable def F_X1_warmthOfAll (Pr : Ob) (u1 : Int32) : Option (Int32) :=
  (F_X1_warmthOfAll_4 Pr 1000 u1 (0 : Int32) (0 : Int32))
noncomputable def F_X1_tooWarm_31 (Pr : Ob) (Yd : Ob) (r4 : Int32 → Int32 → Option (Int32)) (x2 : Int32) (x3 : Int32) : Option (Int32) :=
  zs_let (x3 + (1 : Int32)) (fun z1 => (r4 x2 z1))
noncomputable def F_X1_tooWarm_4_s (Pr : Ob) (Yd : Ob) (rec : Int32 → Int32 → Option (Int32)) (x2 : Int32) (x3 : Int32) : Option (Int32) :=
  (if (Yd 0 0) ≤ x3 then some x2 else zs_ck x3 6 ((if (Pr 1 (x3).toNatClampNeg) ≤ (Yd 0 1) then (F_X1_tooWarm_31 Pr Yd rec x2 x3) else zs_let ((x2 ||| ((1 : Int32) <<< (x3 &&& 31)))) (fun z7 => (F_X1_tooWarm_31 Pr Yd rec z7 x3)))))
noncomputable def F_X1_tooWarm_4 (Pr : Ob) (Yd : Ob) (n : Nat) : Int32 → Int32 → Option (Int32) := zs_fix (fun _ _ => none) (F_X1_tooWarm_4_s Pr Yd) n
theorem F_X1_tooWarm_4_z (Pr : Ob) (Yd : Ob) (x2 : Int32) (x3 : Int32) : F_X1_tooWarm_4 Pr Yd 0 x2 x3 = none := rfl
theorem F_X1_tooWarm_4_n (Pr : Ob) (Yd : Ob) (n : Nat) (x2 : Int32) (x3 : Int32) : F_X1_tooWarm_4 Pr Yd (n + 1) x2 x3 = F_X1_tooWarm_4_s Pr Yd (F_X1_tooWarm_4 Pr Yd n) x2 x3 := rfl
noncomputable def F_X1_tooWarm (Pr : Ob) (Yd : Ob) : Option (Int32) :=
  (F_X1_tooWarm_4 Pr Yd 1000 (0 : Int32) (0 : Int32))
noncomputable def F_X1_warmest_39 (Pr : Ob) (r5 : Int32 → Int32 → Int32 → Option (Int32)) (x1 : Int32) (x2 : Int32) (x3 : Int32) : Option (Int32) :=
  zs_let (x3 + (1 : Int32)) (fun z1 => (r5 x1 x2 z1))
noncomputable def F_X1_warmest_37 (Pr : Ob) (r5 : Int32 → Int32 → Int32 → Option (Int32)) (x1 : Int32) (x3 : Int32) : Option (Int32) :=
  (F_X1_warmest_39 Pr r5 x1 x3 x3)
noncomputable def F_X1_warmest_5_s (Pr : Ob) (rec : Int32 → Int32 → Int32 → Option (Int32)) (x1 : Int32) (x2 : Int32) (x3 : Int32) : Option (Int32) :=
  (if x1 ≤ x3 then some x2 else (if (6 : Int32) ≤ x3 then some x2 else (if x2 = (-9 : Int32) then (F_X1_warmest_37 Pr rec x1 x3) else zs_ck x3 6 (zs_ck x2 6 ((if (Pr 1 (x3).toNatClampNeg) ≤ (Pr 1 (x2).toNatClampNeg) then (F_X1_warmest_39 Pr rec x1 x2 x3) else (F_X1_warmest_37 Pr rec x1 x3)))))))
noncomputable def F_X1_warmest_5 (Pr : Ob) (n : Nat) : Int32 → Int32 → Int32 → Option (Int32) := zs_fix (fun _ _ _ => none) (F_X1_warmest_5_s Pr) n
theorem F_X1_warmest_5_z (Pr : Ob) (x1 : Int32) (x2 : Int32) (x3 : Int32) : F_X1_warmest_5 Pr 0 x1 x2 x3 = none := rfl
theorem F_X1_warmest_5_n (Pr : Ob) (n : Nat) (x1 : Int32) (x2 : Int32) (x3 : Int32) : F_X1_warmest_5 Pr (n + 1) x1 x2 x3 = F_X1_warmest_5_s Pr (F_X1_warmest_5 Pr n) x1 x2 x3 := rfl
noncomputable def F_X1_warmest (Pr : Ob) (u1 : Int32) : Option (Int32) :=
  (F_X1_warmest_5 Pr 1000 u1 (-9 : Int32) (0 : Int32))
noncomputable def F_X1_warmthOfWarmest_4_s (Pr : Ob) (rec : Int32 → Int32 → Int32 → Option (Int32)) (x1 : Int32) (x2 : Int32) (x3 : Int32) : Option (Int32) :=
  (if x1 ≤ x3 then some x2 else (if (6 : Int32) ≤ x3 then some x2 else zs_ck x3 6 (zs_let ((if x2 < (Pr 1 (x3).toNatClampNeg) then (Pr 1 (x3).toNatClampNeg) else x2)) (fun z6 => zs_let (x3 + (1 : Int32)) (fun z8 => (rec x1 z6 z8))))))
noncomputable def F_X1_warmthOfWarmest_4 (Pr : Ob) (n : Nat) : Int32 → Int32 → Int32 → Option (Int32) := zs_fix (fun _ _ _ => none) (F_X1_warmthOfWarmest_4_s Pr) n
theorem F_X1_warmthOfWarmest_4_z (Pr : Ob) (x1 : Int32) (x2 : Int32) (x3 : Int32) : F_X1_warmthOfWarmest_4 Pr 0 x1 x2 x3 = none := rfl
theorem F_X1_warmthOfWarmest_4_n (Pr : Ob) (n : Nat) (x1 : Int32) (x2 : Int32) (x3 : Int32) : F_X1_warmthOfWarmest_4 Pr (n + 1) x1 x2 x3 = F_X1_warmthOfWarmest_4_s Pr (F_X1_warmthOfWarmest_4 Pr n) x1 x2 x3 := rfl
noncomputable def F_X1_warmthOfWarmest (Pr : Ob) (u1 : Int32) : Option (Int32) :=
  (F_X1_warmthOfWarmest_4 Pr 1000 u1 (0 : Int32) (0 : Int32))
noncomputable def F_X3_add (Sg : Ob) (u1 : Int32) (u2 : Int32) (u3 : Int32) : Option (Ob) :=
  (if (8 : Int32) ≤ (Sg 0 0) then some Sg else zs_ck (Sg 0 0) 8 (zs_let (zs_up Sg 1 ((Sg 0 0)).toNatClampNeg u1) (fun Sgw4 => zs_ck (Sgw4 0 0) 8 (zs_let (zs_up Sgw4 2 ((Sgw4 0 0)).toNatClampNeg u2) (fun Sgw7 => zs_ck (Sgw7 0 0) 8 (zs_let (zs_up Sgw7 3 ((Sgw7 0 0)).toNatClampNeg u3) (fun Sgw10 => zs_let (zs_up Sgw10 0 0 ((Sgw10 0 0) + (1 : Int32))) (fun Sgw12 => some Sgw12))))))))
noncomputable def F_X3_latest_5_s (Sg : Ob) (rec : Int32 → Int32 → Option (Int32)) (x1 : Int32) (x2 : Int32) : Option (Int32) :=
  (if (Sg 0 0) ≤ x2 then some x1 else zs_ck x2 8 (zs_let ((if x1 < (Sg 1 (x2).toNatClampNeg) then (Sg 1 (x2).toNatClampNeg) else x1)) (fun z4 => zs_let (x2 + (1 : Int32)) (fun z6 => (rec z4 z6)))))
noncomputable def F_X3_latest_5 (Sg : Ob) (n : Nat) : Int32 → Int32 → Option (Int32) := zs_fix (fun _ _ => none) (F_X3_latest_5_s Sg) n
theorem F_X3_latest_5_z (Sg : Ob) (x1 : Int32) (x2 : Int32) : F_X3_latest_5 Sg 0 x1 x2 = none := rfl
theorem F_X3_latest_5_n (Sg : Ob) (n : Nat) (x1 : Int32) (x2 : Int32) : F_X3_latest_5 Sg (n + 1) x1 x2 = F_X3_latest_5_s Sg (F_X3_latest_5 Sg n) x1 x2 := rfl
noncomputable def F_X3_latest (Sg : Ob) : Option (Int32) :=
  (F_X3_latest_5 Sg 1000 (-9 : Int32) (0 : Int32))
noncomputable def F_X3_areSo_42 (Sg : Ob) (Pr : Ob) (r2 : Int32 → Int32 → Option (Int32)) (x1 : Int32) (x3 : Int32) : Option (Int32) :=
  zs_let (x3 + (1 : Int32)) (fun z1 => (r2 x1 z1))
noncomputable def F_X3_areSo_2_s (Sg : Ob) (Pr : Ob) (rec : Int32 → Int32 → Option (Int32)) (x1 : Int32) (x3 : Int32) : Option (Int32) :=
  (if (Sg 0 0) ≤ x3 then some (1 : Int32) else zs_ck x3 8 ((if (Sg 1 (x3).toNatClampNeg) = x1 then zs_ck x3 8 (zs_ck (Sg 2 (x3).toNatClampNeg) 6 (zs_ck x3 8 ((if (Pr 1 ((Sg 2 (x3).toNatClampNeg)).toNatClampNeg) = (Sg 3 (x3).toNatClampNeg) then (F_X3_areSo_42 Sg Pr rec x1 x3) else some (0 : Int32))))) else (F_X3_areSo_42 Sg Pr rec x1 x3))))
noncomputable def F_X3_areSo_2 (Sg : Ob) (Pr : Ob) (n : Nat) : Int32 → Int32 → Option (Int32) := zs_fix (fun _ _ => none) (F_X3_areSo_2_s Sg Pr) n
theorem F_X3_areSo_2_z (Sg : Ob) (Pr : Ob) (x1 : Int32) (x3 : Int32) : F_X3_areSo_2 Sg Pr 0 x1 x3 = none := rfl
theorem F_X3_areSo_2_n (Sg : Ob) (Pr : Ob) (n : Nat) (x1 : Int32) (x3 : Int32) : F_X3_areSo_2 Sg Pr (n + 1) x1 x3 = F_X3_areSo_2_s Sg Pr (F_X3_areSo_2 Sg Pr n) x1 x3 := rfl
noncomputable def F_X3_areSo (Sg : Ob) (Pr : Ob) (u1 : Int32) : Option (Int32) :=
  (F_X3_areSo_2 Sg Pr 1000 u1 (0 : Int32))
noncomputable def F_X0_setOut (Ah : Ob) (Tn : Ob) (Pr : Ob) : Option (Ob) :=
  zs_bd (F_X1_copy Tn Pr) (fun Tnw1 => some Tnw1)
noncomputable def F_X0_goOn_2_s (Ah : Ob) (Yd : Ob) (rec : Ob → Int32 → Int32 → Option (Ob)) (Tn : Ob) (x2 : Int32) (x3 : Int32) : Option (Ob) :=
  (if x2 ≤ x3 then some Tn else zs_b2 (F_X1_goBy Tn Yd) (fun r3 Tnw4 => zs_let (x3 + (1 : Int32)) (fun z6 => (rec Tnw4 x2 z6))))
noncomputable def F_X0_goOn_2 (Ah : Ob) (Yd : Ob) (n : Nat) : Ob → Int32 → Int32 → Option (Ob) := zs_fix (fun _ _ _ => none) (F_X0_goOn_2_s Ah Yd) n
theorem F_X0_goOn_2_z (Ah : Ob) (Yd : Ob) (Tn : Ob) (x2 : Int32) (x3 : Int32) : F_X0_goOn_2 Ah Yd 0 Tn x2 x3 = none := rfl
theorem F_X0_goOn_2_n (Ah : Ob) (Yd : Ob) (n : Nat) (Tn : Ob) (x2 : Int32) (x3 : Int32) : F_X0_goOn_2 Ah Yd (n + 1) Tn x2 x3 = F_X0_goOn_2_s Ah Yd (F_X0_goOn_2 Ah Yd n) Tn x2 x3 := rfl
noncomputable def F_X0_goOn (Ah : Ob) (Tn : Ob) (Yd : Ob) (u2 : Int32) : Option (Ob) :=
  (F_X0_goOn_2 Ah Yd 1000 Tn u2 (0 : Int32))
noncomputable def F_X0_isAsInRow_2_s (Ah : Ob) (Tn : Ob) (rec : Int32 → Int32 → Int32 → Option (Int32)) (x1 : Int32) (x2 : Int32) (x3 : Int32) : Option (Int32) :=
  (if x2 ≤ x3 then some (1 : Int32) else zs_ck (x1 + x3) 48 (zs_ck x3 6 ((if (Ah 1 ((x1 + x3)).toNatClampNeg) = (Tn 1 (x3).toNatClampNeg) then zs_let (x3 + (1 : Int32)) (fun z6 => (rec x1 x2 z6)) else some (0 : Int32)))))
noncomputable def F_X0_isAsInRow_2 (Ah : Ob) (Tn : Ob) (n : Nat) : Int32 → Int32 → Int32 → Option (Int32) := zs_fix (fun _ _ _ => none) (F_X0_isAsInRow_2_s Ah Tn) n
theorem F_X0_isAsInRow_2_z (Ah : Ob) (Tn : Ob) (x1 : Int32) (x2 : Int32) (x3 : Int32) : F_X0_isAsInRow_2 Ah Tn 0 x1 x2 x3 = none := rfl
theorem F_X0_isAsInRow_2_n (Ah : Ob) (Tn : Ob) (n : Nat) (x1 : Int32) (x2 : Int32) (x3 : Int32) : F_X0_isAsInRow_2 Ah Tn (n + 1) x1 x2 x3 = F_X0_isAsInRow_2_s Ah Tn (F_X0_isAsInRow_2 Ah Tn n) x1 x2 x3 := rfl
noncomputable def F_X0_isAsInRow (Ah : Ob) (Tn : Ob) (u1 : Int32) (u2 : Int32) : Option (Int32) :=
  (F_X0_isAsInRow_2 Ah Tn 1000 u1 u2 (0 : Int32))
noncomputable def F_X0_hoursToRest_35 (Yd : Ob) (Ah : Ob) (Tn : Ob) (x2 : Int32) : Option (Int32 × (Ob × Ob)) :=
  some ((x2 - (8 : Int32)), (Ah, Tn))
noncomputable def F_X0_hoursToRest_77 (Yd : Ob) (r2 : Ob → Ob → Int32 → Option (Int32 × (Ob × Ob))) (Ah : Ob) (Tn : Ob) (x2 : Int32) : Option (Int32 × (Ob × Ob)) :=
  zs_b2 (F_X1_goBy Tn Yd) (fun r4 Tnw5 => zs_let (x2 + (1 : Int32)) (fun z7 => (r2 Ah Tnw5 z7)))
noncomputable def F_X0_hoursToRest_43_s (Yd : Ob) (r2 : Ob → Ob → Int32 → Option (Int32 × (Ob × Ob))) (rec : Ob → Ob → Int32 → Int32 → Int32 → Option (Int32 × (Ob × Ob))) (Ah : Ob) (Tn : Ob) (x2 : Int32) (x3 : Int32) (x4 : Int32) : Option (Int32 × (Ob × Ob)) :=
  (if (Yd 0 0) ≤ x4 then (F_X0_hoursToRest_77 Yd r2 Ah Tn x2) else zs_ck x4 6 (zs_ck (x3 + x4) 48 (zs_let (zs_up Ah 1 ((x3 + x4)).toNatClampNeg (Tn 1 (x4).toNatClampNeg)) (fun Ahw12 => zs_let (x4 + (1 : Int32)) (fun z14 => (rec Ahw12 Tn x2 x3 z14))))))
noncomputable def F_X0_hoursToRest_43 (Yd : Ob) (r2 : Ob → Ob → Int32 → Option (Int32 × (Ob × Ob))) (n : Nat) : Ob → Ob → Int32 → Int32 → Int32 → Option (Int32 × (Ob × Ob)) := zs_fix (fun _ _ _ _ _ => none) (F_X0_hoursToRest_43_s Yd r2) n
theorem F_X0_hoursToRest_43_z (Yd : Ob) (r2 : Ob → Ob → Int32 → Option (Int32 × (Ob × Ob))) (Ah : Ob) (Tn : Ob) (x2 : Int32) (x3 : Int32) (x4 : Int32) : F_X0_hoursToRest_43 Yd r2 0 Ah Tn x2 x3 x4 = none := rfl
theorem F_X0_hoursToRest_43_n (Yd : Ob) (r2 : Ob → Ob → Int32 → Option (Int32 × (Ob × Ob))) (n : Nat) (Ah : Ob) (Tn : Ob) (x2 : Int32) (x3 : Int32) (x4 : Int32) : F_X0_hoursToRest_43 Yd r2 (n + 1) Ah Tn x2 x3 x4 = F_X0_hoursToRest_43_s Yd r2 (F_X0_hoursToRest_43 Yd r2 n) Ah Tn x2 x3 x4 := rfl
noncomputable def F_X0_hoursToRest_40 (Yd : Ob) (r2 : Ob → Ob → Int32 → Option (Int32 × (Ob × Ob))) (Ah : Ob) (Tn : Ob) (x2 : Int32) (x3 : Int32) : Option (Int32 × (Ob × Ob)) :=
  (F_X0_hoursToRest_43 Yd r2 1000 Ah Tn x2 x3 (0 : Int32))
noncomputable def F_X0_hoursToRest_2_s (Yd : Ob) (rec : Ob → Ob → Int32 → Option (Int32 × (Ob × Ob))) (Ah : Ob) (Tn : Ob) (x2 : Int32) : Option (Int32 × (Ob × Ob)) :=
  (if (208 : Int32) < x2 then some ((-9 : Int32), (Ah, Tn)) else zs_let (((x2 - x2 / (8 : Int32) * (8 : Int32)) * (6 : Int32))) (fun z20 => (if x2 < (8 : Int32) then (F_X0_hoursToRest_40 Yd rec Ah Tn x2 z20) else zs_bd (F_X0_isAsInRow Ah Tn z20 (Yd 0 0)) (fun r23 => (if r23 = 0 then (F_X0_hoursToRest_40 Yd rec Ah Tn x2 z20) else (F_X0_hoursToRest_35 Yd Ah Tn x2))))))
noncomputable def F_X0_hoursToRest_2 (Yd : Ob) (n : Nat) : Ob → Ob → Int32 → Option (Int32 × (Ob × Ob)) := zs_fix (fun _ _ _ => none) (F_X0_hoursToRest_2_s Yd) n
theorem F_X0_hoursToRest_2_z (Yd : Ob) (Ah : Ob) (Tn : Ob) (x2 : Int32) : F_X0_hoursToRest_2 Yd 0 Ah Tn x2 = none := rfl
theorem F_X0_hoursToRest_2_n (Yd : Ob) (n : Nat) (Ah : Ob) (Tn : Ob) (x2 : Int32) : F_X0_hoursToRest_2 Yd (n + 1) Ah Tn x2 = F_X0_hoursToRest_2_s Yd (F_X0_hoursToRest_2 Yd n) Ah Tn x2 := rfl
noncomputable def F_X0_hoursToRest (Ah : Ob) (Tn : Ob) (Yd : Ob) : Option (Int32 × (Ob × Ob)) :=
  (F_X0_hoursToRest_2 Yd 1000 Ah Tn (0 : Int32))
noncomputable def F_X0_warmestIfShut (Ah : Ob) (Tn : Ob) (Pr : Ob) (Yd : Ob) (u3 : Int32) (u4 : Int32) : Option (Int32 × Ob) :=
  zs_bd (F_X0_setOut Ah Tn Pr) (fun Tnw1 => zs_let (zs_up Tnw1 0 1 u3) (fun Tnw3 => zs_bd (F_X0_goOn Ah Tnw3 Yd u4) (fun Tnw5 => zs_bd (F_X1_warmthOfWarmest Tnw5 (Yd 0 0)) (fun r7 => some (r7, Tnw5)))))
noncomputable def F_X0_warmthIfMirrors (Ah : Ob) (Tn : Ob) (Pr : Ob) (Yd : Ob) (u3 : Int32) (u4 : Int32) (u5 : Int32) : Option (Int32 × Ob) :=
  zs_bd (F_X0_setOut Ah Tn Pr) (fun Tnw1 => zs_let (zs_up Tnw1 0 2 ((Tnw1 0 2) ||| u3)) (fun Tnw3 => zs_bd (F_X0_goOn Ah Tnw3 Yd u4) (fun Tnw5 => zs_ck u5 6 (some ((Tnw5 1 (u5).toNatClampNeg), Tnw5)))))
noncomputable def F_X0_staysCool_7_s (Ah : Ob) (Yi : Ob) (Pr : Ob) (rec : Ob → Int32 → Int32 → Option (Int32 × Ob)) (Tn : Ob) (x2 : Int32) (x3 : Int32) : Option (Int32 × Ob) :=
  (if x2 ≤ x3 then some ((1 : Int32), Tn) else zs_b2 (F_X1_goBy Tn Yi) (fun r4 Tnw5 => zs_bd (F_X1_tooWarm Tnw5 Yi) (fun r7 => (if r7 = 0 then zs_let (x3 + (1 : Int32)) (fun z10 => (rec Tnw5 x2 z10)) else some ((0 : Int32), Tnw5)))))
noncomputable def F_X0_staysCool_7 (Ah : Ob) (Yi : Ob) (Pr : Ob) (n : Nat) : Ob → Int32 → Int32 → Option (Int32 × Ob) := zs_fix (fun _ _ _ => none) (F_X0_staysCool_7_s Ah Yi Pr) n
theorem F_X0_staysCool_7_z (Ah : Ob) (Yi : Ob) (Pr : Ob) (Tn : Ob) (x2 : Int32) (x3 : Int32) : F_X0_staysCool_7 Ah Yi Pr 0 Tn x2 x3 = none := rfl
theorem F_X0_staysCool_7_n (Ah : Ob) (Yi : Ob) (Pr : Ob) (n : Nat) (Tn : Ob) (x2 : Int32) (x3 : Int32) : F_X0_staysCool_7 Ah Yi Pr (n + 1) Tn x2 x3 = F_X0_staysCool_7_s Ah Yi Pr (F_X0_staysCool_7 Ah Yi Pr n) Tn x2 x3 := rfl
noncomputable def F_X0_staysCool (Ah : Ob) (Tn : Ob) (Yi : Ob) (Pr : Ob) (u2 : Int32) : Option (Int32 × Ob) :=
  zs_bd (F_X0_setOut Ah Tn Pr) (fun Tnw14 => (F_X0_staysCool_7 Ah Yi Pr 1000 Tnw14 u2 (0 : Int32)))
noncomputable def F_X0_allSeenIsSo_18_s (Ah : Ob) (Yi : Ob) (Sg : Ob) (rec : Ob → Int32 → Int32 → Option (Int32 × Ob)) (Tn : Ob) (x2 : Int32) (x3 : Int32) : Option (Int32 × Ob) :=
  (if x2 < x3 then some ((1 : Int32), Tn) else zs_bd (F_X3_areSo Sg Tn x3) (fun r4 => (if r4 = 0 then some ((0 : Int32), Tn) else zs_b2 (F_X1_goBy Tn Yi) (fun r7 Tnw8 => zs_let (x3 + (1 : Int32)) (fun z10 => (rec Tnw8 x2 z10))))))
noncomputable def F_X0_allSeenIsSo_18 (Ah : Ob) (Yi : Ob) (Sg : Ob) (n : Nat) : Ob → Int32 → Int32 → Option (Int32 × Ob) := zs_fix (fun _ _ _ => none) (F_X0_allSeenIsSo_18_s Ah Yi Sg) n
theorem F_X0_allSeenIsSo_18_z (Ah : Ob) (Yi : Ob) (Sg : Ob) (Tn : Ob) (x2 : Int32) (x3 : Int32) : F_X0_allSeenIsSo_18 Ah Yi Sg 0 Tn x2 x3 = none := rfl
theorem F_X0_allSeenIsSo_18_n (Ah : Ob) (Yi : Ob) (Sg : Ob) (n : Nat) (Tn : Ob) (x2 : Int32) (x3 : Int32) : F_X0_allSeenIsSo_18 Ah Yi Sg (n + 1) Tn x2 x3 = F_X0_allSeenIsSo_18_s Ah Yi Sg (F_X0_allSeenIsSo_18 Ah Yi Sg n) Tn x2 x3 := rfl
noncomputable def F_X0_allSeenIsSo (Ah : Ob) (Tn : Ob) (Yi : Ob) (Sg : Ob) : Option (Int32 × Ob) :=
  zs_bd (F_X1_begin Tn Yi) (fun Tnw14 => zs_bd (F_X3_latest Sg) (fun r16 => (F_X0_allSeenIsSo_18 Ah Yi Sg 1000 Tnw14 r16 (0 : Int32))))
noncomputable def F_X4_hasRoomFor (Tx : Ob) (u1 : Int32) : Option (Int32) :=
  (if ((250 : Int32) - (Tx 0 1)) < u1 then some (0 : Int32) else some (1 : Int32))
noncomputable def F_X4_append_5_s (rec : Ob → Int64 → Int32 → Option (Ob)) (Tx : Ob) (x1 : Int64) (x4 : Int32) : Option (Ob) :=
  (if x4 < 0 then some Tx else (if (250 : Int32) ≤ (Tx 0 1) then some Tx else zs_ck (Tx 0 1) 250 (zs_let (zs_up Tx 1 ((Tx 0 1)).toNatClampNeg (vp_nar .byte (((((((x1).toUInt64 >>> ((((8 : Int32) * x4)).toInt64.toUInt64 &&& Int64.toUInt64 63)).toInt64)).toInt32)).toInt8.toInt32))) (fun Txw6 => zs_let (zs_up Txw6 0 1 ((Txw6 0 1) + (1 : Int32))) (fun Txw8 => zs_let (x4 + (-1 : Int32)) (fun z10 => (rec Txw8 x1 z10)))))))
noncomputable def F_X4_append_5 (n : Nat) : Ob → Int64 → Int32 → Option (Ob) := zs_fix (fun _ _ _ => none) (F_X4_append_5_s) n
theorem F_X4_append_5_z (Tx : Ob) (x1 : Int64) (x4 : Int32) : F_X4_append_5 0 Tx x1 x4 = none := rfl
theorem F_X4_append_5_n (n : Nat) (Tx : Ob) (x1 : Int64) (x4 : Int32) : F_X4_append_5 (n + 1) Tx x1 x4 = F_X4_append_5_s (F_X4_append_5 n) Tx x1 x4 := rfl
noncomputable def F_X4_append (Tx : Ob) (u1 : Int64) (u2 : Int32) : Option (Ob) :=
  zs_let ((u2 - (1 : Int32))) (fun z12 => (F_X4_append_5 1000 Tx u1 z12))
noncomputable def F_X4_isLetter (Tx : Ob) (u1 : Int32) : Option (Int32) :=
  (if (Tx 0 1) ≤ u1 then some (0 : Int32) else zs_ck u1 250 ((if (Tx 1 (u1).toNatClampNeg) < (97 : Int32) then some (0 : Int32) else zs_ck u1 250 ((if (122 : Int32) < (Tx 1 (u1).toNatClampNeg) then some (0 : Int32) else some (1 : Int32))))))
noncomputable def F_X4_isDigit (Tx : Ob) (u1 : Int32) : Option (Int32) :=
  (if (Tx 0 1) ≤ u1 then some (0 : Int32) else zs_ck u1 250 ((if (Tx 1 (u1).toNatClampNeg) < (48 : Int32) then some (0 : Int32) else zs_ck u1 250 ((if (57 : Int32) < (Tx 1 (u1).toNatClampNeg) then some (0 : Int32) else some (1 : Int32))))))
noncomputable def F_X4_isWord_15_s (Tx : Ob) (u1 : Nat) (rec : Int32 → Int32 → Option (Int32)) (x2 : Int32) (x4 : Int32) : Option (Int32) :=
  (if (nI (zs_len u1)) ≤ x4 then some (1 : Int32) else zs_ck (x2 + x4) 250 (zs_ch u1 x4 ((if (Tx 1 ((x2 + x4)).toNatClampNeg) = (zs_chr u1 x4) then zs_let (x4 + (1 : Int32)) (fun z6 => (rec x2 z6)) else some (0 : Int32)))))
noncomputable def F_X4_isWord_15 (Tx : Ob) (u1 : Nat) (n : Nat) : Int32 → Int32 → Option (Int32) := zs_fix (fun _ _ => none) (F_X4_isWord_15_s Tx u1) n
theorem F_X4_isWord_15_z (Tx : Ob) (u1 : Nat) (x2 : Int32) (x4 : Int32) : F_X4_isWord_15 Tx u1 0 x2 x4 = none := rfl
theorem F_X4_isWord_15_n (Tx : Ob) (u1 : Nat) (n : Nat) (x2 : Int32) (x4 : Int32) : F_X4_isWord_15 Tx u1 (n + 1) x2 x4 = F_X4_isWord_15_s Tx u1 (F_X4_isWord_15 Tx u1 n) x2 x4 := rfl
noncomputable def F_X4_isWord (Tx : Ob) (u1 : Nat) (u2 : Int32) (u3 : Int32) : Option (Int32) :=
  (if (u3 - u2) = (nI (zs_len u1)) then (F_X4_isWord_15 Tx u1 1000 u2 (0 : Int32)) else some (0 : Int32))
noncomputable def F_X5_add (Tk : Ob) (u1 : Int32) (u2 : Int32) (u3 : Int32) : Option (Ob) :=
  (if (251 : Int32) ≤ (Tk 0 3) then some Tk else zs_ck (Tk 0 3) 251 (zs_let (zs_up Tk 1 ((Tk 0 3)).toNatClampNeg u1) (fun Tkw4 => zs_ck (Tkw4 0 3) 251 (zs_let (zs_up Tkw4 2 ((Tkw4 0 3)).toNatClampNeg u2) (fun Tkw7 => zs_ck (Tkw7 0 3) 251 (zs_let (zs_up Tkw7 3 ((Tkw7 0 3)).toNatClampNeg u3) (fun Tkw10 => zs_let (zs_up Tkw10 0 3 ((Tkw10 0 3) + (1 : Int32))) (fun Tkw12 => some Tkw12))))))))
noncomputable def F_X5_skipBlanks_2_s (Tk : Ob) (Tx : Ob) (rec : Int32 → Option (Int32)) (x3 : Int32) : Option (Int32) :=
  (if (Tx 0 1) ≤ x3 then some x3 else zs_ck x3 250 ((if (Tx 1 (x3).toNatClampNeg) = (32 : Int32) then zs_let (x3 + (1 : Int32)) (fun z6 => (rec z6)) else some x3)))
noncomputable def F_X5_skipBlanks_2 (Tk : Ob) (Tx : Ob) (n : Nat) : Int32 → Option (Int32) := zs_fix (fun _ => none) (F_X5_skipBlanks_2_s Tk Tx) n
theorem F_X5_skipBlanks_2_z (Tk : Ob) (Tx : Ob) (x3 : Int32) : F_X5_skipBlanks_2 Tk Tx 0 x3 = none := rfl
theorem F_X5_skipBlanks_2_n (Tk : Ob) (Tx : Ob) (n : Nat) (x3 : Int32) : F_X5_skipBlanks_2 Tk Tx (n + 1) x3 = F_X5_skipBlanks_2_s Tk Tx (F_X5_skipBlanks_2 Tk Tx n) x3 := rfl
noncomputable def F_X5_skipBlanks (Tk : Ob) (Tx : Ob) (u2 : Int32) : Option (Int32) :=
  (F_X5_skipBlanks_2 Tk Tx 1000 u2)
noncomputable def F_X5_whichWord (Tk : Ob) (Tx : Ob) (u2 : Int32) (u3 : Int32) : Option (Int32) :=
  zs_bd (F_X4_isWord Tx 0 u2 u3) (fun r1 => (if r1 = 0 then zs_bd (F_X4_isWord Tx 1 u2 u3) (fun r4 => (if r4 = 0 then zs_bd (F_X4_isWord Tx 2 u2 u3) (fun r7 => (if r7 = 0 then zs_bd (F_X4_isWord Tx 3 u2 u3) (fun r10 => (if r10 = 0 then some (0 : Int32) else some (4 : Int32))) else some (3 : Int32))) else some (2 : Int32))) else some (1 : Int32)))
noncomputable def F_X5_cutWord_45 (Tx : Ob) (Tk : Ob) (x3 : Int32) (x4 : Int32) (y0 : Int32) (y1 : Int32) : Option (Int32 × Ob) :=
  zs_bd (F_X5_add Tk y1 y0 x4) (fun Tkw1 => some (x3, Tkw1))
noncomputable def F_X5_cutWord_24 (Tx : Ob) (Tk : Ob) (x2 : Int32) (x3 : Int32) : Option (Int32 × Ob) :=
  zs_bd (F_X5_whichWord Tk Tx x2 x3) (fun r5 => (if r5 = 0 then (F_X5_cutWord_45 Tx Tk x3 r5 (4 : Int32) x2) else (F_X5_cutWord_45 Tx Tk x3 r5 (1 : Int32) x2)))
noncomputable def F_X5_cutWord_2_s (Tx : Ob) (rec : Ob → Int32 → Int32 → Option (Int32 × Ob)) (Tk : Ob) (x2 : Int32) (x3 : Int32) : Option (Int32 × Ob) :=
  (if (Tx 0 1) ≤ x3 then (F_X5_cutWord_24 Tx Tk x2 x3) else zs_bd (F_X4_isLetter Tx x3) (fun r9 => (if r9 = 0 then (F_X5_cutWord_24 Tx Tk x2 x3) else zs_let (x3 + (1 : Int32)) (fun z12 => (rec Tk x2 z12)))))
noncomputable def F_X5_cutWord_2 (Tx : Ob) (n : Nat) : Ob → Int32 → Int32 → Option (Int32 × Ob) := zs_fix (fun _ _ _ => none) (F_X5_cutWord_2_s Tx) n
theorem F_X5_cutWord_2_z (Tx : Ob) (Tk : Ob) (x2 : Int32) (x3 : Int32) : F_X5_cutWord_2 Tx 0 Tk x2 x3 = none := rfl
theorem F_X5_cutWord_2_n (Tx : Ob) (n : Nat) (Tk : Ob) (x2 : Int32) (x3 : Int32) : F_X5_cutWord_2 Tx (n + 1) Tk x2 x3 = F_X5_cutWord_2_s Tx (F_X5_cutWord_2 Tx n) Tk x2 x3 := rfl
noncomputable def F_X5_cutWord (Tk : Ob) (Tx : Ob) (u2 : Int32) : Option (Int32 × Ob) :=
  (F_X5_cutWord_2 Tx 1000 Tk u2 u2)
noncomputable def F_X5_cutNumber_98 (Tx : Ob) (Tk : Ob) (x3 : Int32) (x5 : Int32) (y0 : Int32) (y1 : Int32) : Option (Int32 × Ob) :=
  zs_bd (F_X5_add Tk y1 y0 x5) (fun Tkw1 => some (x3, Tkw1))
noncomputable def F_X5_cutNumber_93 (Tx : Ob) (Tk : Ob) (x3 : Int32) (x5 : Int32) (y0 : Int32) : Option (Int32 × Ob) :=
  (F_X5_cutNumber_98 Tx Tk x3 x5 (4 : Int32) y0)
noncomputable def F_X5_cutNumber_78 (Tx : Ob) (Tk : Ob) (x2 : Int32) (x3 : Int32) (x4 : Int32) (x5 : Int32) (y0 : Int32) : Option (Int32 × Ob) :=
  (if (2 : Int32) < x4 then (F_X5_cutNumber_93 Tx Tk x3 x5 x2) else (if y0 = 0 then (F_X5_cutNumber_98 Tx Tk x3 x5 (2 : Int32) x2) else (F_X5_cutNumber_93 Tx Tk x3 x5 x2)))
noncomputable def F_X5_cutNumber_77 (Tx : Ob) (Tk : Ob) (x2 : Int32) (x3 : Int32) (x4 : Int32) (x5 : Int32) : Option (Int32 × Ob) :=
  (F_X5_cutNumber_78 Tx Tk x2 x3 x4 x5 (0 : Int32))
noncomputable def F_X5_cutNumber_56 (Tx : Ob) (Tk : Ob) (x2 : Int32) (x3 : Int32) (x4 : Int32) (x5 : Int32) : Option (Int32 × Ob) :=
  (if x4 ≤ (1 : Int32) then (F_X5_cutNumber_77 Tx Tk x2 x3 x4 x5) else zs_ck x2 250 ((if (Tx 1 (x2).toNatClampNeg) = (48 : Int32) then (F_X5_cutNumber_78 Tx Tk x2 x3 x4 x5 (1 : Int32)) else (F_X5_cutNumber_77 Tx Tk x2 x3 x4 x5))))
noncomputable def F_X5_cutNumber_50 (Tx : Ob) (r8 : Ob → Int32 → Int32 → Int32 → Int32 → Option (Int32 × Ob)) (Tk : Ob) (x2 : Int32) (x3 : Int32) (x4 : Int32) (x5 : Int32) : Option (Int32 × Ob) :=
  zs_let (x3 + (1 : Int32)) (fun z10 => (r8 Tk x2 z10 x4 x5))
noncomputable def F_X5_cutNumber_8_s (Tx : Ob) (rec : Ob → Int32 → Int32 → Int32 → Int32 → Option (Int32 × Ob)) (Tk : Ob) (x2 : Int32) (x3 : Int32) (x4 : Int32) (x5 : Int32) : Option (Int32 × Ob) :=
  (if (Tx 0 1) ≤ x3 then (F_X5_cutNumber_56 Tx Tk x2 x3 x4 x5) else zs_bd (F_X4_isDigit Tx x3) (fun r13 => (if r13 = 0 then (F_X5_cutNumber_56 Tx Tk x2 x3 x4 x5) else zs_let (x4 + (1 : Int32)) (fun z16 => (if (2 : Int32) < z16 then (F_X5_cutNumber_50 Tx rec Tk x2 x3 z16 x5) else zs_ck x3 250 (zs_let (((((10 : Int32) * x5) + (Tx 1 (x3).toNatClampNeg)) - (48 : Int32))) (fun z20 => (F_X5_cutNumber_50 Tx rec Tk x2 x3 z16 z20))))))))
noncomputable def F_X5_cutNumber_8 (Tx : Ob) (n : Nat) : Ob → Int32 → Int32 → Int32 → Int32 → Option (Int32 × Ob) := zs_fix (fun _ _ _ _ _ => none) (F_X5_cutNumber_8_s Tx) n
theorem F_X5_cutNumber_8_z (Tx : Ob) (Tk : Ob) (x2 : Int32) (x3 : Int32) (x4 : Int32) (x5 : Int32) : F_X5_cutNumber_8 Tx 0 Tk x2 x3 x4 x5 = none := rfl
theorem F_X5_cutNumber_8_n (Tx : Ob) (n : Nat) (Tk : Ob) (x2 : Int32) (x3 : Int32) (x4 : Int32) (x5 : Int32) : F_X5_cutNumber_8 Tx (n + 1) Tk x2 x3 x4 x5 = F_X5_cutNumber_8_s Tx (F_X5_cutNumber_8 Tx n) Tk x2 x3 x4 x5 := rfl
noncomputable def F_X5_cutNumber (Tk : Ob) (Tx : Ob) (u2 : Int32) : Option (Int32 × Ob) :=
  (F_X5_cutNumber_8 Tx 1000 Tk u2 u2 (0 : Int32) (0 : Int32))
noncomputable def F_X5_cutOne_48 (Tx : Ob) (Tk : Ob) (x2 : Int32) (y0 : Int32) (y1 : Int32) : Option (Int32 × Ob) :=
  zs_bd (F_X5_add Tk y1 y0 (0 : Int32)) (fun Tkw1 => some ((x2 + (1 : Int32)), Tkw1))
noncomputable def F_X5_cutOne (Tk : Ob) (Tx : Ob) (u2 : Int32) : Option (Int32 × Ob) :=
  zs_bd (F_X4_isLetter Tx u2) (fun r5 => (if r5 = 0 then zs_bd (F_X4_isDigit Tx u2) (fun r8 => (if r8 = 0 then zs_ck u2 250 ((if (Tx 1 (u2).toNatClampNeg) = (59 : Int32) then (F_X5_cutOne_48 Tx Tk u2 (3 : Int32) u2) else (F_X5_cutOne_48 Tx Tk u2 (4 : Int32) u2))) else zs_b2 (F_X5_cutNumber Tk Tx u2) (fun r13 Tkw14 => some (r13, Tkw14)))) else zs_b2 (F_X5_cutWord Tk Tx u2) (fun r18 Tkw19 => some (r18, Tkw19))))
noncomputable def F_X5_cut_47 (Tx : Ob) (Tk : Ob) : Option (Ob) :=
  zs_bd (F_X5_add Tk (Tx 0 1) (0 : Int32) (0 : Int32)) (fun Tkw1 => some Tkw1)
noncomputable def F_X5_cut_14_s (Tx : Ob) (rec : Ob → Int32 → Int32 → Option (Ob)) (Tk : Ob) (x2 : Int32) (x3 : Int32) : Option (Ob) :=
  (if (250 : Int32) ≤ x3 then (F_X5_cut_47 Tx Tk) else (if (Tx 0 1) ≤ x2 then (F_X5_cut_47 Tx Tk) else zs_b2 (F_X5_cutOne Tk Tx x2) (fun r6 Tkw7 => zs_bd (F_X5_skipBlanks Tkw7 Tx r6) (fun r9 => zs_let (x3 + (1 : Int32)) (fun z11 => (rec Tkw7 r9 z11))))))
noncomputable def F_X5_cut_14 (Tx : Ob) (n : Nat) : Ob → Int32 → Int32 → Option (Ob) := zs_fix (fun _ _ _ => none) (F_X5_cut_14_s Tx) n
theorem F_X5_cut_14_z (Tx : Ob) (Tk : Ob) (x2 : Int32) (x3 : Int32) : F_X5_cut_14 Tx 0 Tk x2 x3 = none := rfl
theorem F_X5_cut_14_n (Tx : Ob) (n : Nat) (Tk : Ob) (x2 : Int32) (x3 : Int32) : F_X5_cut_14 Tx (n + 1) Tk x2 x3 = F_X5_cut_14_s Tx (F_X5_cut_14 Tx n) Tk x2 x3 := rfl
noncomputable def F_X5_cut (Tk : Ob) (Tx : Ob) : Option (Ob) :=
  zs_let (zs_up Tk 0 3 (0 : Int32)) (fun Tkw13 => zs_bd (F_X5_skipBlanks Tkw13 Tx (0 : Int32)) (fun r15 => (F_X5_cut_14 Tx 1000 Tkw13 r15 (0 : Int32))))
noncomputable def F_X2_readToken (Rd : Ob) (Tk : Ob) : Option (Ob) :=
  (if (Tk 0 3) ≤ (Rd 0 4) then some Rd else zs_ck (Rd 0 4) 251 (zs_let (zs_up Rd 0 1 (Tk 1 ((Rd 0 4)).toNatClampNeg)) (fun Rdw4 => zs_ck (Rdw4 0 4) 251 (zs_let (zs_up Rdw4 0 2 (Tk 2 ((Rdw4 0 4)).toNatClampNeg)) (fun Rdw7 => zs_ck (Rdw7 0 4) 251 (zs_let (zs_up Rdw7 0 3 (Tk 3 ((Rdw7 0 4)).toNatClampNeg)) (fun Rdw10 => zs_let (zs_up Rdw10 0 4 ((Rdw10 0 4) + (1 : Int32))) (fun Rdw12 => some Rdw12))))))))
noncomputable def F_X2_readNumber (Rd : Ob) (Tk : Ob) (u1 : Int32) (u2 : Int32) : Option (Int32 × Ob) :=
  zs_bd (F_X2_readToken Rd Tk) (fun Rdw1 => (if (Rdw1 0 2) = (2 : Int32) then (if (Rdw1 0 3) < u1 then some ((0 : Int32), Rdw1) else (if u2 < (Rdw1 0 3) then some ((0 : Int32), Rdw1) else some ((1 : Int32), Rdw1))) else some ((0 : Int32), Rdw1)))
noncomputable def F_X2_readSemicolon (Rd : Ob) (Tk : Ob) : Option (Int32 × Ob) :=
  zs_bd (F_X2_readToken Rd Tk) (fun Rdw1 => (if (Rdw1 0 2) = (3 : Int32) then some ((1 : Int32), Rdw1) else some ((0 : Int32), Rdw1)))
noncomputable def F_X2_readWall (Rd : Ob) (Tk : Ob) (Yd : Ob) : Option (Int32 × (Ob × Ob)) :=
  zs_bd (F_X6_hasRoom Yd) (fun r1 => (if r1 = 0 then some ((0 : Int32), (Rd, Yd)) else zs_b2 (F_X2_readNumber Rd Tk (0 : Int32) (99 : Int32)) (fun r7 Rdw8 => (if r7 = 0 then some ((0 : Int32), (Rdw8, Yd)) else zs_let ((Rdw8 0 3)) (fun z11 => zs_b2 (F_X2_readNumber Rdw8 Tk (0 : Int32) (9 : Int32)) (fun r13 Rdw14 => (if r13 = 0 then some ((0 : Int32), (Rdw14, Yd)) else zs_let ((Rdw14 0 3)) (fun z17 => zs_b2 (F_X2_readSemicolon Rdw14 Tk) (fun r19 Rdw20 => (if r19 = 0 then some ((0 : Int32), (Rdw20, Yd)) else zs_bd (F_X6_addWall Yd z11 z17) (fun Ydw23 => some ((1 : Int32), (Rdw20, Ydw23)))))))))))))
noncomputable def F_X2_readSees (Rd : Ob) (Tk : Ob) (Yd : Ob) : Option (Int32 × (Ob × Ob)) :=
  zs_b2 (F_X2_readNumber Rd Tk (0 : Int32) ((Yd 0 0) - (1 : Int32))) (fun r1 Rdw2 => (if r1 = 0 then some ((0 : Int32), (Rdw2, Yd)) else zs_let ((Rdw2 0 3)) (fun z5 => zs_b2 (F_X2_readNumber Rdw2 Tk (0 : Int32) ((Yd 0 0) - (1 : Int32))) (fun r7 Rdw8 => (if r7 = 0 then some ((0 : Int32), (Rdw8, Yd)) else (if (Rdw8 0 3) = z5 then some ((0 : Int32), (Rdw8, Yd)) else zs_let ((Rdw8 0 3)) (fun z15 => zs_bd (F_X6_partsLeft Yd z5 z15) (fun r17 => zs_b2 (F_X2_readNumber Rdw8 Tk (1 : Int32) r17) (fun r19 Rdw20 => (if r19 = 0 then some ((0 : Int32), (Rdw20, Yd)) else zs_let ((Rdw20 0 3)) (fun z23 => zs_b2 (F_X2_readSemicolon Rdw20 Tk) (fun r25 Rdw26 => (if r25 = 0 then some ((0 : Int32), (Rdw26, Yd)) else zs_bd (F_X6_addParts Yd z5 z15 z23) (fun Ydw29 => some ((1 : Int32), (Rdw26, Ydw29))))))))))))))))
noncomputable def F_X2_readWork (Rd : Ob) (Tk : Ob) (Yd : Ob) : Option (Int32 × (Ob × Ob)) :=
  zs_b2 (F_X2_readNumber Rd Tk (0 : Int32) ((Yd 0 0) - (1 : Int32))) (fun r1 Rdw2 => (if r1 = 0 then some ((0 : Int32), (Rdw2, Yd)) else zs_let ((Rdw2 0 3)) (fun z5 => zs_b2 (F_X2_readNumber Rdw2 Tk (0 : Int32) (20 : Int32)) (fun r7 Rdw8 => (if r7 = 0 then some ((0 : Int32), (Rdw8, Yd)) else zs_let ((Rdw8 0 3)) (fun z11 => zs_b2 (F_X2_readNumber Rdw8 Tk (0 : Int32) (15 : Int32)) (fun r13 Rdw14 => (if r13 = 0 then some ((0 : Int32), (Rdw14, Yd)) else zs_let ((Rdw14 0 3)) (fun z17 => zs_b2 (F_X2_readNumber Rdw14 Tk (0 : Int32) (15 : Int32)) (fun r19 Rdw20 => (if r19 = 0 then some ((0 : Int32), (Rdw20, Yd)) else zs_let ((z17 + ((16 : Int32) * (Rdw20 0 3)))) (fun z23 => zs_b2 (F_X2_readSemicolon Rdw20 Tk) (fun r25 Rdw26 => (if r25 = 0 then some ((0 : Int32), (Rdw26, Yd)) else zs_ck z5 6 (zs_let (zs_up Yd 3 (z5).toNatClampNeg z11) (fun Ydw30 => zs_ck z5 6 (zs_let (zs_up Ydw30 4 (z5).toNatClampNeg z23) (fun Ydw33 => some ((1 : Int32), (Rdw26, Ydw33))))))))))))))))))))
noncomputable def F_X2_readLimit (Rd : Ob) (Tk : Ob) (Yd : Ob) : Option (Int32 × (Ob × Ob)) :=
  (if (Rd 0 5) = 0 then zs_b2 (F_X2_readNumber Rd Tk (0 : Int32) (99 : Int32)) (fun r5 Rdw6 => (if r5 = 0 then some ((0 : Int32), (Rdw6, Yd)) else zs_let ((Rdw6 0 3)) (fun z9 => zs_b2 (F_X2_readSemicolon Rdw6 Tk) (fun r11 Rdw12 => (if r11 = 0 then some ((0 : Int32), (Rdw12, Yd)) else zs_bd (F_X6_setLimit Yd z9) (fun Ydw15 => zs_let (zs_up Rdw12 0 5 (1 : Int32)) (fun Rdw17 => some ((1 : Int32), (Rdw17, Ydw15))))))))) else some ((0 : Int32), (Rd, Yd)))
noncomputable def F_X2_readItem (Rd : Ob) (Tk : Ob) (Yd : Ob) : Option (Int32 × (Ob × Ob)) :=
  (if (Rd 0 2) = (1 : Int32) then (if (Rd 0 3) = (1 : Int32) then zs_b3 (F_X2_readWall Rd Tk Yd) (fun r3 Rdw4 Ydw5 => zs_bl r3 (some (r3, (Rdw4, Ydw5)))) else (if (Rd 0 3) = (2 : Int32) then zs_b3 (F_X2_readSees Rd Tk Yd) (fun r12 Rdw13 Ydw14 => zs_bl r12 (some (r12, (Rdw13, Ydw14)))) else (if (Rd 0 3) = (3 : Int32) then zs_b3 (F_X2_readWork Rd Tk Yd) (fun r21 Rdw22 Ydw23 => zs_bl r21 (some (r21, (Rdw22, Ydw23)))) else (if (Rd 0 3) = (4 : Int32) then zs_b3 (F_X2_readLimit Rd Tk Yd) (fun r30 Rdw31 Ydw32 => zs_bl r30 (some (r30, (Rdw31, Ydw32)))) else some ((0 : Int32), (Rd, Yd)))))) else some ((0 : Int32), (Rd, Yd)))
noncomputable def F_X2_readInto_50 (Tx : Ob) (Rd : Ob) (Tk : Ob) (Yd : Ob) : Option (Int32 × (Ob × (Ob × Ob))) :=
  some (((-10 : Int32) - (Rd 0 1)), (Rd, (Tk, Yd)))
noncomputable def F_X2_readInto_28_s (Tx : Ob) (rec : Ob → Ob → Ob → Int32 → Option (Int32 × (Ob × (Ob × Ob)))) (Rd : Ob) (Tk : Ob) (Yd : Ob) (x3 : Int32) : Option (Int32 × (Ob × (Ob × Ob))) :=
  (if (Rd 0 2) = 0 then some (x3, (Rd, (Tk, Yd))) else (if (251 : Int32) ≤ x3 then some (x3, (Rd, (Tk, Yd))) else zs_b3 (F_X2_readItem Rd Tk Yd) (fun r15 Rdw16 Ydw17 => (if r15 = 0 then (F_X2_readInto_50 Tx Rdw16 Tk Ydw17) else zs_let (x3 + (1 : Int32)) (fun z20 => zs_bd (F_X2_readToken Rdw16 Tk) (fun Rdw22 => (rec Rdw22 Tk Ydw17 z20)))))))
noncomputable def F_X2_readInto_28 (Tx : Ob) (n : Nat) : Ob → Ob → Ob → Int32 → Option (Int32 × (Ob × (Ob × Ob))) := zs_fix (fun _ _ _ _ => none) (F_X2_readInto_28_s Tx) n
theorem F_X2_readInto_28_z (Tx : Ob) (Rd : Ob) (Tk : Ob) (Yd : Ob) (x3 : Int32) : F_X2_readInto_28 Tx 0 Rd Tk Yd x3 = none := rfl
theorem F_X2_readInto_28_n (Tx : Ob) (n : Nat) (Rd : Ob) (Tk : Ob) (Yd : Ob) (x3 : Int32) : F_X2_readInto_28 Tx (n + 1) Rd Tk Yd x3 = F_X2_readInto_28_s Tx (F_X2_readInto_28 Tx n) Rd Tk Yd x3 := rfl
noncomputable def F_X2_readInto (Rd : Ob) (Tk : Ob) (Yd : Ob) (Tx : Ob) : Option (Int32 × (Ob × (Ob × Ob))) :=
  zs_bd (F_X5_cut Tk Tx) (fun Tkw24 => zs_bd (F_X6_makeEmpty Yd) (fun Ydw26 => zs_let (zs_up Rd 0 4 (0 : Int32)) (fun Rdw28 => zs_let (zs_up Rdw28 0 5 (0 : Int32)) (fun Rdw30 => zs_bd (F_X2_readToken Rdw30 Tkw24) (fun Rdw32 => (F_X2_readInto_28 Tx 1000 Rdw32 Tkw24 Ydw26 (0 : Int32)))))))
noncomputable def F_X7_isWall (Yt : Ob) (u1 : Int32) : Option (Int32) :=
  (if u1 < 0 then some (0 : Int32) else (if (Yt 0 0) ≤ u1 then some (0 : Int32) else some (1 : Int32)))
noncomputable def F_X7_type (Tx : Ob) (u1 : Int64) (u2 : Int32) : Option (Int32 × Ob) :=
  (if u2 < (1 : Int32) then some ((-1 : Int32), Tx) else (if u2 ≤ (8 : Int32) then zs_bd (F_X4_hasRoomFor Tx u2) (fun r5 => (if r5 = 0 then some ((-3 : Int32), Tx) else zs_bd (F_X4_append Tx u1 u2) (fun Txw8 => some ((Txw8 0 1), Txw8)))) else some ((-1 : Int32), Tx)))
noncomputable def F_X7_clear (Tx : Ob) : Option (Int32 × Ob) :=
  zs_let ((Tx 0 1)) (fun z1 => zs_let (zs_up Tx 0 1 (0 : Int32)) (fun Txw3 => some (z1, Txw3)))
noncomputable def F_X7_wall (Pr : Ob) (Yt : Ob) (u1 : Int32) (u2 : Int32) : Option (Int32) :=
  zs_bd (F_X7_isWall Yt u1) (fun r1 => (if r1 = 0 then some (-1 : Int32) else (if u2 = (0 : Int32) then zs_ck u1 6 (some (Pr 1 (u1).toNatClampNeg)) else (if u2 = (1 : Int32) then zs_ck u1 6 (some (Yt 2 (u1).toNatClampNeg)) else (if u2 = (2 : Int32) then zs_ck u1 6 (some (Yt 3 (u1).toNatClampNeg)) else (if u2 = (3 : Int32) then zs_ck u1 6 (some (Yt 4 (u1).toNatClampNeg)) else (if u2 = (4 : Int32) then zs_bd (F_X6_dark Yt u1) (fun r17 => some r17) else (if u2 = (5 : Int32) then zs_bd (F_X7_bit (Pr 0 1) u1) (fun r21 => some r21) else (if u2 = (6 : Int32) then zs_bd (F_X7_bit (Pr 0 2) u1) (fun r25 => some r25) else some (-1 : Int32))))))))))
noncomputable def F_X7_sees (Yt : Ob) (u1 : Int32) (u2 : Int32) : Option (Int32) :=
  zs_bd (F_X7_isWall Yt u1) (fun r1 => (if r1 = 0 then some (-1 : Int32) else zs_bd (F_X7_isWall Yt u2) (fun r5 => (if r5 = 0 then some (-1 : Int32) else (if u1 = u2 then some (-1 : Int32) else zs_ck ((u1 * (6 : Int32)) + u2) 36 (some (Yt 5 (((u1 * (6 : Int32)) + u2)).toNatClampNeg)))))))
noncomputable def F_X7_hour (Pr : Ob) (Yt : Ob) : Option (Int32 × Ob) :=
  (if (Pr 0 0) < (999 : Int32) then zs_b2 (F_X1_goBy Pr Yt) (fun r2 Prw3 => some (r2, Prw3)) else some ((-2 : Int32), Pr))
noncomputable def F_X7_shut (Pr : Ob) (Yt : Ob) (u1 : Int32) (u2 : Int32) : Option (Int32 × Ob) :=
  zs_bd (F_X7_isWall Yt u1) (fun r1 => (if r1 = 0 then some ((-1 : Int32), Pr) else zs_bd (F_X7_isBit u2) (fun r6 => (if r6 = 0 then some ((-1 : Int32), Pr) else zs_bd (F_X7_bit (Pr 0 1) u1) (fun r9 => (if r9 = u2 then some ((-2 : Int32), Pr) else zs_bd (F_X1_change Pr u1) (fun Prw12 => zs_bd (F_J6_bitCount_0f7a4 (Prw12 0 1)) (fun r14 => some (r14, Prw12)))))))))
noncomputable def F_X7_mirror (Pr : Ob) (Yt : Ob) (u1 : Int32) (u2 : Int32) : Option (Int32 × Ob) :=
  zs_bd (F_X7_isWall Yt u1) (fun r1 => (if r1 = 0 then some ((-1 : Int32), Pr) else zs_bd (F_X7_isBit u2) (fun r6 => (if r6 = 0 then some ((-1 : Int32), Pr) else zs_bd (F_X7_bit (Pr 0 2) u1) (fun r9 => (if r9 = u2 then some ((-2 : Int32), Pr) else zs_bd (F_X1_change Pr ((6 : Int32) + u1)) (fun Prw12 => zs_bd (F_J6_bitCount_0f7a4 (Prw12 0 2)) (fun r14 => some (r14, Prw12)))))))))
noncomputable def F_X7_undo (Pr : Ob) : Option (Int32 × Ob) :=
  (if 0 < (Pr 0 4) then zs_bd (F_X1_changeBack Pr) (fun Prw2 => some ((Prw2 0 4), Prw2)) else some ((-2 : Int32), Pr))
noncomputable def F_X7_now (Pr : Ob) (Yt : Ob) (u1 : Int32) : Option (Int32) :=
  (if u1 = (0 : Int32) then some (Pr 0 0) else (if u1 = (1 : Int32) then zs_bd (F_X1_warmthOfAll Pr (Yt 0 0)) (fun r4 => some r4) else (if u1 = (2 : Int32) then some (Pr 0 3) else (if u1 = (3 : Int32) then zs_bd (F_X1_tooWarm Pr Yt) (fun r10 => some r10) else (if u1 = (4 : Int32) then zs_bd (F_X1_warmest Pr (Yt 0 0)) (fun r14 => some r14) else some (-1 : Int32))))))
noncomputable def F_X7_behind (Pr : Ob) (Yt : Ob) (Ah : Ob) (Tn : Ob) (u1 : Int32) (u2 : Int32) : Option (Int32 × Ob) :=
  zs_bd (F_X7_isWithin u1 (50 : Int32)) (fun r1 => (if r1 = 0 then some ((-1 : Int32), Tn) else zs_bd (F_X7_isWall Yt u2) (fun r6 => (if r6 = 0 then some ((-1 : Int32), Tn) else zs_bd (F_X0_setOut Ah Tn Pr) (fun Tnw9 => zs_bd (F_X0_goOn Ah Tnw9 Yt u1) (fun Tnw11 => zs_ck u2 6 (some ((Tnw11 1 (u2).toNatClampNeg), Tnw11))))))))
noncomputable def F_X7_first_47 (Pr : Ob) (Yt : Ob) (Ah : Ob) (Tn : Ob) (x1 : Int32) (x2 : Int32) (x3 : Int32) : Option (Int32 × Ob) :=
  (if x1 = 0 then some (x2, Tn) else zs_bd (F_X7_leastOf x3) (fun r2 => some (r2, Tn)))
noncomputable def F_X7_first_22_s (Pr : Ob) (Yt : Ob) (Ah : Ob) (rec : Ob → Int32 → Int32 → Option (Int32 × Ob)) (Tn : Ob) (x1 : Int32) (x2 : Int32) : Option (Int32 × Ob) :=
  (if (50 : Int32) < x2 then some ((-9 : Int32), Tn) else zs_bd (F_X1_tooWarm Tn Yt) (fun r11 => (if r11 = 0 then zs_bd (F_X0_goOn Ah Tn Yt (1 : Int32)) (fun Tnw14 => zs_let (x2 + (1 : Int32)) (fun z16 => (rec Tnw14 x1 z16))) else (F_X7_first_47 Pr Yt Ah Tn x1 x2 r11))))
noncomputable def F_X7_first_22 (Pr : Ob) (Yt : Ob) (Ah : Ob) (n : Nat) : Ob → Int32 → Int32 → Option (Int32 × Ob) := zs_fix (fun _ _ _ => none) (F_X7_first_22_s Pr Yt Ah) n
theorem F_X7_first_22_z (Pr : Ob) (Yt : Ob) (Ah : Ob) (Tn : Ob) (x1 : Int32) (x2 : Int32) : F_X7_first_22 Pr Yt Ah 0 Tn x1 x2 = none := rfl
theorem F_X7_first_22_n (Pr : Ob) (Yt : Ob) (Ah : Ob) (n : Nat) (Tn : Ob) (x1 : Int32) (x2 : Int32) : F_X7_first_22 Pr Yt Ah (n + 1) Tn x1 x2 = F_X7_first_22_s Pr Yt Ah (F_X7_first_22 Pr Yt Ah n) Tn x1 x2 := rfl
noncomputable def F_X7_first (Pr : Ob) (Yt : Ob) (Ah : Ob) (Tn : Ob) (u1 : Int32) : Option (Int32 × Ob) :=
  zs_bd (F_X7_isBit u1) (fun r18 => (if r18 = 0 then some ((-1 : Int32), Tn) else zs_bd (F_X0_setOut Ah Tn Pr) (fun Tnw21 => (F_X7_first_22 Pr Yt Ah 1000 Tnw21 u1 (0 : Int32)))))
noncomputable def F_X7_rest (Pr : Ob) (Yt : Ob) (Ah : Ob) (Tn : Ob) : Option (Int32 × (Ob × Ob)) :=
  zs_bd (F_X0_setOut Ah Tn Pr) (fun Tnw1 => zs_b3 (F_X0_hoursToRest Ah Tnw1 Yt) (fun r3 Ahw4 Tnw5 => some (r3, (Ahw4, Tnw5))))
noncomputable def F_X7_coolest_100 (Pr : Ob) (Yt : Ob) (Ah : Ob) (Tn : Ob) (x2 : Int32) (x3 : Int32) (x4 : Int32) : Option (Int32 × Ob) :=
  (if x2 = 0 then some (x3, Tn) else some (x4, Tn))
noncomputable def F_X7_coolest_94 (Pr : Ob) (Yt : Ob) (Ah : Ob) (r40 : Ob → Int32 → Int32 → Int32 → Int32 → Int32 → Option (Int32 × Ob)) (Tn : Ob) (x1 : Int32) (x2 : Int32) (x3 : Int32) (x4 : Int32) (x5 : Int32) : Option (Int32 × Ob) :=
  zs_let (x5 + (1 : Int32)) (fun z6 => (r40 Tn x1 x2 x3 x4 z6))
noncomputable def F_X7_coolest_87 (Pr : Ob) (Yt : Ob) (Ah : Ob) (r40 : Ob → Int32 → Int32 → Int32 → Int32 → Int32 → Option (Int32 × Ob)) (Tn : Ob) (x1 : Int32) (x2 : Int32) (x5 : Int32) (x6 : Int32) : Option (Int32 × Ob) :=
  (F_X7_coolest_94 Pr Yt Ah r40 Tn x1 x2 x6 x5 x5)
noncomputable def F_X7_coolest_40_s (Pr : Ob) (Yt : Ob) (Ah : Ob) (rec : Ob → Int32 → Int32 → Int32 → Int32 → Int32 → Option (Int32 × Ob)) (Tn : Ob) (x1 : Int32) (x2 : Int32) (x3 : Int32) (x4 : Int32) (x5 : Int32) : Option (Int32 × Ob) :=
  (if ((1 : Int32) <<< ((Yt 0 0) &&& 31)) ≤ x5 then (F_X7_coolest_100 Pr Yt Ah Tn x2 x3 x4) else zs_b2 (F_X0_warmestIfShut Ah Tn Pr Yt x5 x1) (fun r9 Tnw10 => (if x4 = (-9 : Int32) then (F_X7_coolest_87 Pr Yt Ah rec Tnw10 x1 x2 x5 r9) else (if x3 ≤ r9 then (F_X7_coolest_94 Pr Yt Ah rec Tnw10 x1 x2 x3 x4 x5) else (F_X7_coolest_87 Pr Yt Ah rec Tnw10 x1 x2 x5 r9)))))
noncomputable def F_X7_coolest_40 (Pr : Ob) (Yt : Ob) (Ah : Ob) (n : Nat) : Ob → Int32 → Int32 → Int32 → Int32 → Int32 → Option (Int32 × Ob) := zs_fix (fun _ _ _ _ _ _ => none) (F_X7_coolest_40_s Pr Yt Ah) n
theorem F_X7_coolest_40_z (Pr : Ob) (Yt : Ob) (Ah : Ob) (Tn : Ob) (x1 : Int32) (x2 : Int32) (x3 : Int32) (x4 : Int32) (x5 : Int32) : F_X7_coolest_40 Pr Yt Ah 0 Tn x1 x2 x3 x4 x5 = none := rfl
theorem F_X7_coolest_40_n (Pr : Ob) (Yt : Ob) (Ah : Ob) (n : Nat) (Tn : Ob) (x1 : Int32) (x2 : Int32) (x3 : Int32) (x4 : Int32) (x5 : Int32) : F_X7_coolest_40 Pr Yt Ah (n + 1) Tn x1 x2 x3 x4 x5 = F_X7_coolest_40_s Pr Yt Ah (F_X7_coolest_40 Pr Yt Ah n) Tn x1 x2 x3 x4 x5 := rfl
noncomputable def F_X7_coolest (Pr : Ob) (Yt : Ob) (Ah : Ob) (Tn : Ob) (u1 : Int32) (u2 : Int32) : Option (Int32 × Ob) :=
  zs_bd (F_X7_isWithin u1 (20 : Int32)) (fun r14 => (if r14 = 0 then some ((-1 : Int32), Tn) else zs_bd (F_X7_isBit u2) (fun r19 => (if r19 = 0 then some ((-1 : Int32), Tn) else (if (Yt 0 0) = 0 then some ((-9 : Int32), Tn) else (F_X7_coolest_40 Pr Yt Ah 1000 Tn u1 u2 (0 : Int32) (-9 : Int32) (0 : Int32)))))))
noncomputable def F_X7_saw (Yt : Ob) (Sg : Ob) (u1 : Int32) (u2 : Int32) (u3 : Int32) : Option (Int32 × Ob) :=
  zs_bd (F_X7_isWithin u1 (20 : Int32)) (fun r1 => (if r1 = 0 then some ((-1 : Int32), Sg) else zs_bd (F_X7_isWall Yt u2) (fun r6 => (if r6 = 0 then some ((-1 : Int32), Sg) else zs_bd (F_X7_isWithin u3 (9999 : Int32)) (fun r11 => (if r11 = 0 then some ((-1 : Int32), Sg) else (if (Sg 0 0) < (8 : Int32) then zs_bd (F_X3_add Sg u1 u2 u3) (fun Sgw15 => some ((Sgw15 0 0), Sgw15)) else some ((-3 : Int32), Sg))))))))
noncomputable def F_X7_forget (Sg : Ob) : Option (Int32 × Ob) :=
  zs_let ((Sg 0 0)) (fun z1 => zs_let (zs_up Sg 0 0 (0 : Int32)) (fun Sgw3 => some (z1, Sgw3)))
noncomputable def F_X7_count (Tx : Ob) (Pr : Ob) (Sg : Ob) (Yt : Ob) (u1 : Int32) : Option (Int32) :=
  (if u1 = (0 : Int32) then some (Yt 0 0) else (if u1 = (1 : Int32) then some (Yt 0 1) else (if u1 = (2 : Int32) then zs_bd (F_J6_bitCount_0f7a4 (Pr 0 1)) (fun r6 => some r6) else (if u1 = (3 : Int32) then zs_bd (F_J6_bitCount_0f7a4 (Pr 0 2)) (fun r10 => some r10) else (if u1 = (4 : Int32) then some (Sg 0 0) else (if u1 = (5 : Int32) then some (Pr 0 4) else (if u1 = (6 : Int32) then some (Tx 0 1) else some (-1 : Int32))))))))
noncomputable def F_X7_trace (tr : Int64) : Option (Int64) :=
  some tr
noncomputable def F_X7_busyHours_48 (Pr : Ob) (Ah : Ob) (r2 : Ob → Ob → Int32 → Int32 → Int32 → Option (Int32 × (Ob × Ob))) (Tn : Ob) (Yi : Ob) (x1 : Int32) (x2 : Int32) (x3 : Int32) : Option (Int32 × (Ob × Ob)) :=
  zs_let (x3 + (1 : Int32)) (fun z1 => (r2 Tn Yi x1 x2 z1))
noncomputable def F_X7_busyHours_2_s (Pr : Ob) (Ah : Ob) (rec : Ob → Ob → Int32 → Int32 → Int32 → Option (Int32 × (Ob × Ob))) (Tn : Ob) (Yi : Ob) (x1 : Int32) (x2 : Int32) (x3 : Int32) : Option (Int32 × (Ob × Ob)) :=
  (if (255 : Int32) < x3 then some ((-9 : Int32), (Tn, Yi)) else zs_bd (F_J6_bitCount_0f7a4 x3) (fun r7 => (if r7 = x2 then zs_ck x1 6 (zs_let (zs_up Yi 4 (x1).toNatClampNeg x3) (fun Yiw11 => zs_b2 (F_X0_staysCool Ah Tn Yiw11 Pr (16 : Int32)) (fun r13 Tnw14 => (if r13 = 0 then (F_X7_busyHours_48 Pr Ah rec Tnw14 Yiw11 x1 x2 x3) else some (x3, (Tnw14, Yiw11)))))) else (F_X7_busyHours_48 Pr Ah rec Tn Yi x1 x2 x3))))
noncomputable def F_X7_busyHours_2 (Pr : Ob) (Ah : Ob) (n : Nat) : Ob → Ob → Int32 → Int32 → Int32 → Option (Int32 × (Ob × Ob)) := zs_fix (fun _ _ _ _ _ => none) (F_X7_busyHours_2_s Pr Ah) n
theorem F_X7_busyHours_2_z (Pr : Ob) (Ah : Ob) (Tn : Ob) (Yi : Ob) (x1 : Int32) (x2 : Int32) (x3 : Int32) : F_X7_busyHours_2 Pr Ah 0 Tn Yi x1 x2 x3 = none := rfl
theorem F_X7_busyHours_2_n (Pr : Ob) (Ah : Ob) (n : Nat) (Tn : Ob) (Yi : Ob) (x1 : Int32) (x2 : Int32) (x3 : Int32) : F_X7_busyHours_2 Pr Ah (n + 1) Tn Yi x1 x2 x3 = F_X7_busyHours_2_s Pr Ah (F_X7_busyHours_2 Pr Ah n) Tn Yi x1 x2 x3 := rfl
noncomputable def F_X7_busyHours (Pr : Ob) (Ah : Ob) (Tn : Ob) (Yi : Ob) (u1 : Int32) (u2 : Int32) : Option (Int32 × (Ob × Ob)) :=
  (F_X7_busyHours_2 Pr Ah 1000 Tn Yi u1 u2 (0 : Int32))
noncomputable def F_X7_busy_53 (Pr : Ob) (Yt : Ob) (Ah : Ob) (Tn : Ob) (Yi : Ob) (x2 : Int32) (x3 : Int32) (x4 : Int32) : Option (Int32 × (Ob × Ob)) :=
  (if x2 = 0 then some (x3, (Tn, Yi)) else some (x4, (Tn, Yi)))
noncomputable def F_X7_busy_34_s (Pr : Ob) (Yt : Ob) (Ah : Ob) (rec : Ob → Ob → Int32 → Int32 → Int32 → Option (Int32 × (Ob × Ob))) (Tn : Ob) (Yi : Ob) (x1 : Int32) (x2 : Int32) (x3 : Int32) : Option (Int32 × (Ob × Ob)) :=
  (if x3 < 0 then some ((-9 : Int32), (Tn, Yi)) else zs_b3 (F_X7_busyHours Pr Ah Tn Yi x1 x3) (fun r12 Tnw13 Yiw14 => (if r12 = (-9 : Int32) then zs_let (x3 + (-1 : Int32)) (fun z17 => (rec Tnw13 Yiw14 x1 x2 z17)) else (F_X7_busy_53 Pr Yt Ah Tnw13 Yiw14 x2 x3 r12))))
noncomputable def F_X7_busy_34 (Pr : Ob) (Yt : Ob) (Ah : Ob) (n : Nat) : Ob → Ob → Int32 → Int32 → Int32 → Option (Int32 × (Ob × Ob)) := zs_fix (fun _ _ _ _ _ => none) (F_X7_busy_34_s Pr Yt Ah) n
theorem F_X7_busy_34_z (Pr : Ob) (Yt : Ob) (Ah : Ob) (Tn : Ob) (Yi : Ob) (x1 : Int32) (x2 : Int32) (x3 : Int32) : F_X7_busy_34 Pr Yt Ah 0 Tn Yi x1 x2 x3 = none := rfl
theorem F_X7_busy_34_n (Pr : Ob) (Yt : Ob) (Ah : Ob) (n : Nat) (Tn : Ob) (Yi : Ob) (x1 : Int32) (x2 : Int32) (x3 : Int32) : F_X7_busy_34 Pr Yt Ah (n + 1) Tn Yi x1 x2 x3 = F_X7_busy_34_s Pr Yt Ah (F_X7_busy_34 Pr Yt Ah n) Tn Yi x1 x2 x3 := rfl
noncomputable def F_X7_busy (Pr : Ob) (Yt : Ob) (Ah : Ob) (Tn : Ob) (Yi : Ob) (u1 : Int32) (u2 : Int32) : Option (Int32 × (Ob × Ob)) :=
  zs_bd (F_X7_isWall Yt u1) (fun r19 => (if r19 = 0 then some ((-1 : Int32), (Tn, Yi)) else zs_bd (F_X7_isBit u2) (fun r25 => (if r25 = 0 then some ((-1 : Int32), (Tn, Yi)) else zs_bd (F_X6_copy Yi Yt) (fun Yiw28 => (F_X7_busy_34 Pr Yt Ah 1000 Tn Yiw28 u1 u2 (8 : Int32)))))))
noncomputable def F_X7_blanketOf_74 (Pr : Ob) (Yt : Ob) (Ah : Ob) (r16 : Ob → Int32 → Int32 → Int32 → Int32 → Int32 → Int32 → Option (Int32 × Ob)) (Tn : Ob) (x1 : Int32) (x2 : Int32) (x3 : Int32) (x4 : Int32) (x5 : Int32) (x6 : Int32) : Option (Int32 × Ob) :=
  zs_let (x6 + (1 : Int32)) (fun z1 => (r16 Tn x1 x2 x3 x4 x5 z1))
noncomputable def F_X7_blanketOf_16_s (Pr : Ob) (Yt : Ob) (Ah : Ob) (rec : Ob → Int32 → Int32 → Int32 → Int32 → Int32 → Int32 → Option (Int32 × Ob)) (Tn : Ob) (x1 : Int32) (x2 : Int32) (x3 : Int32) (x4 : Int32) (x5 : Int32) (x6 : Int32) : Option (Int32 × Ob) :=
  (if ((1 : Int32) <<< ((Yt 0 0) &&& 31)) ≤ x6 then some ((-9 : Int32), Tn) else (if (x6 &&& x5) = 0 then zs_bd (F_J6_bitCount_0f7a4 x6) (fun r7 => (if r7 = x4 then zs_b2 (F_X0_warmthIfMirrors Ah Tn Pr Yt x6 x3 x1) (fun r10 Tnw11 => (if r10 < x2 then (F_X7_blanketOf_74 Pr Yt Ah rec Tnw11 x1 x2 x3 x4 x5 x6) else some (x6, Tnw11))) else (F_X7_blanketOf_74 Pr Yt Ah rec Tn x1 x2 x3 x4 x5 x6))) else (F_X7_blanketOf_74 Pr Yt Ah rec Tn x1 x2 x3 x4 x5 x6)))
noncomputable def F_X7_blanketOf_16 (Pr : Ob) (Yt : Ob) (Ah : Ob) (n : Nat) : Ob → Int32 → Int32 → Int32 → Int32 → Int32 → Int32 → Option (Int32 × Ob) := zs_fix (fun _ _ _ _ _ _ _ => none) (F_X7_blanketOf_16_s Pr Yt Ah) n
theorem F_X7_blanketOf_16_z (Pr : Ob) (Yt : Ob) (Ah : Ob) (Tn : Ob) (x1 : Int32) (x2 : Int32) (x3 : Int32) (x4 : Int32) (x5 : Int32) (x6 : Int32) : F_X7_blanketOf_16 Pr Yt Ah 0 Tn x1 x2 x3 x4 x5 x6 = none := rfl
theorem F_X7_blanketOf_16_n (Pr : Ob) (Yt : Ob) (Ah : Ob) (n : Nat) (Tn : Ob) (x1 : Int32) (x2 : Int32) (x3 : Int32) (x4 : Int32) (x5 : Int32) (x6 : Int32) : F_X7_blanketOf_16 Pr Yt Ah (n + 1) Tn x1 x2 x3 x4 x5 x6 = F_X7_blanketOf_16_s Pr Yt Ah (F_X7_blanketOf_16 Pr Yt Ah n) Tn x1 x2 x3 x4 x5 x6 := rfl
noncomputable def F_X7_blanketOf (Pr : Ob) (Yt : Ob) (Ah : Ob) (Tn : Ob) (u1 : Int32) (u2 : Int32) (u3 : Int32) (u4 : Int32) : Option (Int32 × Ob) :=
  zs_let (((Pr 0 2) ||| ((1 : Int32) <<< (u1 &&& 31)))) (fun z16 => (F_X7_blanketOf_16 Pr Yt Ah 1000 Tn u1 u2 u3 u4 z16 (0 : Int32)))
noncomputable def F_X7_blanket_32_s (Pr : Ob) (Yt : Ob) (Ah : Ob) (rec : Ob → Int32 → Int32 → Int32 → Int32 → Option (Int32 × Ob)) (Tn : Ob) (x1 : Int32) (x2 : Int32) (x3 : Int32) (x4 : Int32) : Option (Int32 × Ob) :=
  (if (Yt 0 0) ≤ x4 then some ((-9 : Int32), Tn) else zs_b2 (F_X7_blanketOf Pr Yt Ah Tn x1 x2 x3 x4) (fun r4 Tnw5 => (if r4 = (-9 : Int32) then zs_let (x4 + (1 : Int32)) (fun z8 => (rec Tnw5 x1 x2 x3 z8)) else some (r4, Tnw5))))
noncomputable def F_X7_blanket_32 (Pr : Ob) (Yt : Ob) (Ah : Ob) (n : Nat) : Ob → Int32 → Int32 → Int32 → Int32 → Option (Int32 × Ob) := zs_fix (fun _ _ _ _ _ => none) (F_X7_blanket_32_s Pr Yt Ah) n
theorem F_X7_blanket_32_z (Pr : Ob) (Yt : Ob) (Ah : Ob) (Tn : Ob) (x1 : Int32) (x2 : Int32) (x3 : Int32) (x4 : Int32) : F_X7_blanket_32 Pr Yt Ah 0 Tn x1 x2 x3 x4 = none := rfl
theorem F_X7_blanket_32_n (Pr : Ob) (Yt : Ob) (Ah : Ob) (n : Nat) (Tn : Ob) (x1 : Int32) (x2 : Int32) (x3 : Int32) (x4 : Int32) : F_X7_blanket_32 Pr Yt Ah (n + 1) Tn x1 x2 x3 x4 = F_X7_blanket_32_s Pr Yt Ah (F_X7_blanket_32 Pr Yt Ah n) Tn x1 x2 x3 x4 := rfl
noncomputable def F_X7_blanket (Pr : Ob) (Yt : Ob) (Ah : Ob) (Tn : Ob) (u1 : Int32) (u2 : Int32) (u3 : Int32) : Option (Int32 × Ob) :=
  zs_bd (F_X7_isWall Yt u1) (fun r12 => (if r12 = 0 then some ((-1 : Int32), Tn) else zs_bd (F_X7_isWithin u2 (999 : Int32)) (fun r17 => (if r17 = 0 then some ((-1 : Int32), Tn) else zs_bd (F_X7_isWithin u3 (20 : Int32)) (fun r22 => (if r22 = 0 then some ((-1 : Int32), Tn) else (F_X7_blanket_32 Pr Yt Ah 1000 Tn u1 u2 u3 (0 : Int32))))))))
noncomputable def F_X7_harmDone (Pr : Ob) (Yt : Ob) (Ah : Ob) (Tn : Ob) (Yi : Ob) (u1 : Int32) (u2 : Int32) : Option (Int32 × (Ob × Ob)) :=
  zs_bd (F_X6_copy Yi Yt) (fun Yiw1 => zs_bd (F_X0_setOut Ah Tn Pr) (fun Tnw3 => zs_bd (F_X0_goOn Ah Tnw3 Yt (8 : Int32)) (fun Tnw5 => zs_bd (F_X1_warmthOfAll Tnw5 (Yt 0 0)) (fun r7 => zs_ck u1 6 (zs_let (zs_up Yiw1 7 (u1).toNatClampNeg u2) (fun Yiw10 => zs_bd (F_X0_setOut Ah Tnw5 Pr) (fun Tnw12 => zs_bd (F_X0_goOn Ah Tnw12 Yiw10 (8 : Int32)) (fun Tnw14 => zs_bd (F_X1_warmthOfAll Tnw14 (Yt 0 0)) (fun r16 => some ((r16 - r7), (Tnw14, Yiw10)))))))))))
noncomputable def F_X7_leastHarmed_47 (Pr : Ob) (Yt : Ob) (Ah : Ob) (r8 : Ob → Ob → Int32 → Int32 → Int32 → Int32 → Option (Int32 × (Ob × Ob))) (Tn : Ob) (Yi : Ob) (x1 : Int32) (x2 : Int32) (x3 : Int32) (x4 : Int32) : Option (Int32 × (Ob × Ob)) :=
  zs_let (x4 + (1 : Int32)) (fun z1 => (r8 Tn Yi x1 x2 x3 z1))
noncomputable def F_X7_leastHarmed_41 (Pr : Ob) (Yt : Ob) (Ah : Ob) (r8 : Ob → Ob → Int32 → Int32 → Int32 → Int32 → Option (Int32 × (Ob × Ob))) (Tn : Ob) (Yi : Ob) (x1 : Int32) (x4 : Int32) (x5 : Int32) : Option (Int32 × (Ob × Ob)) :=
  (F_X7_leastHarmed_47 Pr Yt Ah r8 Tn Yi x1 x5 x4 x4)
noncomputable def F_X7_leastHarmed_8_s (Pr : Ob) (Yt : Ob) (Ah : Ob) (rec : Ob → Ob → Int32 → Int32 → Int32 → Int32 → Option (Int32 × (Ob × Ob))) (Tn : Ob) (Yi : Ob) (x1 : Int32) (x2 : Int32) (x3 : Int32) (x4 : Int32) : Option (Int32 × (Ob × Ob)) :=
  (if (Yt 0 0) ≤ x4 then some (x3, (Tn, Yi)) else zs_b3 (F_X7_harmDone Pr Yt Ah Tn Yi x4 x1) (fun r7 Tnw8 Yiw9 => (if x3 = (-9 : Int32) then (F_X7_leastHarmed_41 Pr Yt Ah rec Tnw8 Yiw9 x1 x4 r7) else (if x2 ≤ r7 then (F_X7_leastHarmed_47 Pr Yt Ah rec Tnw8 Yiw9 x1 x2 x3 x4) else (F_X7_leastHarmed_41 Pr Yt Ah rec Tnw8 Yiw9 x1 x4 r7)))))
noncomputable def F_X7_leastHarmed_8 (Pr : Ob) (Yt : Ob) (Ah : Ob) (n : Nat) : Ob → Ob → Int32 → Int32 → Int32 → Int32 → Option (Int32 × (Ob × Ob)) := zs_fix (fun _ _ _ _ _ _ => none) (F_X7_leastHarmed_8_s Pr Yt Ah) n
theorem F_X7_leastHarmed_8_z (Pr : Ob) (Yt : Ob) (Ah : Ob) (Tn : Ob) (Yi : Ob) (x1 : Int32) (x2 : Int32) (x3 : Int32) (x4 : Int32) : F_X7_leastHarmed_8 Pr Yt Ah 0 Tn Yi x1 x2 x3 x4 = none := rfl
theorem F_X7_leastHarmed_8_n (Pr : Ob) (Yt : Ob) (Ah : Ob) (n : Nat) (Tn : Ob) (Yi : Ob) (x1 : Int32) (x2 : Int32) (x3 : Int32) (x4 : Int32) : F_X7_leastHarmed_8 Pr Yt Ah (n + 1) Tn Yi x1 x2 x3 x4 = F_X7_leastHarmed_8_s Pr Yt Ah (F_X7_leastHarmed_8 Pr Yt Ah n) Tn Yi x1 x2 x3 x4 := rfl
noncomputable def F_X7_leastHarmed (Pr : Ob) (Yt : Ob) (Ah : Ob) (Tn : Ob) (Yi : Ob) (u1 : Int32) : Option (Int32 × (Ob × Ob)) :=
  (F_X7_leastHarmed_8 Pr Yt Ah 1000 Tn Yi u1 (0 : Int32) (-9 : Int32) (0 : Int32))
noncomputable def F_X7_harm_24 (Pr : Ob) (Yt : Ob) (Ah : Ob) (Tn : Ob) (Yi : Ob) : Option (Int32 × (Ob × Ob)) :=
  some ((-1000000 : Int32), (Tn, Yi))
noncomputable def F_X7_harm_13 (Pr : Ob) (Yt : Ob) (Ah : Ob) (Tn : Ob) (Yi : Ob) (x1 : Int32) (x2 : Int32) : Option (Int32 × (Ob × Ob)) :=
  (if x2 < (1 : Int32) then (F_X7_harm_24 Pr Yt Ah Tn Yi) else (if x2 ≤ (50 : Int32) then (if x1 = (-1 : Int32) then zs_b3 (F_X7_leastHarmed Pr Yt Ah Tn Yi x2) (fun r14 Tnw15 Yiw16 => some (r14, (Tnw15, Yiw16))) else zs_b3 (F_X7_harmDone Pr Yt Ah Tn Yi x1 x2) (fun r7 Tnw8 Yiw9 => some (r7, (Tnw8, Yiw9)))) else (F_X7_harm_24 Pr Yt Ah Tn Yi)))
noncomputable def F_X7_harm (Pr : Ob) (Yt : Ob) (Ah : Ob) (Tn : Ob) (Yi : Ob) (u1 : Int32) (u2 : Int32) : Option (Int32 × (Ob × Ob)) :=
  (if u1 = (-1 : Int32) then (F_X7_harm_13 Pr Yt Ah Tn Yi u1 u2) else zs_bd (F_X7_isWall Yt u1) (fun r22 => (if r22 = 0 then (F_X7_harm_24 Pr Yt Ah Tn Yi) else (F_X7_harm_13 Pr Yt Ah Tn Yi u1 u2))))
noncomputable def F_X7_holeRate_65 (Yt : Ob) (Sg : Ob) (Ah : Ob) (Tn : Ob) (Yi : Ob) (x1 : Int32) (x2 : Int32) : Option (Int32 × (Ob × Ob)) :=
  zs_ck x1 6 (zs_ck x1 6 (zs_let (zs_up Yi 2 (x1).toNatClampNeg (Yt 2 (x1).toNatClampNeg)) (fun Yiw3 => some (x2, (Tn, Yiw3)))))
noncomputable def F_X7_holeRate_59 (Yt : Ob) (Sg : Ob) (Ah : Ob) (r5 : Ob → Ob → Int32 → Int32 → Int32 → Option (Int32 × (Ob × Ob))) (Tn : Ob) (Yi : Ob) (x1 : Int32) (x2 : Int32) (x3 : Int32) : Option (Int32 × (Ob × Ob)) :=
  zs_let (x3 + (1 : Int32)) (fun z8 => (r5 Tn Yi x1 x2 z8))
noncomputable def F_X7_holeRate_5_s (Yt : Ob) (Sg : Ob) (Ah : Ob) (rec : Ob → Ob → Int32 → Int32 → Int32 → Option (Int32 × (Ob × Ob))) (Tn : Ob) (Yi : Ob) (x1 : Int32) (x2 : Int32) (x3 : Int32) : Option (Int32 × (Ob × Ob)) :=
  (if (9 : Int32) < x3 then (F_X7_holeRate_65 Yt Sg Ah Tn Yi x1 x2) else (if x2 = (-9 : Int32) then zs_ck x1 6 (zs_let (zs_up Yi 2 (x1).toNatClampNeg x3) (fun Yiw13 => zs_ck x1 6 ((if x3 = (Yt 2 (x1).toNatClampNeg) then (F_X7_holeRate_59 Yt Sg Ah rec Tn Yiw13 x1 x2 x3) else zs_b2 (F_X0_allSeenIsSo Ah Tn Yiw13 Sg) (fun r17 Tnw18 => (if r17 = 0 then (F_X7_holeRate_59 Yt Sg Ah rec Tnw18 Yiw13 x1 x2 x3) else (F_X7_holeRate_59 Yt Sg Ah rec Tnw18 Yiw13 x1 x3 x3))))))) else (F_X7_holeRate_65 Yt Sg Ah Tn Yi x1 x2)))
noncomputable def F_X7_holeRate_5 (Yt : Ob) (Sg : Ob) (Ah : Ob) (n : Nat) : Ob → Ob → Int32 → Int32 → Int32 → Option (Int32 × (Ob × Ob)) := zs_fix (fun _ _ _ _ _ => none) (F_X7_holeRate_5_s Yt Sg Ah) n
theorem F_X7_holeRate_5_z (Yt : Ob) (Sg : Ob) (Ah : Ob) (Tn : Ob) (Yi : Ob) (x1 : Int32) (x2 : Int32) (x3 : Int32) : F_X7_holeRate_5 Yt Sg Ah 0 Tn Yi x1 x2 x3 = none := rfl
theorem F_X7_holeRate_5_n (Yt : Ob) (Sg : Ob) (Ah : Ob) (n : Nat) (Tn : Ob) (Yi : Ob) (x1 : Int32) (x2 : Int32) (x3 : Int32) : F_X7_holeRate_5 Yt Sg Ah (n + 1) Tn Yi x1 x2 x3 = F_X7_holeRate_5_s Yt Sg Ah (F_X7_holeRate_5 Yt Sg Ah n) Tn Yi x1 x2 x3 := rfl
noncomputable def F_X7_holeRate (Yt : Ob) (Sg : Ob) (Ah : Ob) (Tn : Ob) (Yi : Ob) (u1 : Int32) : Option (Int32 × (Ob × Ob)) :=
  (F_X7_holeRate_5 Yt Sg Ah 1000 Tn Yi u1 (-9 : Int32) (0 : Int32))
noncomputable def F_X7_holesOfAll_50 (Yt : Ob) (Sg : Ob) (Ah : Ob) (r23 : Ob → Ob → Int32 → Int32 → Option (Int32 × (Ob × Ob))) (Tn : Ob) (Yi : Ob) (x1 : Int32) (x2 : Int32) : Option (Int32 × (Ob × Ob)) :=
  zs_let (x2 + (1 : Int32)) (fun z1 => (r23 Tn Yi x1 z1))
noncomputable def F_X7_holesOfAll_23_s (Yt : Ob) (Sg : Ob) (Ah : Ob) (rec : Ob → Ob → Int32 → Int32 → Option (Int32 × (Ob × Ob))) (Tn : Ob) (Yi : Ob) (x1 : Int32) (x2 : Int32) : Option (Int32 × (Ob × Ob)) :=
  (if (Yt 0 0) ≤ x2 then some (x1, (Tn, Yi)) else zs_b3 (F_X7_holeRate Yt Sg Ah Tn Yi x2) (fun r7 Tnw8 Yiw9 => (if r7 = (-9 : Int32) then (F_X7_holesOfAll_50 Yt Sg Ah rec Tnw8 Yiw9 x1 x2) else zs_let ((x1 ||| ((1 : Int32) <<< (x2 &&& 31)))) (fun z12 => (F_X7_holesOfAll_50 Yt Sg Ah rec Tnw8 Yiw9 z12 x2)))))
noncomputable def F_X7_holesOfAll_23 (Yt : Ob) (Sg : Ob) (Ah : Ob) (n : Nat) : Ob → Ob → Int32 → Int32 → Option (Int32 × (Ob × Ob)) := zs_fix (fun _ _ _ _ => none) (F_X7_holesOfAll_23_s Yt Sg Ah) n
theorem F_X7_holesOfAll_23_z (Yt : Ob) (Sg : Ob) (Ah : Ob) (Tn : Ob) (Yi : Ob) (x1 : Int32) (x2 : Int32) : F_X7_holesOfAll_23 Yt Sg Ah 0 Tn Yi x1 x2 = none := rfl
theorem F_X7_holesOfAll_23_n (Yt : Ob) (Sg : Ob) (Ah : Ob) (n : Nat) (Tn : Ob) (Yi : Ob) (x1 : Int32) (x2 : Int32) : F_X7_holesOfAll_23 Yt Sg Ah (n + 1) Tn Yi x1 x2 = F_X7_holesOfAll_23_s Yt Sg Ah (F_X7_holesOfAll_23 Yt Sg Ah n) Tn Yi x1 x2 := rfl
noncomputable def F_X7_holesOfAll_20 (Yt : Ob) (Sg : Ob) (Ah : Ob) (Tn : Ob) (Yi : Ob) (y0 : Int32) : Option (Int32 × (Ob × Ob)) :=
  (F_X7_holesOfAll_23 Yt Sg Ah 1000 Tn Yi y0 (0 : Int32))
noncomputable def F_X7_holesOfAll (Yt : Ob) (Sg : Ob) (Ah : Ob) (Tn : Ob) (Yi : Ob) : Option (Int32 × (Ob × Ob)) :=
  zs_b2 (F_X0_allSeenIsSo Ah Tn Yi Sg) (fun r14 Tnw15 => (if r14 = 0 then (F_X7_holesOfAll_20 Yt Sg Ah Tnw15 Yi (0 : Int32)) else (F_X7_holesOfAll_20 Yt Sg Ah Tnw15 Yi (64 : Int32))))
noncomputable def F_X7_holes_15 (Yt : Ob) (Sg : Ob) (Ah : Ob) (Tn : Ob) (Yi : Ob) (x1 : Int32) : Option (Int32 × (Ob × Ob)) :=
  zs_bd (F_X6_copy Yi Yt) (fun Yiw1 => (if x1 = (-1 : Int32) then zs_b3 (F_X7_holesOfAll Yt Sg Ah Tn Yiw1) (fun r11 Tnw12 Yiw13 => some (r11, (Tnw12, Yiw13))) else zs_b3 (F_X7_holeRate Yt Sg Ah Tn Yiw1 x1) (fun r4 Tnw5 Yiw6 => some (r4, (Tnw5, Yiw6)))))
noncomputable def F_X7_holes (Yt : Ob) (Sg : Ob) (Ah : Ob) (Tn : Ob) (Yi : Ob) (u1 : Int32) : Option (Int32 × (Ob × Ob)) :=
  (if u1 = (-1 : Int32) then (F_X7_holes_15 Yt Sg Ah Tn Yi u1) else zs_bd (F_X7_isWall Yt u1) (fun r19 => (if r19 = 0 then some ((-1 : Int32), (Tn, Yi)) else (F_X7_holes_15 Yt Sg Ah Tn Yi u1))))
noncomputable def F_X7_markOfWall (tr : Int64) (Pr : Ob) (Yt : Ob) (u1 : Int32) : Option (Int32 × Int64) :=
  zs_let ((tr + (1 : Int64))) (fun trw1 => zs_ck u1 6 (some ((Pr 1 (u1).toNatClampNeg), trw1)))
noncomputable def F_X7_markOfFin (tr : Int64) (Pr : Ob) (Yt : Ob) (u1 : Int32) : Option (Int32 × Int64) :=
  zs_let ((tr + (10 : Int64))) (fun trw1 => zs_b2 (F_X7_markOfWall trw1 Pr Yt u1) (fun r3 trw4 => zs_ck u1 6 (some ((r3 + (Yt 2 (u1).toNatClampNeg)), trw4))))
noncomputable def F_X7_markOfBrick (tr : Int64) (Pr : Ob) (Yt : Ob) (u1 : Int32) : Option (Int32 × Int64) :=
  zs_let ((tr + (100 : Int64))) (fun trw1 => zs_b2 (F_X7_markOfWall trw1 Pr Yt u1) (fun r3 trw4 => zs_bd (F_X6_dark Yt u1) (fun r6 => some ((r3 - r6), trw4))))
noncomputable def F_X7_markOfFurnace (tr : Int64) (Pr : Ob) (Yt : Ob) (u1 : Int32) : Option (Int32 × Int64) :=
  zs_let ((tr + (1000 : Int64))) (fun trw1 => zs_b2 (F_X7_markOfFin trw1 Pr Yt u1) (fun r3 trw4 => some ((r3 * (2 : Int32)), trw4)))
noncomputable def F_X7_markOfWindow (tr : Int64) (Pr : Ob) (Yt : Ob) (u1 : Int32) : Option (Int32 × Int64) :=
  zs_let ((tr + (10000 : Int64))) (fun trw1 => zs_b2 (F_X7_markOfBrick trw1 Pr Yt u1) (fun r3 trw4 => some ((r3 + u1), trw4)))
noncomputable def F_X7_markOfHull (tr : Int64) (Pr : Ob) (Yt : Ob) (u1 : Int32) : Option (Int32 × Int64) :=
  zs_let ((tr + (100000 : Int64))) (fun trw1 => zs_b2 (F_X7_markOfWall trw1 Pr Yt u1) (fun r3 trw4 => some ((r3 + (Pr 0 0)), trw4)))
noncomputable def F_X7_mark (tr : Int64) (Pr : Ob) (Yt : Ob) (u1 : Int32) (u2 : Int32) : Option (Int32 × Int64) :=
  zs_bd (F_X7_isWall Yt u2) (fun r1 => (if r1 = 0 then some ((-1000000 : Int32), tr) else (if u1 = (0 : Int32) then zs_b2 (F_X7_markOfWall tr Pr Yt u2) (fun r5 trw6 => some (r5, trw6)) else (if u1 = (1 : Int32) then zs_b2 (F_X7_markOfFin tr Pr Yt u2) (fun r11 trw12 => some (r11, trw12)) else (if u1 = (2 : Int32) then zs_b2 (F_X7_markOfBrick tr Pr Yt u2) (fun r17 trw18 => some (r17, trw18)) else (if u1 = (3 : Int32) then zs_b2 (F_X7_markOfFurnace tr Pr Yt u2) (fun r23 trw24 => some (r23, trw24)) else (if u1 = (4 : Int32) then zs_b2 (F_X7_markOfWindow tr Pr Yt u2) (fun r29 trw30 => some (r29, trw30)) else (if u1 = (5 : Int32) then zs_b2 (F_X7_markOfHull tr Pr Yt u2) (fun r35 trw36 => some (r35, trw36)) else some ((-1000000 : Int32), tr)))))))))
noncomputable def F_X7_keep (Xm : Ob) (Pr : Ob) (Im0 : Ob) (Im1 : Ob) (u1 : Int32) : Option (Int32 × (Ob × (Ob × Ob))) :=
  zs_bd (F_X7_isImage u1) (fun r1 => (if r1 = 0 then some ((-1 : Int32), (Xm, (Im0, Im1))) else zs_ck u1 2 (if u1 = (0 : Int32) then zs_bd (F_X1_copyWithChanges Im0 Pr) (fun Im0w6 => zs_let (zs_up Xm 0 8 ((Xm 0 8) ||| ((1 : Int32) <<< (u1 &&& 31)))) (fun Xmw8 => some ((Pr 0 0), (Xmw8, (Im0w6, Im1))))) else zs_bd (F_X1_copyWithChanges Im1 Pr) (fun Im1w14 => zs_let (zs_up Xm 0 8 ((Xm 0 8) ||| ((1 : Int32) <<< (u1 &&& 31)))) (fun Xmw16 => some ((Pr 0 0), (Xmw16, (Im0, Im1w14))))))))
noncomputable def F_X7_back (Xm : Ob) (Pr : Ob) (Im0 : Ob) (Im1 : Ob) (u1 : Int32) : Option (Int32 × Ob) :=
  zs_bd (F_X7_isImage u1) (fun r1 => (if r1 = 0 then some ((-1 : Int32), Pr) else zs_bd (F_X7_bit (Xm 0 8) u1) (fun r4 => (if r4 = 0 then some ((-2 : Int32), Pr) else zs_ck u1 2 (if u1 = (0 : Int32) then zs_bd (F_X1_copyWithChanges Pr Im0) (fun Prw9 => some ((Prw9 0 0), Prw9)) else zs_bd (F_X1_copyWithChanges Pr Im1) (fun Prw13 => some ((Prw13 0 0), Prw13)))))))
noncomputable def F_X7_walls (Xm : Ob) (Tx : Ob) (Rd : Ob) (Tk : Ob) (Pr : Ob) (Sg : Ob) (Yt : Ob) (Yr : Ob) (aYt : Ad) (aYr : Ad) : Option (Int32 × (Ob × (Ob × (Ob × (Ob × (Ob × (Ob × (Ob × (Ob × (Ad × Ad)))))))))) :=
  zs_b4 (F_X2_readInto Rd Tk Yr Tx) (fun r1 Rdw2 Tkw3 Yrw4 => (if 0 ≤ r1 then zs_let (zs_up Tx 0 1 (0 : Int32)) (fun Txw7 => zs_bd (F_X1_begin Pr Yrw4) (fun Prw9 => zs_let (zs_up Sg 0 0 (0 : Int32)) (fun Sgw11 => zs_let (zs_up Xm 0 8 (0 : Int32)) (fun Xmw13 => some (r1, (Xmw13, (Txw7, (Rdw2, (Tkw3, (Prw9, (Sgw11, (Yrw4, (Yt, (aYr, aYt)))))))))))))) else some (r1, (Xm, (Tx, (Rdw2, (Tkw3, (Pr, (Sg, (Yt, (Yrw4, (aYt, aYr))))))))))))
noncomputable def F_X8_in (u1 : Int64) (u2 : Int64) (u3 : Int64) : Option (Int32) :=
  (if (lg_cmp u1 u2) < 0 then some (0 : Int32) else (if 0 < (lg_cmp u1 u3) then some (0 : Int32) else some (1 : Int32)))
noncomputable def F_X8_isLetter (u1 : Int32) : Option (Int32) :=
  zs_bd (F_X8_in ((u1).toInt64) (97 : Int64) (122 : Int64)) (fun r1 => zs_bl r1 (some r1))
noncomputable def F_X8_isFigure (u1 : Int32) : Option (Int32) :=
  zs_bd (F_X8_in ((u1).toInt64) (48 : Int64) (57 : Int64)) (fun r1 => zs_bl r1 (some r1))
noncomputable def F_X8_many_4_s (rec : Int32 → Int32 → Option (Int32)) (x1 : Int32) (x2 : Int32) : Option (Int32) :=
  (if x2 = 0 then some x1 else zs_let (x1 + (1 : Int32)) (fun z3 => zs_let ((x2 &&& (x2 - (1 : Int32)))) (fun z5 => (rec z3 z5))))
noncomputable def F_X8_many_4 (n : Nat) : Int32 → Int32 → Option (Int32) := zs_fix (fun _ _ => none) (F_X8_many_4_s) n
theorem F_X8_many_4_z (x1 : Int32) (x2 : Int32) : F_X8_many_4 0 x1 x2 = none := rfl
theorem F_X8_many_4_n (n : Nat) (x1 : Int32) (x2 : Int32) : F_X8_many_4 (n + 1) x1 x2 = F_X8_many_4_s (F_X8_many_4 n) x1 x2 := rfl
noncomputable def F_X8_many (u1 : Int32) : Option (Int32) :=
  (F_X8_many_4 1000 (0 : Int32) u1)
noncomputable def F_X8_isWall (Md : Ob) (u1 : Int32) : Option (Int32) :=
  zs_bd (F_X8_in ((u1).toInt64) (0 : Int64) ((((Md 0 10) - (1 : Int32))).toInt64)) (fun r1 => zs_bl r1 (some r1))
noncomputable def F_X8_type_76 (Md : Ob) : Option (Int32 × Ob) :=
  some ((Md 0 1), Md)
noncomputable def F_X8_type_34_s (rec : Ob → Int64 → Int32 → Option (Int32 × Ob)) (Md : Ob) (x1 : Int64) (x4 : Int32) : Option (Int32 × Ob) :=
  (if x4 < 0 then (F_X8_type_76 Md) else zs_ck (Md 0 1) 250 (zs_let (zs_up Md 1 ((Md 0 1)).toNatClampNeg ((((x1 >>> ((((8 : Int32) * x4)).toInt64 &&& 63)) &&& (255 : Int64))).toInt32)) (fun Mdw5 => zs_let (zs_up Mdw5 0 1 ((Mdw5 0 1) + (1 : Int32))) (fun Mdw7 => zs_let (x4 + (-1 : Int32)) (fun z9 => (rec Mdw7 x1 z9))))))
noncomputable def F_X8_type_34 (n : Nat) : Ob → Int64 → Int32 → Option (Int32 × Ob) := zs_fix (fun _ _ _ => none) (F_X8_type_34_s) n
theorem F_X8_type_34_z (Md : Ob) (x1 : Int64) (x4 : Int32) : F_X8_type_34 0 Md x1 x4 = none := rfl
theorem F_X8_type_34_n (n : Nat) (Md : Ob) (x1 : Int64) (x4 : Int32) : F_X8_type_34 (n + 1) Md x1 x4 = F_X8_type_34_s (F_X8_type_34 n) Md x1 x4 := rfl
noncomputable def F_X8_type (Md : Ob) (u1 : Int64) (u2 : Int32) : Option (Int32 × Ob) :=
  zs_bd (F_X8_in ((u2).toInt64) (1 : Int64) (8 : Int64)) (fun r11 => (if r11 = 0 then some ((-1 : Int32), Md) else (if ((Md 0 1) + u2) ≤ (250 : Int32) then zs_let ((u2 - (1 : Int32))) (fun z15 => (F_X8_type_34 1000 Md u1 z15)) else some ((-3 : Int32), Md))))
noncomputable def F_X8_clear (Md : Ob) : Option (Int32 × Ob) :=
  zs_let ((Md 0 1)) (fun z1 => zs_let (zs_up Md 0 1 (0 : Int32)) (fun Mdw3 => some (z1, Mdw3)))
noncomputable def F_X8_readWord_147 (Md : Ob) (y0 : Int32) : Option (Ob) :=
  zs_let (zs_up Md 0 4 y0) (fun Mdw1 => some Mdw1)
noncomputable def F_X8_readWord_129 (Md : Ob) (y0 : Int32) : Option (Ob) :=
  zs_let (zs_up Md 0 5 y0) (fun Mdw4 => (if (Mdw4 0 5) = (-9 : Int32) then (F_X8_readWord_147 Mdw4 (4 : Int32)) else (F_X8_readWord_147 Mdw4 (1 : Int32))))
noncomputable def F_X8_readWord_78 (Md : Ob) (x1 : Int64) : Option (Ob) :=
  (if (lg_cmp x1 (2002873452 : Int64)) = 0 then (F_X8_readWord_129 Md (0 : Int32)) else (if (lg_cmp x1 (1936024947 : Int64)) = 0 then (F_X8_readWord_129 Md (1 : Int32)) else (if (lg_cmp x1 (2003792491 : Int64)) = 0 then (F_X8_readWord_129 Md (2 : Int32)) else (if (lg_cmp x1 (465625246068 : Int64)) = 0 then (F_X8_readWord_129 Md (3 : Int32)) else (F_X8_readWord_129 Md (-9 : Int32))))))
noncomputable def F_X8_readWord_64 (r2 : Ob → Int64 → Option (Ob)) (Md : Ob) (y0 : Int64) : Option (Ob) :=
  zs_let (zs_up Md 0 2 ((Md 0 2) + (1 : Int32))) (fun Mdw11 => (r2 Mdw11 y0))
noncomputable def F_X8_readWord_2_s (rec : Ob → Int64 → Option (Ob)) (Md : Ob) (x1 : Int64) : Option (Ob) :=
  (if (Md 0 1) ≤ (Md 0 2) then (F_X8_readWord_78 Md x1) else zs_ck (Md 0 2) 250 (zs_bd (F_X8_isLetter (Md 1 ((Md 0 2)).toNatClampNeg)) (fun r15 => (if r15 = 0 then (F_X8_readWord_78 Md x1) else (if ((Md 0 2) - (Md 0 3)) ≤ (6 : Int32) then zs_ck (Md 0 2) 250 ((F_X8_readWord_64 rec Md ((x1 * (256 : Int64)) + (((Md 1 ((Md 0 2)).toNatClampNeg)).toInt64)))) else (F_X8_readWord_64 rec Md (-1 : Int64)))))))
noncomputable def F_X8_readWord_2 (n : Nat) : Ob → Int64 → Option (Ob) := zs_fix (fun _ _ => none) (F_X8_readWord_2_s) n
theorem F_X8_readWord_2_z (Md : Ob) (x1 : Int64) : F_X8_readWord_2 0 Md x1 = none := rfl
theorem F_X8_readWord_2_n (n : Nat) (Md : Ob) (x1 : Int64) : F_X8_readWord_2 (n + 1) Md x1 = F_X8_readWord_2_s (F_X8_readWord_2 n) Md x1 := rfl
noncomputable def F_X8_readWord (Md : Ob) : Option (Ob) :=
  (F_X8_readWord_2 1000 Md (0 : Int64))
noncomputable def F_X8_readNumber_108 (Md : Ob) (x1 : Int32) (y0 : Int32) : Option (Ob) :=
  zs_let (zs_up Md 0 4 y0) (fun Mdw1 => zs_let (zs_up Mdw1 0 5 x1) (fun Mdw3 => some Mdw3))
noncomputable def F_X8_readNumber_107 (Md : Ob) (x1 : Int32) : Option (Ob) :=
  (F_X8_readNumber_108 Md x1 (2 : Int32))
noncomputable def F_X8_readNumber_103 (Md : Ob) (x1 : Int32) : Option (Ob) :=
  (F_X8_readNumber_108 Md x1 (4 : Int32))
noncomputable def F_X8_readNumber_69 (Md : Ob) (x1 : Int32) : Option (Ob) :=
  (if (99 : Int32) < x1 then (F_X8_readNumber_103 Md x1) else (if ((Md 0 2) - (Md 0 3)) ≤ (1 : Int32) then (F_X8_readNumber_107 Md x1) else zs_ck (Md 0 3) 250 ((if (Md 1 ((Md 0 3)).toNatClampNeg) = (48 : Int32) then (F_X8_readNumber_103 Md x1) else (F_X8_readNumber_107 Md x1)))))
noncomputable def F_X8_readNumber_55 (r2 : Ob → Int32 → Option (Ob)) (Md : Ob) (y0 : Int32) : Option (Ob) :=
  zs_let (zs_up Md 0 2 ((Md 0 2) + (1 : Int32))) (fun Mdw10 => (r2 Mdw10 y0))
noncomputable def F_X8_readNumber_2_s (rec : Ob → Int32 → Option (Ob)) (Md : Ob) (x1 : Int32) : Option (Ob) :=
  (if (Md 0 1) ≤ (Md 0 2) then (F_X8_readNumber_69 Md x1) else zs_ck (Md 0 2) 250 (zs_bd (F_X8_isFigure (Md 1 ((Md 0 2)).toNatClampNeg)) (fun r14 => (if r14 = 0 then (F_X8_readNumber_69 Md x1) else (if x1 ≤ (99 : Int32) then zs_ck (Md 0 2) 250 ((F_X8_readNumber_55 rec Md ((((10 : Int32) * x1) + (Md 1 ((Md 0 2)).toNatClampNeg)) - (48 : Int32)))) else (F_X8_readNumber_55 rec Md x1))))))
noncomputable def F_X8_readNumber_2 (n : Nat) : Ob → Int32 → Option (Ob) := zs_fix (fun _ _ => none) (F_X8_readNumber_2_s) n
theorem F_X8_readNumber_2_z (Md : Ob) (x1 : Int32) : F_X8_readNumber_2 0 Md x1 = none := rfl
theorem F_X8_readNumber_2_n (n : Nat) (Md : Ob) (x1 : Int32) : F_X8_readNumber_2 (n + 1) Md x1 = F_X8_readNumber_2_s (F_X8_readNumber_2 n) Md x1 := rfl
noncomputable def F_X8_readNumber (Md : Ob) : Option (Ob) :=
  (F_X8_readNumber_2 1000 Md (0 : Int32))
noncomputable def F_X8_reads_150 (Md : Ob) (y0 : Int32) (y1 : Int32) : Option (Ob) :=
  zs_let (zs_up Md 0 2 (y1 + y0)) (fun Mdw1 => some Mdw1)
noncomputable def F_X8_reads_129 (Md : Ob) (y0 : Int32) : Option (Ob) :=
  zs_let (zs_up Md 0 4 y0) (fun Mdw4 => (if (Mdw4 0 4) = (3 : Int32) then (F_X8_reads_150 Mdw4 (1 : Int32) (Mdw4 0 2)) else (F_X8_reads_150 Mdw4 (0 : Int32) (Mdw4 0 2))))
noncomputable def F_X8_reads_38 (Md : Ob) : Option (Ob) :=
  zs_let (zs_up Md 0 3 (Md 0 2)) (fun Mdw7 => (if (Mdw7 0 2) = (Mdw7 0 1) then zs_let (zs_up Mdw7 0 4 (0 : Int32)) (fun Mdw26 => some Mdw26) else zs_ck (Mdw7 0 2) 250 (zs_bd (F_X8_isLetter (Mdw7 1 ((Mdw7 0 2)).toNatClampNeg)) (fun r11 => (if r11 = 0 then zs_ck (Mdw7 0 2) 250 (zs_bd (F_X8_isFigure (Mdw7 1 ((Mdw7 0 2)).toNatClampNeg)) (fun r15 => (if r15 = 0 then zs_ck (Mdw7 0 2) 250 ((if (Mdw7 1 ((Mdw7 0 2)).toNatClampNeg) = (59 : Int32) then (F_X8_reads_129 Mdw7 (3 : Int32)) else (F_X8_reads_129 Mdw7 (4 : Int32)))) else zs_bd (F_X8_readNumber Mdw7) (fun Mdw20 => some Mdw20)))) else zs_bd (F_X8_readWord Mdw7) (fun Mdw23 => some Mdw23))))))
noncomputable def F_X8_reads_0_s (rec : Ob → Option (Ob)) (Md : Ob) : Option (Ob) :=
  (if (Md 0 1) ≤ (Md 0 2) then (F_X8_reads_38 Md) else zs_ck (Md 0 2) 250 ((if (Md 1 ((Md 0 2)).toNatClampNeg) = (32 : Int32) then zs_let (zs_up Md 0 2 ((Md 0 2) + (1 : Int32))) (fun Mdw32 => (rec Mdw32)) else (F_X8_reads_38 Md))))
noncomputable def F_X8_reads_0 (n : Nat) : Ob → Option (Ob) := zs_fix (fun _ => none) (F_X8_reads_0_s) n
theorem F_X8_reads_0_z (Md : Ob) : F_X8_reads_0 0 Md = none := rfl
theorem F_X8_reads_0_n (n : Nat) (Md : Ob) : F_X8_reads_0 (n + 1) Md = F_X8_reads_0_s (F_X8_reads_0 n) Md := rfl
noncomputable def F_X8_reads (Md : Ob) : Option (Ob) :=
  (F_X8_reads_0 1000 Md)
noncomputable def F_X8_number (Md : Ob) (u1 : Int32) (u2 : Int32) : Option (Int32 × Ob) :=
  zs_bd (F_X8_reads Md) (fun Mdw1 => (if (Mdw1 0 4) = (2 : Int32) then zs_bd (F_X8_in (((Mdw1 0 5)).toInt64) ((u1).toInt64) ((u2).toInt64)) (fun r6 => (if r6 = 0 then some ((-1 : Int32), Mdw1) else some ((Mdw1 0 5), Mdw1))) else some ((-1 : Int32), Mdw1)))
noncomputable def F_X8_seen_parts_5_s (Md : Ob) (rec : Int32 → Int32 → Int32 → Option (Int32)) (x2 : Int32) (x3 : Int32) (x4 : Int32) : Option (Int32) :=
  (if (6 : Int32) ≤ x4 then some x3 else zs_ck (((6 : Int32) * x2) + x4) 36 (zs_let ((x3 + (Md 8 ((((6 : Int32) * x2) + x4)).toNatClampNeg))) (fun z4 => zs_let (x4 + (1 : Int32)) (fun z6 => (rec x2 z4 z6)))))
noncomputable def F_X8_seen_parts_5 (Md : Ob) (n : Nat) : Int32 → Int32 → Int32 → Option (Int32) := zs_fix (fun _ _ _ => none) (F_X8_seen_parts_5_s Md) n
theorem F_X8_seen_parts_5_z (Md : Ob) (x2 : Int32) (x3 : Int32) (x4 : Int32) : F_X8_seen_parts_5 Md 0 x2 x3 x4 = none := rfl
theorem F_X8_seen_parts_5_n (Md : Ob) (n : Nat) (x2 : Int32) (x3 : Int32) (x4 : Int32) : F_X8_seen_parts_5 Md (n + 1) x2 x3 x4 = F_X8_seen_parts_5_s Md (F_X8_seen_parts_5 Md n) x2 x3 x4 := rfl
noncomputable def F_X8_seen_parts (Md : Ob) (u2 : Int32) : Option (Int32) :=
  (F_X8_seen_parts_5 Md 1000 u2 (0 : Int32) (0 : Int32))
noncomputable def F_X8_seen_readParts_5_s (Md : Ob) (rec : Int32 → Int32 → Int32 → Option (Int32)) (x2 : Int32) (x3 : Int32) (x4 : Int32) : Option (Int32) :=
  (if (6 : Int32) ≤ x4 then some x3 else zs_ck (((6 : Int32) * x2) + x4) 36 (zs_let ((x3 + (Md 3 ((((6 : Int32) * x2) + x4)).toNatClampNeg))) (fun z4 => zs_let (x4 + (1 : Int32)) (fun z6 => (rec x2 z4 z6)))))
noncomputable def F_X8_seen_readParts_5 (Md : Ob) (n : Nat) : Int32 → Int32 → Int32 → Option (Int32) := zs_fix (fun _ _ _ => none) (F_X8_seen_readParts_5_s Md) n
theorem F_X8_seen_readParts_5_z (Md : Ob) (x2 : Int32) (x3 : Int32) (x4 : Int32) : F_X8_seen_readParts_5 Md 0 x2 x3 x4 = none := rfl
theorem F_X8_seen_readParts_5_n (Md : Ob) (n : Nat) (x2 : Int32) (x3 : Int32) (x4 : Int32) : F_X8_seen_readParts_5 Md (n + 1) x2 x3 x4 = F_X8_seen_readParts_5_s Md (F_X8_seen_readParts_5 Md n) x2 x3 x4 := rfl
noncomputable def F_X8_seen_readParts (Md : Ob) (u2 : Int32) : Option (Int32) :=
  (F_X8_seen_readParts_5 Md 1000 u2 (0 : Int32) (0 : Int32))
noncomputable def F_X8_readWall_87 (Md : Ob) (x2 : Int32) (y0 : Int32) (y1 : Int32) : Option (Int32 × Ob) :=
  zs_let (zs_up Md 0 6 (y1 + y0)) (fun Mdw1 => (if x2 < 0 then some ((0 : Int32), Mdw1) else some ((1 : Int32), Mdw1)))
noncomputable def F_X8_readWall_23 (Md : Ob) (x1 : Int32) (y0 : Int32) : Option (Int32 × Ob) :=
  zs_ck (Md 0 6) 24 (zs_let (zs_up Md 2 ((Md 0 6)).toNatClampNeg x1) (fun Mdw9 => zs_ck ((6 : Int32) + (Mdw9 0 6)) 24 (zs_let (zs_up Mdw9 2 (((6 : Int32) + (Mdw9 0 6))).toNatClampNeg y0) (fun Mdw12 => zs_ck ((12 : Int32) + (Mdw12 0 6)) 24 (zs_let (zs_up Mdw12 2 (((12 : Int32) + (Mdw12 0 6))).toNatClampNeg (0 : Int32)) (fun Mdw15 => zs_ck ((18 : Int32) + (Mdw15 0 6)) 24 (zs_let (zs_up Mdw15 2 (((18 : Int32) + (Mdw15 0 6))).toNatClampNeg (0 : Int32)) (fun Mdw18 => (if 0 ≤ y0 then (F_X8_readWall_87 Mdw18 y0 (1 : Int32) (Mdw18 0 6)) else (F_X8_readWall_87 Mdw18 y0 (0 : Int32) (Mdw18 0 6)))))))))))
noncomputable def F_X8_readWall (Md : Ob) : Option (Int32 × Ob) :=
  zs_b2 (F_X8_number Md (0 : Int32) (99 : Int32)) (fun r21 Mdw22 => (if 0 ≤ r21 then zs_b2 (F_X8_number Mdw22 (0 : Int32) (9 : Int32)) (fun r25 Mdw26 => (F_X8_readWall_23 Mdw26 r21 r25)) else (F_X8_readWall_23 Mdw22 r21 (-1 : Int32))))
noncomputable def F_X8_readSees_120 (Md : Ob) (x1 : Int32) (x2 : Int32) (x4 : Int32) (y0 : Int32) (y1 : Int32) (y2 : Int32) : Option (Int32 × Ob) :=
  zs_ck y2 36 (zs_let (zs_up Md 3 (y2).toNatClampNeg (y1 + y0)) (fun Mdw2 => zs_ck (((6 : Int32) * x1) + x2) 36 (zs_ck (((6 : Int32) * x2) + x1) 36 (zs_let (zs_up Mdw2 3 ((((6 : Int32) * x2) + x1)).toNatClampNeg (Mdw2 3 ((((6 : Int32) * x1) + x2)).toNatClampNeg)) (fun Mdw6 => (if x4 < 0 then some ((0 : Int32), Mdw6) else some ((1 : Int32), Mdw6)))))))
noncomputable def F_X8_readSees_85 (Md : Ob) (x1 : Int32) (x2 : Int32) (y0 : Int32) : Option (Int32 × Ob) :=
  zs_b2 (F_X8_number Md (1 : Int32) ((10 : Int32) - y0)) (fun r13 Mdw14 => zs_ck (((6 : Int32) * x1) + x2) 36 ((if 0 ≤ r13 then (F_X8_readSees_120 Mdw14 x1 x2 r13 r13 (Mdw14 3 ((((6 : Int32) * x1) + x2)).toNatClampNeg) (((6 : Int32) * x1) + x2)) else (F_X8_readSees_120 Mdw14 x1 x2 r13 (0 : Int32) (Mdw14 3 ((((6 : Int32) * x1) + x2)).toNatClampNeg) (((6 : Int32) * x1) + x2)))))
noncomputable def F_X8_readSees_31 (Md : Ob) (x1 : Int32) (y0 : Int32) : Option (Int32 × Ob) :=
  (if y0 < 0 then some ((0 : Int32), Md) else (if y0 = x1 then some ((0 : Int32), Md) else zs_bd (F_X8_seen_readParts Md x1) (fun r22 => zs_bd (F_X8_seen_readParts Md y0) (fun r24 => (if r22 ≤ r24 then zs_bd (F_X8_seen_readParts Md y0) (fun r27 => (F_X8_readSees_85 Md x1 y0 r27)) else zs_bd (F_X8_seen_readParts Md x1) (fun r29 => (F_X8_readSees_85 Md x1 y0 r29)))))))
noncomputable def F_X8_readSees (Md : Ob) : Option (Int32 × Ob) :=
  zs_b2 (F_X8_number Md (0 : Int32) ((Md 0 6) - (1 : Int32))) (fun r33 Mdw34 => (if 0 ≤ r33 then zs_b2 (F_X8_number Mdw34 (0 : Int32) ((Mdw34 0 6) - (1 : Int32))) (fun r37 Mdw38 => (F_X8_readSees_31 Mdw38 r33 r37)) else (F_X8_readSees_31 Mdw34 r33 (-1 : Int32))))
noncomputable def F_X8_readWork_92 (Md : Ob) (x4 : Int32) : Option (Int32 × Ob) :=
  (if x4 < 0 then some ((0 : Int32), Md) else some ((1 : Int32), Md))
noncomputable def F_X8_readWork_59 (Md : Ob) (x1 : Int32) (x2 : Int32) (x3 : Int32) (y0 : Int32) : Option (Int32 × Ob) :=
  (if y0 < 0 then (F_X8_readWork_92 Md y0) else zs_ck ((12 : Int32) + x1) 24 (zs_let (zs_up Md 2 (((12 : Int32) + x1)).toNatClampNeg x2) (fun Mdw8 => zs_ck ((18 : Int32) + x1) 24 (zs_let (zs_up Mdw8 2 (((18 : Int32) + x1)).toNatClampNeg (x3 + ((16 : Int32) * y0))) (fun Mdw11 => (F_X8_readWork_92 Mdw11 y0))))))
noncomputable def F_X8_readWork_43 (Md : Ob) (x1 : Int32) (x2 : Int32) (y0 : Int32) : Option (Int32 × Ob) :=
  (if 0 ≤ y0 then zs_b2 (F_X8_number Md (0 : Int32) (15 : Int32)) (fun r14 Mdw15 => (F_X8_readWork_59 Mdw15 x1 x2 y0 r14)) else (F_X8_readWork_59 Md x1 x2 y0 (-1 : Int32)))
noncomputable def F_X8_readWork_27 (Md : Ob) (x1 : Int32) (y0 : Int32) : Option (Int32 × Ob) :=
  (if 0 ≤ y0 then zs_b2 (F_X8_number Md (0 : Int32) (15 : Int32)) (fun r18 Mdw19 => (F_X8_readWork_43 Mdw19 x1 y0 r18)) else (F_X8_readWork_43 Md x1 y0 (-1 : Int32)))
noncomputable def F_X8_readWork (Md : Ob) : Option (Int32 × Ob) :=
  zs_b2 (F_X8_number Md (0 : Int32) ((Md 0 6) - (1 : Int32))) (fun r21 Mdw22 => (if 0 ≤ r21 then zs_b2 (F_X8_number Mdw22 (0 : Int32) (20 : Int32)) (fun r25 Mdw26 => (F_X8_readWork_27 Mdw26 r21 r25)) else (F_X8_readWork_27 Mdw22 r21 (-1 : Int32))))
noncomputable def F_X8_readItem_110 (Md : Ob) (x2 : Int32) : Option (Int32 × Ob) :=
  (if x2 = 0 then some ((0 : Int32), Md) else zs_bd (F_X8_reads Md) (fun Mdw2 => (if (Mdw2 0 4) = (3 : Int32) then some ((1 : Int32), Mdw2) else some ((0 : Int32), Mdw2))))
noncomputable def F_X8_readItem_109 (Md : Ob) (y0 : Int32) : Option (Int32 × Ob) :=
  (F_X8_readItem_110 Md y0)
noncomputable def F_X8_readItem_80 (Md : Ob) (x1 : Int32) (y0 : Int32) : Option (Int32 × Ob) :=
  (if x1 = (3 : Int32) then zs_b2 (F_X8_number Md (0 : Int32) (99 : Int32)) (fun r12 Mdw13 => zs_let (zs_up Mdw13 0 7 r12) (fun Mdw15 => (if (Mdw15 0 7) < 0 then (F_X8_readItem_109 Mdw15 (0 : Int32)) else (F_X8_readItem_109 Mdw15 (1 : Int32))))) else (F_X8_readItem_110 Md y0))
noncomputable def F_X8_readItem_79 (Md : Ob) (x1 : Int32) : Option (Int32 × Ob) :=
  (F_X8_readItem_80 Md x1 (0 : Int32))
noncomputable def F_X8_readItem_40 (Md : Ob) (x1 : Int32) : Option (Int32 × Ob) :=
  (if x1 = 0 then zs_b2 (F_X8_readWall Md) (fun r28 Mdw29 => (F_X8_readItem_80 Mdw29 x1 r28)) else (if x1 = (1 : Int32) then zs_b2 (F_X8_readSees Md) (fun r25 Mdw26 => (F_X8_readItem_80 Mdw26 x1 r25)) else (if x1 = (2 : Int32) then zs_b2 (F_X8_readWork Md) (fun r21 Mdw22 => (if r21 = 0 then (F_X8_readItem_79 Mdw22 x1) else (F_X8_readItem_80 Mdw22 x1 (1 : Int32)))) else (F_X8_readItem_79 Md x1))))
noncomputable def F_X8_readItem_26 (Md : Ob) (x1 : Int32) : Option (Int32 × Ob) :=
  (if x1 = (3 : Int32) then (if (Md 0 7) < 0 then (F_X8_readItem_40 Md x1) else some ((0 : Int32), Md)) else (F_X8_readItem_40 Md x1))
noncomputable def F_X8_readItem (Md : Ob) : Option (Int32 × Ob) :=
  zs_let ((Md 0 5)) (fun z35 => (if (Md 0 4) = (1 : Int32) then (if z35 = 0 then (if (Md 0 6) = (6 : Int32) then some ((0 : Int32), Md) else (F_X8_readItem_26 Md z35)) else (F_X8_readItem_26 Md z35)) else some ((0 : Int32), Md)))
noncomputable def F_X8_takes_145 (Md : Ob) : Option (Ob) :=
  zs_let (zs_up Md 0 18 (0 : Int32)) (fun Mdw1 => zs_let (zs_up Mdw1 0 19 (0 : Int32)) (fun Mdw3 => zs_let (zs_up Mdw3 0 20 (0 : Int32)) (fun Mdw5 => zs_let (zs_up Mdw5 0 21 (0 : Int32)) (fun Mdw7 => zs_let (zs_up Mdw7 0 24 (0 : Int32)) (fun Mdw9 => zs_let (zs_up Mdw9 0 27 (0 : Int32)) (fun Mdw11 => zs_ck (0 : Int32) 42 (zs_let (zs_up Mdw11 17 ((0 : Int32)).toNatClampNeg (-1 : Int32)) (fun Mdw14 => zs_ck (21 : Int32) 42 (zs_let (zs_up Mdw14 17 ((21 : Int32)).toNatClampNeg (-1 : Int32)) (fun Mdw17 => some Mdw17))))))))))
noncomputable def F_X8_takes_121_s (rec : Ob → Int32 → Option (Ob)) (Md : Ob) (x1 : Int32) : Option (Ob) :=
  (if (36 : Int32) ≤ x1 then (F_X8_takes_145 Md) else zs_ck x1 36 (zs_ck x1 36 (zs_let (zs_up Md 8 (x1).toNatClampNeg (Md 3 (x1).toNatClampNeg)) (fun Mdw23 => zs_let (x1 + (1 : Int32)) (fun z25 => (rec Mdw23 z25))))))
noncomputable def F_X8_takes_121 (n : Nat) : Ob → Int32 → Option (Ob) := zs_fix (fun _ _ => none) (F_X8_takes_121_s) n
theorem F_X8_takes_121_z (Md : Ob) (x1 : Int32) : F_X8_takes_121 0 Md x1 = none := rfl
theorem F_X8_takes_121_n (n : Nat) (Md : Ob) (x1 : Int32) : F_X8_takes_121 (n + 1) Md x1 = F_X8_takes_121_s (F_X8_takes_121 n) Md x1 := rfl
noncomputable def F_X8_takes_119 (Md : Ob) : Option (Ob) :=
  (F_X8_takes_121 1000 Md (0 : Int32))
noncomputable def F_X8_takes_36_s (rec : Ob → Int32 → Option (Ob)) (Md : Ob) (x1 : Int32) : Option (Ob) :=
  (if (Md 0 10) ≤ x1 then (F_X8_takes_119 Md) else zs_ck x1 24 (zs_ck x1 6 (zs_let (zs_up Md 4 (x1).toNatClampNeg (Md 2 (x1).toNatClampNeg)) (fun Mdw30 => zs_ck ((6 : Int32) + x1) 24 (zs_ck x1 6 (zs_let (zs_up Mdw30 5 (x1).toNatClampNeg (Mdw30 2 (((6 : Int32) + x1)).toNatClampNeg)) (fun Mdw34 => zs_ck ((12 : Int32) + x1) 24 (zs_ck x1 6 (zs_let (zs_up Mdw34 6 (x1).toNatClampNeg (Mdw34 2 (((12 : Int32) + x1)).toNatClampNeg)) (fun Mdw38 => zs_ck ((18 : Int32) + x1) 24 (zs_ck x1 6 (zs_let (zs_up Mdw38 7 (x1).toNatClampNeg (Mdw38 2 (((18 : Int32) + x1)).toNatClampNeg)) (fun Mdw42 => zs_ck x1 6 (zs_ck x1 6 (zs_let (zs_up Mdw42 9 (x1).toNatClampNeg (Mdw42 4 (x1).toNatClampNeg)) (fun Mdw46 => zs_let (x1 + (1 : Int32)) (fun z48 => (rec Mdw46 z48))))))))))))))))))
noncomputable def F_X8_takes_36 (n : Nat) : Ob → Int32 → Option (Ob) := zs_fix (fun _ _ => none) (F_X8_takes_36_s) n
theorem F_X8_takes_36_z (Md : Ob) (x1 : Int32) : F_X8_takes_36 0 Md x1 = none := rfl
theorem F_X8_takes_36_n (n : Nat) (Md : Ob) (x1 : Int32) : F_X8_takes_36 (n + 1) Md x1 = F_X8_takes_36_s (F_X8_takes_36 n) Md x1 := rfl
noncomputable def F_X8_takes_31 (Md : Ob) (y0 : Int32) : Option (Ob) :=
  zs_let (zs_up Md 0 11 y0) (fun Mdw50 => (F_X8_takes_36 1000 Mdw50 (0 : Int32)))
noncomputable def F_X8_takes (Md : Ob) : Option (Ob) :=
  zs_let (zs_up Md 0 10 (Md 0 6)) (fun Mdw52 => (if 0 ≤ (Mdw52 0 7) then (F_X8_takes_31 Mdw52 (((10 : Int32) * (Mdw52 0 7)) + (9 : Int32))) else (F_X8_takes_31 Mdw52 (99 : Int32))))
noncomputable def F_X8_walls_74 (Md : Ob) (x1 : Int32) : Option (Int32 × Ob) :=
  zs_bd (F_X8_takes Md) (fun Mdw1 => zs_let (zs_up Mdw1 0 1 (0 : Int32)) (fun Mdw3 => some (x1, Mdw3)))
noncomputable def F_X8_walls_56 (Md : Ob) : Option (Int32 × Ob) :=
  some (((-10 : Int32) - (Md 0 3)), Md)
noncomputable def F_X8_walls_42_s (rec : Ob → Int32 → Option (Int32 × Ob)) (Md : Ob) (x1 : Int32) : Option (Int32 × Ob) :=
  (if (Md 0 4) = 0 then (F_X8_walls_74 Md x1) else zs_b2 (F_X8_readItem Md) (fun r10 Mdw11 => (if r10 = 0 then (F_X8_walls_56 Mdw11) else zs_let (x1 + (1 : Int32)) (fun z14 => zs_bd (F_X8_reads Mdw11) (fun Mdw16 => (rec Mdw16 z14))))))
noncomputable def F_X8_walls_42 (n : Nat) : Ob → Int32 → Option (Int32 × Ob) := zs_fix (fun _ _ => none) (F_X8_walls_42_s) n
theorem F_X8_walls_42_z (Md : Ob) (x1 : Int32) : F_X8_walls_42 0 Md x1 = none := rfl
theorem F_X8_walls_42_n (n : Nat) (Md : Ob) (x1 : Int32) : F_X8_walls_42 (n + 1) Md x1 = F_X8_walls_42_s (F_X8_walls_42 n) Md x1 := rfl
noncomputable def F_X8_walls_36 (Md : Ob) : Option (Int32 × Ob) :=
  zs_bd (F_X8_reads Md) (fun Mdw18 => (F_X8_walls_42 1000 Mdw18 (0 : Int32)))
noncomputable def F_X8_walls_17_s (rec : Ob → Int32 → Option (Int32 × Ob)) (Md : Ob) (x1 : Int32) : Option (Int32 × Ob) :=
  (if (36 : Int32) ≤ x1 then (F_X8_walls_36 Md) else zs_ck x1 36 (zs_let (zs_up Md 3 (x1).toNatClampNeg (0 : Int32)) (fun Mdw22 => zs_let (x1 + (1 : Int32)) (fun z24 => (rec Mdw22 z24)))))
noncomputable def F_X8_walls_17 (n : Nat) : Ob → Int32 → Option (Int32 × Ob) := zs_fix (fun _ _ => none) (F_X8_walls_17_s) n
theorem F_X8_walls_17_z (Md : Ob) (x1 : Int32) : F_X8_walls_17 0 Md x1 = none := rfl
theorem F_X8_walls_17_n (n : Nat) (Md : Ob) (x1 : Int32) : F_X8_walls_17 (n + 1) Md x1 = F_X8_walls_17_s (F_X8_walls_17 n) Md x1 := rfl
noncomputable def F_X8_walls (Md : Ob) : Option (Int32 × Ob) :=
  zs_let (zs_up Md 0 2 (0 : Int32)) (fun Mdw26 => zs_let (zs_up Mdw26 0 6 (0 : Int32)) (fun Mdw28 => zs_let (zs_up Mdw28 0 7 (-1 : Int32)) (fun Mdw30 => (F_X8_walls_17 1000 Mdw30 (0 : Int32)))))
noncomputable def F_X8_wall (Md : Ob) (u1 : Int32) (u2 : Int32) : Option (Int32) :=
  zs_bd (F_X8_isWall Md u1) (fun r1 => (if r1 = 0 then some (-1 : Int32) else (if u2 = (0 : Int32) then zs_ck u1 6 (some (Md 9 (u1).toNatClampNeg)) else (if u2 = (1 : Int32) then zs_ck u1 6 (some (Md 5 (u1).toNatClampNeg)) else (if u2 = (2 : Int32) then zs_ck u1 6 (some (Md 6 (u1).toNatClampNeg)) else (if u2 = (3 : Int32) then zs_ck u1 6 (some (Md 7 (u1).toNatClampNeg)) else (if u2 = (4 : Int32) then zs_bd (F_X8_seen_parts Md u1) (fun r17 => some ((10 : Int32) - r17)) else (if u2 = (5 : Int32) then some (((Md 0 19) >>> (u1 &&& 31)) &&& (1 : Int32)) else (if u2 = (6 : Int32) then some (((Md 0 20) >>> (u1 &&& 31)) &&& (1 : Int32)) else some (-1 : Int32))))))))))
noncomputable def F_X8_sees (Md : Ob) (u1 : Int32) (u2 : Int32) : Option (Int32) :=
  zs_bd (F_X8_isWall Md u1) (fun r1 => (if r1 = 0 then some (-1 : Int32) else zs_bd (F_X8_isWall Md u2) (fun r5 => (if r5 = 0 then some (-1 : Int32) else (if u1 = u2 then some (-1 : Int32) else zs_ck (((6 : Int32) * u1) + u2) 36 (some (Md 8 ((((6 : Int32) * u1) + u2)).toNatClampNeg)))))))
noncomputable def F_X8_goes_warm_262_s (rec : Ob → Int32 → Int32 → Option (Int32 × Ob)) (Md : Ob) (x5 : Int32) (x6 : Int32) : Option (Int32 × Ob) :=
  (if (Md 0 10) ≤ x6 then some (x5, Md) else zs_ck x6 6 (zs_ck x6 6 (zs_let (zs_up Md 9 (x6).toNatClampNeg (Md 10 (x6).toNatClampNeg)) (fun Mdw6 => zs_let (x6 + (1 : Int32)) (fun z8 => (rec Mdw6 x5 z8))))))
noncomputable def F_X8_goes_warm_262 (n : Nat) : Ob → Int32 → Int32 → Option (Int32 × Ob) := zs_fix (fun _ _ _ => none) (F_X8_goes_warm_262_s) n
theorem F_X8_goes_warm_262_z (Md : Ob) (x5 : Int32) (x6 : Int32) : F_X8_goes_warm_262 0 Md x5 x6 = none := rfl
theorem F_X8_goes_warm_262_n (n : Nat) (Md : Ob) (x5 : Int32) (x6 : Int32) : F_X8_goes_warm_262 (n + 1) Md x5 x6 = F_X8_goes_warm_262_s (F_X8_goes_warm_262 n) Md x5 x6 := rfl
noncomputable def F_X8_goes_warm_259 (Md : Ob) (x5 : Int32) : Option (Int32 × Ob) :=
  (F_X8_goes_warm_262 1000 Md x5 (0 : Int32))
noncomputable def F_X8_goes_warm_234 (r65 : Ob → Int32 → Int32 → Int32 → Int32 → Option (Int32 × Ob)) (Md : Ob) (x3 : Int32) (x4 : Int32) (x5 : Int32) (x6 : Int32) (x7 : Int32) (x8 : Int32) : Option (Int32 × Ob) :=
  zs_ck x6 6 (zs_ck x6 6 (zs_let (zs_up Md 10 (x6).toNatClampNeg ((Md 10 (x6).toNatClampNeg) - x7)) (fun Mdw12 => zs_let ((x5 + x8)) (fun z14 => zs_let (x6 + (1 : Int32)) (fun z16 => (r65 Mdw12 x3 x4 z14 z16))))))
noncomputable def F_X8_goes_warm_225 (r65 : Ob → Int32 → Int32 → Int32 → Int32 → Option (Int32 × Ob)) (r112 : Ob → Int32 → Int32 → Int32 → Int32 → Int32 → Int32 → Int32 → Option (Int32 × Ob)) (Md : Ob) (x3 : Int32) (x4 : Int32) (x5 : Int32) (x6 : Int32) (x7 : Int32) (x9 : Int32) (y0 : Int32) (y1 : Int32) : Option (Int32 × Ob) :=
  zs_let ((y1 - y0)) (fun z18 => zs_let (x9 + (1 : Int32)) (fun z20 => (r112 Md x3 x4 x5 x6 x7 z18 z20)))
noncomputable def F_X8_goes_warm_210 (r65 : Ob → Int32 → Int32 → Int32 → Int32 → Option (Int32 × Ob)) (r112 : Ob → Int32 → Int32 → Int32 → Int32 → Int32 → Int32 → Int32 → Option (Int32 × Ob)) (Md : Ob) (x3 : Int32) (x4 : Int32) (x5 : Int32) (x6 : Int32) (x7 : Int32) (x8 : Int32) (x9 : Int32) (x10 : Int32) (x12 : Int32) (y0 : Int32) (y1 : Int32) (y2 : Int32) : Option (Int32 × Ob) :=
  zs_ck y2 6 (zs_let (zs_up Md 10 (y2).toNatClampNeg (y1 + y0)) (fun Mdw23 => (if x12 = 0 then (F_X8_goes_warm_225 r65 r112 Mdw23 x3 x4 x5 x6 x7 x9 (0 : Int32) x8) else (F_X8_goes_warm_225 r65 r112 Mdw23 x3 x4 x5 x6 x7 x9 x10 x8))))
noncomputable def F_X8_goes_warm_197 (r65 : Ob → Int32 → Int32 → Int32 → Int32 → Option (Int32 × Ob)) (r112 : Ob → Int32 → Int32 → Int32 → Int32 → Int32 → Int32 → Int32 → Option (Int32 × Ob)) (Md : Ob) (x3 : Int32) (x4 : Int32) (x5 : Int32) (x6 : Int32) (x7 : Int32) (x8 : Int32) (x9 : Int32) (x10 : Int32) (x12 : Int32) (y0 : Int32) : Option (Int32 × Ob) :=
  zs_ck y0 6 ((if x12 = 0 then (F_X8_goes_warm_210 r65 r112 Md x3 x4 x5 x6 x7 x8 x9 x10 x12 (0 : Int32) (Md 10 (y0).toNatClampNeg) y0) else (F_X8_goes_warm_210 r65 r112 Md x3 x4 x5 x6 x7 x8 x9 x10 x12 x10 (Md 10 (y0).toNatClampNeg) y0)))
noncomputable def F_X8_goes_warm_179 (r65 : Ob → Int32 → Int32 → Int32 → Int32 → Option (Int32 × Ob)) (r112 : Ob → Int32 → Int32 → Int32 → Int32 → Int32 → Int32 → Int32 → Option (Int32 × Ob)) (Md : Ob) (x3 : Int32) (x4 : Int32) (x5 : Int32) (x6 : Int32) (x7 : Int32) (x8 : Int32) (x9 : Int32) (x10 : Int32) (x11 : Int32) (y0 : Int32) : Option (Int32 × Ob) :=
  (if x11 = 0 then (F_X8_goes_warm_197 r65 r112 Md x3 x4 x5 x6 x7 x8 x9 x10 y0 x9) else (F_X8_goes_warm_197 r65 r112 Md x3 x4 x5 x6 x7 x8 x9 x10 y0 x6))
noncomputable def F_X8_goes_warm_174 (r65 : Ob → Int32 → Int32 → Int32 → Int32 → Option (Int32 × Ob)) (r112 : Ob → Int32 → Int32 → Int32 → Int32 → Int32 → Int32 → Int32 → Option (Int32 × Ob)) (Md : Ob) (x3 : Int32) (x4 : Int32) (x5 : Int32) (x6 : Int32) (x7 : Int32) (x8 : Int32) (x9 : Int32) (x10 : Int32) (x11 : Int32) : Option (Int32 × Ob) :=
  (F_X8_goes_warm_179 r65 r112 Md x3 x4 x5 x6 x7 x8 x9 x10 x11 (1 : Int32))
noncomputable def F_X8_goes_warm_158 (r65 : Ob → Int32 → Int32 → Int32 → Int32 → Option (Int32 × Ob)) (r112 : Ob → Int32 → Int32 → Int32 → Int32 → Int32 → Int32 → Int32 → Option (Int32 × Ob)) (Md : Ob) (x3 : Int32) (x4 : Int32) (x5 : Int32) (x6 : Int32) (x7 : Int32) (x8 : Int32) (x9 : Int32) (x10 : Int32) (y0 : Int32) : Option (Int32 × Ob) :=
  (if y0 = 0 then (if ((x3 >>> (x9 &&& 31)) &&& (1 : Int32)) = 0 then (F_X8_goes_warm_174 r65 r112 Md x3 x4 x5 x6 x7 x8 x9 x10 y0) else (F_X8_goes_warm_179 r65 r112 Md x3 x4 x5 x6 x7 x8 x9 x10 y0 (0 : Int32))) else (F_X8_goes_warm_174 r65 r112 Md x3 x4 x5 x6 x7 x8 x9 x10 y0))
noncomputable def F_X8_goes_warm_112_s (r65 : Ob → Int32 → Int32 → Int32 → Int32 → Option (Int32 × Ob)) (rec : Ob → Int32 → Int32 → Int32 → Int32 → Int32 → Int32 → Int32 → Option (Int32 × Ob)) (Md : Ob) (x3 : Int32) (x4 : Int32) (x5 : Int32) (x6 : Int32) (x7 : Int32) (x8 : Int32) (x9 : Int32) : Option (Int32 × Ob) :=
  (if (Md 0 10) ≤ x9 then (F_X8_goes_warm_234 r65 Md x3 x4 x5 x6 x7 x8) else zs_ck (((6 : Int32) * x6) + x9) 36 (zs_let (((x7 * (Md 8 ((((6 : Int32) * x6) + x9)).toNatClampNeg)) / (10 : Int32))) (fun z33 => (if ((x4 >>> (x9 &&& 31)) &&& (1 : Int32)) = (1 : Int32) then (F_X8_goes_warm_158 r65 rec Md x3 x4 x5 x6 x7 x8 x9 z33 (1 : Int32)) else (F_X8_goes_warm_158 r65 rec Md x3 x4 x5 x6 x7 x8 x9 z33 (0 : Int32))))))
noncomputable def F_X8_goes_warm_112 (r65 : Ob → Int32 → Int32 → Int32 → Int32 → Option (Int32 × Ob)) (n : Nat) : Ob → Int32 → Int32 → Int32 → Int32 → Int32 → Int32 → Int32 → Option (Int32 × Ob) := zs_fix (fun _ _ _ _ _ _ _ _ => none) (F_X8_goes_warm_112_s r65) n
theorem F_X8_goes_warm_112_z (r65 : Ob → Int32 → Int32 → Int32 → Int32 → Option (Int32 × Ob)) (Md : Ob) (x3 : Int32) (x4 : Int32) (x5 : Int32) (x6 : Int32) (x7 : Int32) (x8 : Int32) (x9 : Int32) : F_X8_goes_warm_112 r65 0 Md x3 x4 x5 x6 x7 x8 x9 = none := rfl
theorem F_X8_goes_warm_112_n (r65 : Ob → Int32 → Int32 → Int32 → Int32 → Option (Int32 × Ob)) (n : Nat) (Md : Ob) (x3 : Int32) (x4 : Int32) (x5 : Int32) (x6 : Int32) (x7 : Int32) (x8 : Int32) (x9 : Int32) : F_X8_goes_warm_112 r65 (n + 1) Md x3 x4 x5 x6 x7 x8 x9 = F_X8_goes_warm_112_s r65 (F_X8_goes_warm_112 r65 n) Md x3 x4 x5 x6 x7 x8 x9 := rfl
noncomputable def F_X8_goes_warm_103 (r65 : Ob → Int32 → Int32 → Int32 → Int32 → Option (Int32 × Ob)) (Md : Ob) (x3 : Int32) (x4 : Int32) (x5 : Int32) (x6 : Int32) (y0 : Int32) : Option (Int32 × Ob) :=
  (F_X8_goes_warm_112 r65 1000 Md x3 x4 x5 x6 y0 y0 (0 : Int32))
noncomputable def F_X8_goes_warm_65_s (rec : Ob → Int32 → Int32 → Int32 → Int32 → Option (Int32 × Ob)) (Md : Ob) (x3 : Int32) (x4 : Int32) (x5 : Int32) (x6 : Int32) : Option (Int32 × Ob) :=
  (if (Md 0 10) ≤ x6 then (F_X8_goes_warm_259 Md x5) else (if ((x3 >>> (x6 &&& 31)) &&& (1 : Int32)) = (1 : Int32) then (F_X8_goes_warm_103 rec Md x3 x4 x5 x6 (0 : Int32)) else zs_ck x6 6 (zs_ck x6 6 ((F_X8_goes_warm_103 rec Md x3 x4 x5 x6 (((Md 9 (x6).toNatClampNeg) * (Md 5 (x6).toNatClampNeg)) / (10 : Int32)))))))
noncomputable def F_X8_goes_warm_65 (n : Nat) : Ob → Int32 → Int32 → Int32 → Int32 → Option (Int32 × Ob) := zs_fix (fun _ _ _ _ _ => none) (F_X8_goes_warm_65_s) n
theorem F_X8_goes_warm_65_z (Md : Ob) (x3 : Int32) (x4 : Int32) (x5 : Int32) (x6 : Int32) : F_X8_goes_warm_65 0 Md x3 x4 x5 x6 = none := rfl
theorem F_X8_goes_warm_65_n (n : Nat) (Md : Ob) (x3 : Int32) (x4 : Int32) (x5 : Int32) (x6 : Int32) : F_X8_goes_warm_65 (n + 1) Md x3 x4 x5 x6 = F_X8_goes_warm_65_s (F_X8_goes_warm_65 n) Md x3 x4 x5 x6 := rfl
noncomputable def F_X8_goes_warm_62 (Md : Ob) (x3 : Int32) (x4 : Int32) (x5 : Int32) : Option (Int32 × Ob) :=
  (F_X8_goes_warm_65 1000 Md x3 x4 x5 (0 : Int32))
noncomputable def F_X8_goes_warm_54 (r6 : Ob → Int32 → Int32 → Int32 → Int32 → Int32 → Option (Int32 × Ob)) (Md : Ob) (x2 : Int32) (x3 : Int32) (x4 : Int32) (x5 : Int32) (x6 : Int32) (y0 : Int32) (y1 : Int32) (y2 : Int32) : Option (Int32 × Ob) :=
  zs_ck y2 6 (zs_let (zs_up Md 10 (y2).toNatClampNeg (y1 + y0)) (fun Mdw41 => zs_let (x6 + (1 : Int32)) (fun z43 => (r6 Mdw41 x2 x3 x4 x5 z43))))
noncomputable def F_X8_goes_warm_6_s (rec : Ob → Int32 → Int32 → Int32 → Int32 → Int32 → Option (Int32 × Ob)) (Md : Ob) (x2 : Int32) (x3 : Int32) (x4 : Int32) (x5 : Int32) (x6 : Int32) : Option (Int32 × Ob) :=
  (if (Md 0 10) ≤ x6 then (F_X8_goes_warm_62 Md x3 x4 x5) else zs_ck x6 6 (zs_ck x6 6 ((if (((Md 7 (x6).toNatClampNeg) >>> ((x2 - x2 / (8 : Int32) * (8 : Int32)) &&& 31)) &&& (1 : Int32)) = (1 : Int32) then zs_ck x6 6 ((F_X8_goes_warm_54 rec Md x2 x3 x4 x5 x6 (Md 6 (x6).toNatClampNeg) (Md 9 (x6).toNatClampNeg) x6)) else (F_X8_goes_warm_54 rec Md x2 x3 x4 x5 x6 (0 : Int32) (Md 9 (x6).toNatClampNeg) x6)))))
noncomputable def F_X8_goes_warm_6 (n : Nat) : Ob → Int32 → Int32 → Int32 → Int32 → Int32 → Option (Int32 × Ob) := zs_fix (fun _ _ _ _ _ _ => none) (F_X8_goes_warm_6_s) n
theorem F_X8_goes_warm_6_z (Md : Ob) (x2 : Int32) (x3 : Int32) (x4 : Int32) (x5 : Int32) (x6 : Int32) : F_X8_goes_warm_6 0 Md x2 x3 x4 x5 x6 = none := rfl
theorem F_X8_goes_warm_6_n (n : Nat) (Md : Ob) (x2 : Int32) (x3 : Int32) (x4 : Int32) (x5 : Int32) (x6 : Int32) : F_X8_goes_warm_6 (n + 1) Md x2 x3 x4 x5 x6 = F_X8_goes_warm_6_s (F_X8_goes_warm_6 n) Md x2 x3 x4 x5 x6 := rfl
noncomputable def F_X8_goes_warm (Md : Ob) (u2 : Int32) (u3 : Int32) (u4 : Int32) : Option (Int32 × Ob) :=
  (F_X8_goes_warm_6 1000 Md u2 u3 u4 (0 : Int32) (0 : Int32))
noncomputable def F_X8_goes_row_262_s (rec : Ob → Int32 → Int32 → Option (Int32 × Ob)) (Md : Ob) (x5 : Int32) (x6 : Int32) : Option (Int32 × Ob) :=
  (if (Md 0 10) ≤ x6 then some (x5, Md) else zs_ck x6 6 (zs_ck x6 6 (zs_let (zs_up Md 12 (x6).toNatClampNeg (Md 10 (x6).toNatClampNeg)) (fun Mdw6 => zs_let (x6 + (1 : Int32)) (fun z8 => (rec Mdw6 x5 z8))))))
noncomputable def F_X8_goes_row_262 (n : Nat) : Ob → Int32 → Int32 → Option (Int32 × Ob) := zs_fix (fun _ _ _ => none) (F_X8_goes_row_262_s) n
theorem F_X8_goes_row_262_z (Md : Ob) (x5 : Int32) (x6 : Int32) : F_X8_goes_row_262 0 Md x5 x6 = none := rfl
theorem F_X8_goes_row_262_n (n : Nat) (Md : Ob) (x5 : Int32) (x6 : Int32) : F_X8_goes_row_262 (n + 1) Md x5 x6 = F_X8_goes_row_262_s (F_X8_goes_row_262 n) Md x5 x6 := rfl
noncomputable def F_X8_goes_row_259 (Md : Ob) (x5 : Int32) : Option (Int32 × Ob) :=
  (F_X8_goes_row_262 1000 Md x5 (0 : Int32))
noncomputable def F_X8_goes_row_234 (r65 : Ob → Int32 → Int32 → Int32 → Int32 → Option (Int32 × Ob)) (Md : Ob) (x3 : Int32) (x4 : Int32) (x5 : Int32) (x6 : Int32) (x7 : Int32) (x8 : Int32) : Option (Int32 × Ob) :=
  zs_ck x6 6 (zs_ck x6 6 (zs_let (zs_up Md 10 (x6).toNatClampNeg ((Md 10 (x6).toNatClampNeg) - x7)) (fun Mdw12 => zs_let ((x5 + x8)) (fun z14 => zs_let (x6 + (1 : Int32)) (fun z16 => (r65 Mdw12 x3 x4 z14 z16))))))
noncomputable def F_X8_goes_row_225 (r65 : Ob → Int32 → Int32 → Int32 → Int32 → Option (Int32 × Ob)) (r112 : Ob → Int32 → Int32 → Int32 → Int32 → Int32 → Int32 → Int32 → Option (Int32 × Ob)) (Md : Ob) (x3 : Int32) (x4 : Int32) (x5 : Int32) (x6 : Int32) (x7 : Int32) (x9 : Int32) (y0 : Int32) (y1 : Int32) : Option (Int32 × Ob) :=
  zs_let ((y1 - y0)) (fun z18 => zs_let (x9 + (1 : Int32)) (fun z20 => (r112 Md x3 x4 x5 x6 x7 z18 z20)))
noncomputable def F_X8_goes_row_210 (r65 : Ob → Int32 → Int32 → Int32 → Int32 → Option (Int32 × Ob)) (r112 : Ob → Int32 → Int32 → Int32 → Int32 → Int32 → Int32 → Int32 → Option (Int32 × Ob)) (Md : Ob) (x3 : Int32) (x4 : Int32) (x5 : Int32) (x6 : Int32) (x7 : Int32) (x8 : Int32) (x9 : Int32) (x10 : Int32) (x12 : Int32) (y0 : Int32) (y1 : Int32) (y2 : Int32) : Option (Int32 × Ob) :=
  zs_ck y2 6 (zs_let (zs_up Md 10 (y2).toNatClampNeg (y1 + y0)) (fun Mdw23 => (if x12 = 0 then (F_X8_goes_row_225 r65 r112 Mdw23 x3 x4 x5 x6 x7 x9 (0 : Int32) x8) else (F_X8_goes_row_225 r65 r112 Mdw23 x3 x4 x5 x6 x7 x9 x10 x8))))
noncomputable def F_X8_goes_row_197 (r65 : Ob → Int32 → Int32 → Int32 → Int32 → Option (Int32 × Ob)) (r112 : Ob → Int32 → Int32 → Int32 → Int32 → Int32 → Int32 → Int32 → Option (Int32 × Ob)) (Md : Ob) (x3 : Int32) (x4 : Int32) (x5 : Int32) (x6 : Int32) (x7 : Int32) (x8 : Int32) (x9 : Int32) (x10 : Int32) (x12 : Int32) (y0 : Int32) : Option (Int32 × Ob) :=
  zs_ck y0 6 ((if x12 = 0 then (F_X8_goes_row_210 r65 r112 Md x3 x4 x5 x6 x7 x8 x9 x10 x12 (0 : Int32) (Md 10 (y0).toNatClampNeg) y0) else (F_X8_goes_row_210 r65 r112 Md x3 x4 x5 x6 x7 x8 x9 x10 x12 x10 (Md 10 (y0).toNatClampNeg) y0)))
noncomputable def F_X8_goes_row_179 (r65 : Ob → Int32 → Int32 → Int32 → Int32 → Option (Int32 × Ob)) (r112 : Ob → Int32 → Int32 → Int32 → Int32 → Int32 → Int32 → Int32 → Option (Int32 × Ob)) (Md : Ob) (x3 : Int32) (x4 : Int32) (x5 : Int32) (x6 : Int32) (x7 : Int32) (x8 : Int32) (x9 : Int32) (x10 : Int32) (x11 : Int32) (y0 : Int32) : Option (Int32 × Ob) :=
  (if x11 = 0 then (F_X8_goes_row_197 r65 r112 Md x3 x4 x5 x6 x7 x8 x9 x10 y0 x9) else (F_X8_goes_row_197 r65 r112 Md x3 x4 x5 x6 x7 x8 x9 x10 y0 x6))
noncomputable def F_X8_goes_row_174 (r65 : Ob → Int32 → Int32 → Int32 → Int32 → Option (Int32 × Ob)) (r112 : Ob → Int32 → Int32 → Int32 → Int32 → Int32 → Int32 → Int32 → Option (Int32 × Ob)) (Md : Ob) (x3 : Int32) (x4 : Int32) (x5 : Int32) (x6 : Int32) (x7 : Int32) (x8 : Int32) (x9 : Int32) (x10 : Int32) (x11 : Int32) : Option (Int32 × Ob) :=
  (F_X8_goes_row_179 r65 r112 Md x3 x4 x5 x6 x7 x8 x9 x10 x11 (1 : Int32))
noncomputable def F_X8_goes_row_158 (r65 : Ob → Int32 → Int32 → Int32 → Int32 → Option (Int32 × Ob)) (r112 : Ob → Int32 → Int32 → Int32 → Int32 → Int32 → Int32 → Int32 → Option (Int32 × Ob)) (Md : Ob) (x3 : Int32) (x4 : Int32) (x5 : Int32) (x6 : Int32) (x7 : Int32) (x8 : Int32) (x9 : Int32) (x10 : Int32) (y0 : Int32) : Option (Int32 × Ob) :=
  (if y0 = 0 then (if ((x3 >>> (x9 &&& 31)) &&& (1 : Int32)) = 0 then (F_X8_goes_row_174 r65 r112 Md x3 x4 x5 x6 x7 x8 x9 x10 y0) else (F_X8_goes_row_179 r65 r112 Md x3 x4 x5 x6 x7 x8 x9 x10 y0 (0 : Int32))) else (F_X8_goes_row_174 r65 r112 Md x3 x4 x5 x6 x7 x8 x9 x10 y0))
noncomputable def F_X8_goes_row_112_s (r65 : Ob → Int32 → Int32 → Int32 → Int32 → Option (Int32 × Ob)) (rec : Ob → Int32 → Int32 → Int32 → Int32 → Int32 → Int32 → Int32 → Option (Int32 × Ob)) (Md : Ob) (x3 : Int32) (x4 : Int32) (x5 : Int32) (x6 : Int32) (x7 : Int32) (x8 : Int32) (x9 : Int32) : Option (Int32 × Ob) :=
  (if (Md 0 10) ≤ x9 then (F_X8_goes_row_234 r65 Md x3 x4 x5 x6 x7 x8) else zs_ck (((6 : Int32) * x6) + x9) 36 (zs_let (((x7 * (Md 8 ((((6 : Int32) * x6) + x9)).toNatClampNeg)) / (10 : Int32))) (fun z33 => (if ((x4 >>> (x9 &&& 31)) &&& (1 : Int32)) = (1 : Int32) then (F_X8_goes_row_158 r65 rec Md x3 x4 x5 x6 x7 x8 x9 z33 (1 : Int32)) else (F_X8_goes_row_158 r65 rec Md x3 x4 x5 x6 x7 x8 x9 z33 (0 : Int32))))))
noncomputable def F_X8_goes_row_112 (r65 : Ob → Int32 → Int32 → Int32 → Int32 → Option (Int32 × Ob)) (n : Nat) : Ob → Int32 → Int32 → Int32 → Int32 → Int32 → Int32 → Int32 → Option (Int32 × Ob) := zs_fix (fun _ _ _ _ _ _ _ _ => none) (F_X8_goes_row_112_s r65) n
theorem F_X8_goes_row_112_z (r65 : Ob → Int32 → Int32 → Int32 → Int32 → Option (Int32 × Ob)) (Md : Ob) (x3 : Int32) (x4 : Int32) (x5 : Int32) (x6 : Int32) (x7 : Int32) (x8 : Int32) (x9 : Int32) : F_X8_goes_row_112 r65 0 Md x3 x4 x5 x6 x7 x8 x9 = none := rfl
theorem F_X8_goes_row_112_n (r65 : Ob → Int32 → Int32 → Int32 → Int32 → Option (Int32 × Ob)) (n : Nat) (Md : Ob) (x3 : Int32) (x4 : Int32) (x5 : Int32) (x6 : Int32) (x7 : Int32) (x8 : Int32) (x9 : Int32) : F_X8_goes_row_112 r65 (n + 1) Md x3 x4 x5 x6 x7 x8 x9 = F_X8_goes_row_112_s r65 (F_X8_goes_row_112 r65 n) Md x3 x4 x5 x6 x7 x8 x9 := rfl
noncomputable def F_X8_goes_row_103 (r65 : Ob → Int32 → Int32 → Int32 → Int32 → Option (Int32 × Ob)) (Md : Ob) (x3 : Int32) (x4 : Int32) (x5 : Int32) (x6 : Int32) (y0 : Int32) : Option (Int32 × Ob) :=
  (F_X8_goes_row_112 r65 1000 Md x3 x4 x5 x6 y0 y0 (0 : Int32))
noncomputable def F_X8_goes_row_65_s (rec : Ob → Int32 → Int32 → Int32 → Int32 → Option (Int32 × Ob)) (Md : Ob) (x3 : Int32) (x4 : Int32) (x5 : Int32) (x6 : Int32) : Option (Int32 × Ob) :=
  (if (Md 0 10) ≤ x6 then (F_X8_goes_row_259 Md x5) else (if ((x3 >>> (x6 &&& 31)) &&& (1 : Int32)) = (1 : Int32) then (F_X8_goes_row_103 rec Md x3 x4 x5 x6 (0 : Int32)) else zs_ck x6 6 (zs_ck x6 6 ((F_X8_goes_row_103 rec Md x3 x4 x5 x6 (((Md 12 (x6).toNatClampNeg) * (Md 5 (x6).toNatClampNeg)) / (10 : Int32)))))))
noncomputable def F_X8_goes_row_65 (n : Nat) : Ob → Int32 → Int32 → Int32 → Int32 → Option (Int32 × Ob) := zs_fix (fun _ _ _ _ _ => none) (F_X8_goes_row_65_s) n
theorem F_X8_goes_row_65_z (Md : Ob) (x3 : Int32) (x4 : Int32) (x5 : Int32) (x6 : Int32) : F_X8_goes_row_65 0 Md x3 x4 x5 x6 = none := rfl
theorem F_X8_goes_row_65_n (n : Nat) (Md : Ob) (x3 : Int32) (x4 : Int32) (x5 : Int32) (x6 : Int32) : F_X8_goes_row_65 (n + 1) Md x3 x4 x5 x6 = F_X8_goes_row_65_s (F_X8_goes_row_65 n) Md x3 x4 x5 x6 := rfl
noncomputable def F_X8_goes_row_62 (Md : Ob) (x3 : Int32) (x4 : Int32) (x5 : Int32) : Option (Int32 × Ob) :=
  (F_X8_goes_row_65 1000 Md x3 x4 x5 (0 : Int32))
noncomputable def F_X8_goes_row_54 (r6 : Ob → Int32 → Int32 → Int32 → Int32 → Int32 → Option (Int32 × Ob)) (Md : Ob) (x2 : Int32) (x3 : Int32) (x4 : Int32) (x5 : Int32) (x6 : Int32) (y0 : Int32) (y1 : Int32) (y2 : Int32) : Option (Int32 × Ob) :=
  zs_ck y2 6 (zs_let (zs_up Md 10 (y2).toNatClampNeg (y1 + y0)) (fun Mdw41 => zs_let (x6 + (1 : Int32)) (fun z43 => (r6 Mdw41 x2 x3 x4 x5 z43))))
noncomputable def F_X8_goes_row_6_s (rec : Ob → Int32 → Int32 → Int32 → Int32 → Int32 → Option (Int32 × Ob)) (Md : Ob) (x2 : Int32) (x3 : Int32) (x4 : Int32) (x5 : Int32) (x6 : Int32) : Option (Int32 × Ob) :=
  (if (Md 0 10) ≤ x6 then (F_X8_goes_row_62 Md x3 x4 x5) else zs_ck x6 6 (zs_ck x6 6 ((if (((Md 7 (x6).toNatClampNeg) >>> ((x2 - x2 / (8 : Int32) * (8 : Int32)) &&& 31)) &&& (1 : Int32)) = (1 : Int32) then zs_ck x6 6 ((F_X8_goes_row_54 rec Md x2 x3 x4 x5 x6 (Md 6 (x6).toNatClampNeg) (Md 12 (x6).toNatClampNeg) x6)) else (F_X8_goes_row_54 rec Md x2 x3 x4 x5 x6 (0 : Int32) (Md 12 (x6).toNatClampNeg) x6)))))
noncomputable def F_X8_goes_row_6 (n : Nat) : Ob → Int32 → Int32 → Int32 → Int32 → Int32 → Option (Int32 × Ob) := zs_fix (fun _ _ _ _ _ _ => none) (F_X8_goes_row_6_s) n
theorem F_X8_goes_row_6_z (Md : Ob) (x2 : Int32) (x3 : Int32) (x4 : Int32) (x5 : Int32) (x6 : Int32) : F_X8_goes_row_6 0 Md x2 x3 x4 x5 x6 = none := rfl
theorem F_X8_goes_row_6_n (n : Nat) (Md : Ob) (x2 : Int32) (x3 : Int32) (x4 : Int32) (x5 : Int32) (x6 : Int32) : F_X8_goes_row_6 (n + 1) Md x2 x3 x4 x5 x6 = F_X8_goes_row_6_s (F_X8_goes_row_6 n) Md x2 x3 x4 x5 x6 := rfl
noncomputable def F_X8_goes_row (Md : Ob) (u2 : Int32) (u3 : Int32) (u4 : Int32) : Option (Int32 × Ob) :=
  (F_X8_goes_row_6 1000 Md u2 u3 u4 (0 : Int32) (0 : Int32))
noncomputable def F_X8_hour (Md : Ob) : Option (Int32 × Ob) :=
  (if (Md 0 18) = (999 : Int32) then some ((-2 : Int32), Md) else zs_b2 (F_X8_goes_warm Md (Md 0 18) (Md 0 19) (Md 0 20)) (fun r2 Mdw3 => zs_let (zs_up Mdw3 0 21 ((Mdw3 0 21) + r2)) (fun Mdw5 => zs_let (zs_up Mdw5 0 18 ((Mdw5 0 18) + (1 : Int32))) (fun Mdw7 => some (r2, Mdw7)))))
noncomputable def F_X8_notes_43 (Md : Ob) (x1 : Int32) : Option (Ob) :=
  zs_ck (Md 0 24) 10 (zs_let (zs_up Md 11 ((Md 0 24)).toNatClampNeg x1) (fun Mdw2 => zs_let (zs_up Mdw2 0 24 ((Mdw2 0 24) + (1 : Int32))) (fun Mdw4 => some Mdw4)))
noncomputable def F_X8_notes_37 (Md : Ob) (x1 : Int32) : Option (Ob) :=
  zs_let (zs_up Md 0 24 (9 : Int32)) (fun Mdw7 => (F_X8_notes_43 Mdw7 x1))
noncomputable def F_X8_notes_11_s (rec : Ob → Int32 → Int32 → Option (Ob)) (Md : Ob) (x1 : Int32) (x2 : Int32) : Option (Ob) :=
  (if (10 : Int32) ≤ x2 then (F_X8_notes_37 Md x1) else zs_ck x2 10 (zs_ck (x2 - (1 : Int32)) 10 (zs_let (zs_up Md 11 ((x2 - (1 : Int32))).toNatClampNeg (Md 11 (x2).toNatClampNeg)) (fun Mdw12 => zs_let (x2 + (1 : Int32)) (fun z14 => (rec Mdw12 x1 z14))))))
noncomputable def F_X8_notes_11 (n : Nat) : Ob → Int32 → Int32 → Option (Ob) := zs_fix (fun _ _ _ => none) (F_X8_notes_11_s) n
theorem F_X8_notes_11_z (Md : Ob) (x1 : Int32) (x2 : Int32) : F_X8_notes_11 0 Md x1 x2 = none := rfl
theorem F_X8_notes_11_n (n : Nat) (Md : Ob) (x1 : Int32) (x2 : Int32) : F_X8_notes_11 (n + 1) Md x1 x2 = F_X8_notes_11_s (F_X8_notes_11 n) Md x1 x2 := rfl
noncomputable def F_X8_notes (Md : Ob) (u1 : Int32) : Option (Ob) :=
  (if (Md 0 24) = (10 : Int32) then (F_X8_notes_11 1000 Md u1 (1 : Int32)) else (F_X8_notes_43 Md u1))
noncomputable def F_X8_shut (Md : Ob) (u1 : Int32) (u2 : Int32) : Option (Int32 × Ob) :=
  zs_bd (F_X8_isWall Md u1) (fun r1 => (if r1 = 0 then some ((-1 : Int32), Md) else zs_bd (F_X8_in ((u2).toInt64) (0 : Int64) (1 : Int64)) (fun r6 => (if r6 = 0 then some ((-1 : Int32), Md) else (if (((Md 0 19) >>> (u1 &&& 31)) &&& (1 : Int32)) = u2 then some ((-2 : Int32), Md) else zs_let (zs_up Md 0 19 ((Md 0 19) ^^^ ((1 : Int32) <<< (u1 &&& 31)))) (fun Mdw10 => zs_bd (F_X8_notes Mdw10 u1) (fun Mdw12 => zs_bd (F_X8_many (Mdw12 0 19)) (fun r14 => some (r14, Mdw12)))))))))
noncomputable def F_X8_mirror (Md : Ob) (u1 : Int32) (u2 : Int32) : Option (Int32 × Ob) :=
  zs_bd (F_X8_isWall Md u1) (fun r1 => (if r1 = 0 then some ((-1 : Int32), Md) else zs_bd (F_X8_in ((u2).toInt64) (0 : Int64) (1 : Int64)) (fun r6 => (if r6 = 0 then some ((-1 : Int32), Md) else (if (((Md 0 20) >>> (u1 &&& 31)) &&& (1 : Int32)) = u2 then some ((-2 : Int32), Md) else zs_let (zs_up Md 0 20 ((Md 0 20) ^^^ ((1 : Int32) <<< (u1 &&& 31)))) (fun Mdw10 => zs_bd (F_X8_notes Mdw10 ((8 : Int32) + u1)) (fun Mdw12 => zs_bd (F_X8_many (Mdw12 0 20)) (fun r14 => some (r14, Mdw12)))))))))
noncomputable def F_X8_undo_73 (Md : Ob) (y0 : Int32) (y1 : Int32) : Option (Int32 × Ob) :=
  zs_let (zs_up Md 0 20 (y1 ^^^ y0)) (fun Mdw1 => some ((Mdw1 0 24), Mdw1))
noncomputable def F_X8_undo_48 (Md : Ob) (x1 : Int32) (y0 : Int32) (y1 : Int32) : Option (Int32 × Ob) :=
  zs_let (zs_up Md 0 19 (y1 ^^^ y0)) (fun Mdw5 => (if (8 : Int32) ≤ x1 then (F_X8_undo_73 Mdw5 ((1 : Int32) <<< ((x1 - (8 : Int32)) &&& 31)) (Mdw5 0 20)) else (F_X8_undo_73 Mdw5 (0 : Int32) (Mdw5 0 20))))
noncomputable def F_X8_undo (Md : Ob) : Option (Int32 × Ob) :=
  (if (Md 0 24) = 0 then some ((-2 : Int32), Md) else zs_let (zs_up Md 0 24 ((Md 0 24) - (1 : Int32))) (fun Mdw9 => zs_ck (Mdw9 0 24) 10 (zs_let ((Mdw9 11 ((Mdw9 0 24)).toNatClampNeg)) (fun z12 => (if (8 : Int32) ≤ z12 then (F_X8_undo_48 Mdw9 z12 (0 : Int32) (Mdw9 0 19)) else (F_X8_undo_48 Mdw9 z12 ((1 : Int32) <<< (z12 &&& 31)) (Mdw9 0 19)))))))
noncomputable def F_X8_now_94 (Md : Ob) (x1 : Int32) (x2 : Int32) (x3 : Int32) (x4 : Int32) : Option (Int32) :=
  (if x1 = (0 : Int32) then some (Md 0 18) else (if x1 = (1 : Int32) then some x2 else (if x1 = (2 : Int32) then some (Md 0 21) else (if x1 = (3 : Int32) then some x3 else (if x1 = (4 : Int32) then some x4 else some (-1 : Int32))))))
noncomputable def F_X8_now_86 (Md : Ob) (r11 : Int32 → Int32 → Int32 → Int32 → Int32 → Option (Int32)) (x1 : Int32) (x2 : Int32) (x3 : Int32) (x5 : Int32) (y0 : Int32) : Option (Int32) :=
  zs_let (x5 + (1 : Int32)) (fun z12 => (r11 x1 x2 x3 y0 z12))
noncomputable def F_X8_now_79 (Md : Ob) (r11 : Int32 → Int32 → Int32 → Int32 → Int32 → Option (Int32)) (x1 : Int32) (x2 : Int32) (x3 : Int32) (x5 : Int32) : Option (Int32) :=
  (F_X8_now_86 Md r11 x1 x2 x3 x5 x5)
noncomputable def F_X8_now_53 (Md : Ob) (r11 : Int32 → Int32 → Int32 → Int32 → Int32 → Option (Int32)) (x1 : Int32) (x2 : Int32) (x4 : Int32) (x5 : Int32) (y0 : Int32) (y1 : Int32) : Option (Int32) :=
  zs_let ((y1 ||| y0)) (fun z14 => (if x4 = (-9 : Int32) then (F_X8_now_79 Md r11 x1 x2 z14 x5) else zs_ck x5 6 (zs_ck x4 6 ((if (Md 9 (x5).toNatClampNeg) ≤ (Md 9 (x4).toNatClampNeg) then (F_X8_now_86 Md r11 x1 x2 z14 x5 x4) else (F_X8_now_79 Md r11 x1 x2 z14 x5))))))
noncomputable def F_X8_now_11_s (Md : Ob) (rec : Int32 → Int32 → Int32 → Int32 → Int32 → Option (Int32)) (x1 : Int32) (x2 : Int32) (x3 : Int32) (x4 : Int32) (x5 : Int32) : Option (Int32) :=
  (if (Md 0 10) ≤ x5 then (F_X8_now_94 Md x1 x2 x3 x4) else zs_ck x5 6 (zs_let ((x2 + (Md 9 (x5).toNatClampNeg))) (fun z22 => zs_ck x5 6 ((if (Md 9 (x5).toNatClampNeg) ≤ (Md 0 11) then (F_X8_now_53 Md rec x1 z22 x4 x5 (0 : Int32) x3) else (F_X8_now_53 Md rec x1 z22 x4 x5 ((1 : Int32) <<< (x5 &&& 31)) x3))))))
noncomputable def F_X8_now_11 (Md : Ob) (n : Nat) : Int32 → Int32 → Int32 → Int32 → Int32 → Option (Int32) := zs_fix (fun _ _ _ _ _ => none) (F_X8_now_11_s Md) n
theorem F_X8_now_11_z (Md : Ob) (x1 : Int32) (x2 : Int32) (x3 : Int32) (x4 : Int32) (x5 : Int32) : F_X8_now_11 Md 0 x1 x2 x3 x4 x5 = none := rfl
theorem F_X8_now_11_n (Md : Ob) (n : Nat) (x1 : Int32) (x2 : Int32) (x3 : Int32) (x4 : Int32) (x5 : Int32) : F_X8_now_11 Md (n + 1) x1 x2 x3 x4 x5 = F_X8_now_11_s Md (F_X8_now_11 Md n) x1 x2 x3 x4 x5 := rfl
noncomputable def F_X8_now (Md : Ob) (u1 : Int32) : Option (Int32) :=
  (F_X8_now_11 Md 1000 u1 (0 : Int32) (0 : Int32) (-9 : Int32) (0 : Int32))
noncomputable def F_X8_begins_2_s (rec : Ob → Int32 → Option (Ob)) (Md : Ob) (x1 : Int32) : Option (Ob) :=
  (if (Md 0 10) ≤ x1 then some Md else zs_ck x1 6 (zs_ck x1 6 (zs_let (zs_up Md 12 (x1).toNatClampNeg (Md 9 (x1).toNatClampNeg)) (fun Mdw5 => zs_let (x1 + (1 : Int32)) (fun z7 => (rec Mdw5 z7))))))
noncomputable def F_X8_begins_2 (n : Nat) : Ob → Int32 → Option (Ob) := zs_fix (fun _ _ => none) (F_X8_begins_2_s) n
theorem F_X8_begins_2_z (Md : Ob) (x1 : Int32) : F_X8_begins_2 0 Md x1 = none := rfl
theorem F_X8_begins_2_n (n : Nat) (Md : Ob) (x1 : Int32) : F_X8_begins_2 (n + 1) Md x1 = F_X8_begins_2_s (F_X8_begins_2 n) Md x1 := rfl
noncomputable def F_X8_begins (Md : Ob) : Option (Ob) :=
  (F_X8_begins_2 1000 Md (0 : Int32))
noncomputable def F_X8_passes_3_s (rec : Ob → Int32 → Int32 → Int32 → Int32 → Option (Ob)) (Md : Ob) (x1 : Int32) (x2 : Int32) (x3 : Int32) (x4 : Int32) : Option (Ob) :=
  (if x1 ≤ x4 then some Md else zs_b2 (F_X8_goes_row Md ((Md 0 18) + x4) x2 x3) (fun r3 Mdw4 => zs_let (x4 + (1 : Int32)) (fun z6 => (rec Mdw4 x1 x2 x3 z6))))
noncomputable def F_X8_passes_3 (n : Nat) : Ob → Int32 → Int32 → Int32 → Int32 → Option (Ob) := zs_fix (fun _ _ _ _ _ => none) (F_X8_passes_3_s) n
theorem F_X8_passes_3_z (Md : Ob) (x1 : Int32) (x2 : Int32) (x3 : Int32) (x4 : Int32) : F_X8_passes_3 0 Md x1 x2 x3 x4 = none := rfl
theorem F_X8_passes_3_n (n : Nat) (Md : Ob) (x1 : Int32) (x2 : Int32) (x3 : Int32) (x4 : Int32) : F_X8_passes_3 (n + 1) Md x1 x2 x3 x4 = F_X8_passes_3_s (F_X8_passes_3 n) Md x1 x2 x3 x4 := rfl
noncomputable def F_X8_passes (Md : Ob) (u1 : Int32) (u2 : Int32) (u3 : Int32) : Option (Ob) :=
  (F_X8_passes_3 1000 Md u1 u2 u3 (0 : Int32))
noncomputable def F_X8_behind (Md : Ob) (u1 : Int32) (u2 : Int32) : Option (Int32 × Ob) :=
  zs_bd (F_X8_in ((u1).toInt64) (0 : Int64) (50 : Int64)) (fun r1 => (if r1 = 0 then some ((-1 : Int32), Md) else zs_bd (F_X8_isWall Md u2) (fun r6 => (if r6 = 0 then some ((-1 : Int32), Md) else zs_bd (F_X8_begins Md) (fun Mdw9 => zs_bd (F_X8_passes Mdw9 u1 (Mdw9 0 19) (Mdw9 0 20)) (fun Mdw11 => zs_ck u2 6 (some ((Mdw11 12 (u2).toNatClampNeg), Mdw11))))))))
noncomputable def F_X8_tooWarm_2_s (Md : Ob) (rec : Int32 → Option (Int32)) (x1 : Int32) : Option (Int32) :=
  (if (Md 0 10) ≤ x1 then some (-9 : Int32) else zs_ck x1 6 ((if (Md 12 (x1).toNatClampNeg) ≤ (Md 0 11) then zs_let (x1 + (1 : Int32)) (fun z5 => (rec z5)) else some x1)))
noncomputable def F_X8_tooWarm_2 (Md : Ob) (n : Nat) : Int32 → Option (Int32) := zs_fix (fun _ => none) (F_X8_tooWarm_2_s Md) n
theorem F_X8_tooWarm_2_z (Md : Ob) (x1 : Int32) : F_X8_tooWarm_2 Md 0 x1 = none := rfl
theorem F_X8_tooWarm_2_n (Md : Ob) (n : Nat) (x1 : Int32) : F_X8_tooWarm_2 Md (n + 1) x1 = F_X8_tooWarm_2_s Md (F_X8_tooWarm_2 Md n) x1 := rfl
noncomputable def F_X8_tooWarm (Md : Ob) : Option (Int32) :=
  (F_X8_tooWarm_2 Md 1000 (0 : Int32))
noncomputable def F_X8_first_35 (Md : Ob) (x1 : Int32) (x2 : Int32) (x3 : Int32) : Option (Int32 × Ob) :=
  (if x1 = 0 then some (x2, Md) else some (x3, Md))
noncomputable def F_X8_first_18_s (rec : Ob → Int32 → Int32 → Option (Int32 × Ob)) (Md : Ob) (x1 : Int32) (x2 : Int32) : Option (Int32 × Ob) :=
  (if (50 : Int32) < x2 then some ((-9 : Int32), Md) else zs_bd (F_X8_tooWarm Md) (fun r9 => (if r9 = (-9 : Int32) then zs_b2 (F_X8_goes_row Md ((Md 0 18) + x2) (Md 0 19) (Md 0 20)) (fun r12 Mdw13 => zs_let (x2 + (1 : Int32)) (fun z15 => (rec Mdw13 x1 z15))) else (F_X8_first_35 Md x1 x2 r9))))
noncomputable def F_X8_first_18 (n : Nat) : Ob → Int32 → Int32 → Option (Int32 × Ob) := zs_fix (fun _ _ _ => none) (F_X8_first_18_s) n
theorem F_X8_first_18_z (Md : Ob) (x1 : Int32) (x2 : Int32) : F_X8_first_18 0 Md x1 x2 = none := rfl
theorem F_X8_first_18_n (n : Nat) (Md : Ob) (x1 : Int32) (x2 : Int32) : F_X8_first_18 (n + 1) Md x1 x2 = F_X8_first_18_s (F_X8_first_18 n) Md x1 x2 := rfl
noncomputable def F_X8_first (Md : Ob) (u1 : Int32) : Option (Int32 × Ob) :=
  zs_bd (F_X8_in ((u1).toInt64) (0 : Int64) (1 : Int64)) (fun r17 => (if r17 = 0 then some ((-1 : Int32), Md) else zs_bd (F_X8_begins Md) (fun Mdw20 => (F_X8_first_18 1000 Mdw20 u1 (0 : Int32)))))
noncomputable def F_X8_rest_136 (r2 : Ob → Int32 → Option (Int32 × Ob)) (Md : Ob) (x1 : Int32) (x2 : Int32) : Option (Int32 × Ob) :=
  (if x2 = 0 then zs_let (x1 + (1 : Int32)) (fun z2 => (r2 Md z2)) else some (x1, Md))
noncomputable def F_X8_rest_129 (r2 : Ob → Int32 → Option (Int32 × Ob)) (r97 : Ob → Int32 → Int32 → Int32 → Option (Int32 × Ob)) (Md : Ob) (x1 : Int32) (x3 : Int32) (y0 : Int32) : Option (Int32 × Ob) :=
  zs_let (x3 + (1 : Int32)) (fun z6 => (r97 Md x1 y0 z6))
noncomputable def F_X8_rest_128 (r2 : Ob → Int32 → Option (Int32 × Ob)) (r97 : Ob → Int32 → Int32 → Int32 → Option (Int32 × Ob)) (Md : Ob) (x1 : Int32) (x3 : Int32) : Option (Int32 × Ob) :=
  (F_X8_rest_129 r2 r97 Md x1 x3 (0 : Int32))
noncomputable def F_X8_rest_97_s (r2 : Ob → Int32 → Option (Int32 × Ob)) (rec : Ob → Int32 → Int32 → Int32 → Option (Int32 × Ob)) (Md : Ob) (x1 : Int32) (x2 : Int32) (x3 : Int32) : Option (Int32 × Ob) :=
  (if (Md 0 10) ≤ x3 then (F_X8_rest_136 r2 Md x1 x2) else (if x2 = 0 then (F_X8_rest_128 r2 rec Md x1 x3) else zs_ck x3 6 (zs_ck x3 6 ((if (Md 12 (x3).toNatClampNeg) = (Md 13 (x3).toNatClampNeg) then (F_X8_rest_129 r2 rec Md x1 x3 (1 : Int32)) else (F_X8_rest_128 r2 rec Md x1 x3))))))
noncomputable def F_X8_rest_97 (r2 : Ob → Int32 → Option (Int32 × Ob)) (n : Nat) : Ob → Int32 → Int32 → Int32 → Option (Int32 × Ob) := zs_fix (fun _ _ _ _ => none) (F_X8_rest_97_s r2) n
theorem F_X8_rest_97_z (r2 : Ob → Int32 → Option (Int32 × Ob)) (Md : Ob) (x1 : Int32) (x2 : Int32) (x3 : Int32) : F_X8_rest_97 r2 0 Md x1 x2 x3 = none := rfl
theorem F_X8_rest_97_n (r2 : Ob → Int32 → Option (Int32 × Ob)) (n : Nat) (Md : Ob) (x1 : Int32) (x2 : Int32) (x3 : Int32) : F_X8_rest_97 r2 (n + 1) Md x1 x2 x3 = F_X8_rest_97_s r2 (F_X8_rest_97 r2 n) Md x1 x2 x3 := rfl
noncomputable def F_X8_rest_93 (r2 : Ob → Int32 → Option (Int32 × Ob)) (Md : Ob) (x1 : Int32) : Option (Int32 × Ob) :=
  (F_X8_rest_97 r2 1000 Md x1 (1 : Int32) (0 : Int32))
noncomputable def F_X8_rest_56_s (r2 : Ob → Int32 → Option (Int32 × Ob)) (rec : Ob → Int32 → Int32 → Option (Int32 × Ob)) (Md : Ob) (x1 : Int32) (x2 : Int32) : Option (Int32 × Ob) :=
  (if (8 : Int32) ≤ x2 then (F_X8_rest_93 r2 Md x1) else zs_b2 (F_X8_goes_row Md (((Md 0 18) + x1) + x2) (Md 0 19) (Md 0 20)) (fun r14 Mdw15 => zs_let (x2 + (1 : Int32)) (fun z17 => (rec Mdw15 x1 z17))))
noncomputable def F_X8_rest_56 (r2 : Ob → Int32 → Option (Int32 × Ob)) (n : Nat) : Ob → Int32 → Int32 → Option (Int32 × Ob) := zs_fix (fun _ _ _ => none) (F_X8_rest_56_s r2) n
theorem F_X8_rest_56_z (r2 : Ob → Int32 → Option (Int32 × Ob)) (Md : Ob) (x1 : Int32) (x2 : Int32) : F_X8_rest_56 r2 0 Md x1 x2 = none := rfl
theorem F_X8_rest_56_n (r2 : Ob → Int32 → Option (Int32 × Ob)) (n : Nat) (Md : Ob) (x1 : Int32) (x2 : Int32) : F_X8_rest_56 r2 (n + 1) Md x1 x2 = F_X8_rest_56_s r2 (F_X8_rest_56 r2 n) Md x1 x2 := rfl
noncomputable def F_X8_rest_54 (r2 : Ob → Int32 → Option (Int32 × Ob)) (Md : Ob) (x1 : Int32) : Option (Int32 × Ob) :=
  (F_X8_rest_56 r2 1000 Md x1 (0 : Int32))
noncomputable def F_X8_rest_28_s (r2 : Ob → Int32 → Option (Int32 × Ob)) (rec : Ob → Int32 → Int32 → Option (Int32 × Ob)) (Md : Ob) (x1 : Int32) (x2 : Int32) : Option (Int32 × Ob) :=
  (if (Md 0 10) ≤ x2 then (F_X8_rest_54 r2 Md x1) else zs_ck x2 6 (zs_ck x2 6 (zs_let (zs_up Md 13 (x2).toNatClampNeg (Md 12 (x2).toNatClampNeg)) (fun Mdw22 => zs_let (x2 + (1 : Int32)) (fun z24 => (rec Mdw22 x1 z24))))))
noncomputable def F_X8_rest_28 (r2 : Ob → Int32 → Option (Int32 × Ob)) (n : Nat) : Ob → Int32 → Int32 → Option (Int32 × Ob) := zs_fix (fun _ _ _ => none) (F_X8_rest_28_s r2) n
theorem F_X8_rest_28_z (r2 : Ob → Int32 → Option (Int32 × Ob)) (Md : Ob) (x1 : Int32) (x2 : Int32) : F_X8_rest_28 r2 0 Md x1 x2 = none := rfl
theorem F_X8_rest_28_n (r2 : Ob → Int32 → Option (Int32 × Ob)) (n : Nat) (Md : Ob) (x1 : Int32) (x2 : Int32) : F_X8_rest_28 r2 (n + 1) Md x1 x2 = F_X8_rest_28_s r2 (F_X8_rest_28 r2 n) Md x1 x2 := rfl
noncomputable def F_X8_rest_2_s (rec : Ob → Int32 → Option (Int32 × Ob)) (Md : Ob) (x1 : Int32) : Option (Int32 × Ob) :=
  (if (200 : Int32) < x1 then some ((-9 : Int32), Md) else zs_bd (F_X8_begins Md) (fun Mdw29 => zs_bd (F_X8_passes Mdw29 x1 (Mdw29 0 19) (Mdw29 0 20)) (fun Mdw31 => (F_X8_rest_28 rec 1000 Mdw31 x1 (0 : Int32)))))
noncomputable def F_X8_rest_2 (n : Nat) : Ob → Int32 → Option (Int32 × Ob) := zs_fix (fun _ _ => none) (F_X8_rest_2_s) n
theorem F_X8_rest_2_z (Md : Ob) (x1 : Int32) : F_X8_rest_2 0 Md x1 = none := rfl
theorem F_X8_rest_2_n (n : Nat) (Md : Ob) (x1 : Int32) : F_X8_rest_2 (n + 1) Md x1 = F_X8_rest_2_s (F_X8_rest_2 n) Md x1 := rfl
noncomputable def F_X8_rest (Md : Ob) : Option (Int32 × Ob) :=
  (F_X8_rest_2 1000 Md (0 : Int32))
noncomputable def F_X8_saw (Md : Ob) (u1 : Int32) (u2 : Int32) (u3 : Int32) : Option (Int32 × Ob) :=
  zs_bd (F_X8_in ((u1).toInt64) (0 : Int64) (20 : Int64)) (fun r1 => (if r1 = 0 then some ((-1 : Int32), Md) else zs_bd (F_X8_isWall Md u2) (fun r6 => (if r6 = 0 then some ((-1 : Int32), Md) else zs_bd (F_X8_in ((u3).toInt64) (0 : Int64) (9999 : Int64)) (fun r11 => (if r11 = 0 then some ((-1 : Int32), Md) else (if (Md 0 27) = (8 : Int32) then some ((-3 : Int32), Md) else zs_ck (Md 0 27) 8 (zs_let (zs_up Md 14 ((Md 0 27)).toNatClampNeg u1) (fun Mdw16 => zs_ck (Mdw16 0 27) 8 (zs_let (zs_up Mdw16 15 ((Mdw16 0 27)).toNatClampNeg u2) (fun Mdw19 => zs_ck (Mdw19 0 27) 8 (zs_let (zs_up Mdw19 16 ((Mdw19 0 27)).toNatClampNeg u3) (fun Mdw22 => zs_let (zs_up Mdw22 0 27 ((Mdw22 0 27) + (1 : Int32))) (fun Mdw24 => some ((Mdw24 0 27), Mdw24)))))))))))))))
noncomputable def F_X8_forget (Md : Ob) : Option (Int32 × Ob) :=
  zs_let ((Md 0 27)) (fun z1 => zs_let (zs_up Md 0 27 (0 : Int32)) (fun Mdw3 => some (z1, Mdw3)))
noncomputable def F_X8_mark_83 (Md : Ob) (mt : Int64) (x1 : Int32) (x2 : Int32) (y0 : Int64) (y1 : Int64) : Option (Int32 × Int64) :=
  zs_let ((y1 + y0)) (fun mtw1 => zs_bd (F_X8_seen_parts Md x2) (fun r3 => zs_let (((10 : Int32) - r3)) (fun z5 => (if x1 = (0 : Int32) then zs_ck x2 6 (some ((Md 9 (x2).toNatClampNeg), mtw1)) else (if x1 = (1 : Int32) then zs_ck x2 6 (zs_ck x2 6 (some (((Md 9 (x2).toNatClampNeg) + (Md 5 (x2).toNatClampNeg)), mtw1))) else (if x1 = (2 : Int32) then zs_ck x2 6 (some (((Md 9 (x2).toNatClampNeg) - z5), mtw1)) else (if x1 = (3 : Int32) then zs_ck x2 6 (zs_ck x2 6 (some (((2 : Int32) * ((Md 9 (x2).toNatClampNeg) + (Md 5 (x2).toNatClampNeg))), mtw1))) else (if x1 = (4 : Int32) then zs_ck x2 6 (some ((((Md 9 (x2).toNatClampNeg) - z5) + x2), mtw1)) else zs_ck x2 6 (some (((Md 9 (x2).toNatClampNeg) + (Md 0 18)), mtw1))))))))))
noncomputable def F_X8_mark_20 (Md : Ob) (mt : Int64) : Option (Int32 × Int64) :=
  some ((-1000000 : Int32), mt)
noncomputable def F_X8_mark (Md : Ob) (mt : Int64) (u1 : Int32) (u2 : Int32) : Option (Int32 × Int64) :=
  zs_bd (F_X8_in ((u1).toInt64) (0 : Int64) (5 : Int64)) (fun r34 => (if r34 = 0 then (F_X8_mark_20 Md mt) else zs_bd (F_X8_isWall Md u2) (fun r37 => (if r37 = 0 then (F_X8_mark_20 Md mt) else (if u1 = 0 then (F_X8_mark_83 Md mt u1 u2 (1 : Int64) mt) else (if u1 = (1 : Int32) then (F_X8_mark_83 Md mt u1 u2 (11 : Int64) mt) else (if u1 = (2 : Int32) then (F_X8_mark_83 Md mt u1 u2 (101 : Int64) mt) else (if u1 = (3 : Int32) then (F_X8_mark_83 Md mt u1 u2 (1011 : Int64) mt) else (if u1 = (4 : Int32) then (F_X8_mark_83 Md mt u1 u2 (10101 : Int64) mt) else (F_X8_mark_83 Md mt u1 u2 (100001 : Int64) mt))))))))))
noncomputable def F_X8_trace (Md : Ob) (mt : Int64) : Option (Int64) :=
  some mt
noncomputable def F_X8_keep_136 (Md : Ob) : Option (Int32 × Ob) :=
  some ((Md 0 18), Md)
noncomputable def F_X8_keep_107_s (rec : Ob → Int32 → Int32 → Option (Int32 × Ob)) (Md : Ob) (x2 : Int32) (x3 : Int32) : Option (Int32 × Ob) :=
  (if (10 : Int32) ≤ x3 then (F_X8_keep_136 Md) else zs_ck x3 10 (zs_ck ((x2 + (11 : Int32)) + x3) 42 (zs_let (zs_up Md 17 (((x2 + (11 : Int32)) + x3)).toNatClampNeg (Md 11 (x3).toNatClampNeg)) (fun Mdw6 => zs_let (x3 + (1 : Int32)) (fun z8 => (rec Mdw6 x2 z8))))))
noncomputable def F_X8_keep_107 (n : Nat) : Ob → Int32 → Int32 → Option (Int32 × Ob) := zs_fix (fun _ _ _ => none) (F_X8_keep_107_s) n
theorem F_X8_keep_107_z (Md : Ob) (x2 : Int32) (x3 : Int32) : F_X8_keep_107 0 Md x2 x3 = none := rfl
theorem F_X8_keep_107_n (n : Nat) (Md : Ob) (x2 : Int32) (x3 : Int32) : F_X8_keep_107 (n + 1) Md x2 x3 = F_X8_keep_107_s (F_X8_keep_107 n) Md x2 x3 := rfl
noncomputable def F_X8_keep_105 (Md : Ob) (x2 : Int32) : Option (Int32 × Ob) :=
  (F_X8_keep_107 1000 Md x2 (0 : Int32))
noncomputable def F_X8_keep_77_s (rec : Ob → Int32 → Int32 → Option (Int32 × Ob)) (Md : Ob) (x2 : Int32) (x3 : Int32) : Option (Int32 × Ob) :=
  (if (6 : Int32) ≤ x3 then (F_X8_keep_105 Md x2) else zs_ck x3 6 (zs_ck ((x2 + (5 : Int32)) + x3) 42 (zs_let (zs_up Md 17 (((x2 + (5 : Int32)) + x3)).toNatClampNeg (Md 9 (x3).toNatClampNeg)) (fun Mdw13 => zs_let (x3 + (1 : Int32)) (fun z15 => (rec Mdw13 x2 z15))))))
noncomputable def F_X8_keep_77 (n : Nat) : Ob → Int32 → Int32 → Option (Int32 × Ob) := zs_fix (fun _ _ _ => none) (F_X8_keep_77_s) n
theorem F_X8_keep_77_z (Md : Ob) (x2 : Int32) (x3 : Int32) : F_X8_keep_77 0 Md x2 x3 = none := rfl
theorem F_X8_keep_77_n (n : Nat) (Md : Ob) (x2 : Int32) (x3 : Int32) : F_X8_keep_77 (n + 1) Md x2 x3 = F_X8_keep_77_s (F_X8_keep_77 n) Md x2 x3 := rfl
noncomputable def F_X8_keep (Md : Ob) (u1 : Int32) : Option (Int32 × Ob) :=
  zs_bd (F_X8_in ((u1).toInt64) (0 : Int64) (1 : Int64)) (fun r17 => (if r17 = 0 then some ((-1 : Int32), Md) else zs_let (((21 : Int32) * u1)) (fun z20 => zs_ck z20 42 (zs_let (zs_up Md 17 (z20).toNatClampNeg (Md 0 18)) (fun Mdw23 => zs_ck (z20 + (1 : Int32)) 42 (zs_let (zs_up Mdw23 17 ((z20 + (1 : Int32))).toNatClampNeg (Mdw23 0 19)) (fun Mdw26 => zs_ck (z20 + (2 : Int32)) 42 (zs_let (zs_up Mdw26 17 ((z20 + (2 : Int32))).toNatClampNeg (Mdw26 0 20)) (fun Mdw29 => zs_ck (z20 + (3 : Int32)) 42 (zs_let (zs_up Mdw29 17 ((z20 + (3 : Int32))).toNatClampNeg (Mdw29 0 21)) (fun Mdw32 => zs_ck (z20 + (4 : Int32)) 42 (zs_let (zs_up Mdw32 17 ((z20 + (4 : Int32))).toNatClampNeg (Mdw32 0 24)) (fun Mdw35 => (F_X8_keep_77 1000 Mdw35 z20 (0 : Int32)))))))))))))))
noncomputable def F_X8_back_148 (Md : Ob) : Option (Int32 × Ob) :=
  some ((Md 0 18), Md)
noncomputable def F_X8_back_119_s (rec : Ob → Int32 → Int32 → Option (Int32 × Ob)) (Md : Ob) (x2 : Int32) (x3 : Int32) : Option (Int32 × Ob) :=
  (if (10 : Int32) ≤ x3 then (F_X8_back_148 Md) else zs_ck ((x2 + (11 : Int32)) + x3) 42 (zs_ck x3 10 (zs_let (zs_up Md 11 (x3).toNatClampNeg (Md 17 (((x2 + (11 : Int32)) + x3)).toNatClampNeg)) (fun Mdw6 => zs_let (x3 + (1 : Int32)) (fun z8 => (rec Mdw6 x2 z8))))))
noncomputable def F_X8_back_119 (n : Nat) : Ob → Int32 → Int32 → Option (Int32 × Ob) := zs_fix (fun _ _ _ => none) (F_X8_back_119_s) n
theorem F_X8_back_119_z (Md : Ob) (x2 : Int32) (x3 : Int32) : F_X8_back_119 0 Md x2 x3 = none := rfl
theorem F_X8_back_119_n (n : Nat) (Md : Ob) (x2 : Int32) (x3 : Int32) : F_X8_back_119 (n + 1) Md x2 x3 = F_X8_back_119_s (F_X8_back_119 n) Md x2 x3 := rfl
noncomputable def F_X8_back_117 (Md : Ob) (x2 : Int32) : Option (Int32 × Ob) :=
  (F_X8_back_119 1000 Md x2 (0 : Int32))
noncomputable def F_X8_back_89_s (rec : Ob → Int32 → Int32 → Option (Int32 × Ob)) (Md : Ob) (x2 : Int32) (x3 : Int32) : Option (Int32 × Ob) :=
  (if (6 : Int32) ≤ x3 then (F_X8_back_117 Md x2) else zs_ck ((x2 + (5 : Int32)) + x3) 42 (zs_ck x3 6 (zs_let (zs_up Md 9 (x3).toNatClampNeg (Md 17 (((x2 + (5 : Int32)) + x3)).toNatClampNeg)) (fun Mdw13 => zs_let (x3 + (1 : Int32)) (fun z15 => (rec Mdw13 x2 z15))))))
noncomputable def F_X8_back_89 (n : Nat) : Ob → Int32 → Int32 → Option (Int32 × Ob) := zs_fix (fun _ _ _ => none) (F_X8_back_89_s) n
theorem F_X8_back_89_z (Md : Ob) (x2 : Int32) (x3 : Int32) : F_X8_back_89 0 Md x2 x3 = none := rfl
theorem F_X8_back_89_n (n : Nat) (Md : Ob) (x2 : Int32) (x3 : Int32) : F_X8_back_89 (n + 1) Md x2 x3 = F_X8_back_89_s (F_X8_back_89 n) Md x2 x3 := rfl
noncomputable def F_X8_back (Md : Ob) (u1 : Int32) : Option (Int32 × Ob) :=
  zs_bd (F_X8_in ((u1).toInt64) (0 : Int64) (1 : Int64)) (fun r17 => (if r17 = 0 then some ((-1 : Int32), Md) else zs_let (((21 : Int32) * u1)) (fun z20 => zs_ck z20 42 ((if 0 ≤ (Md 17 (z20).toNatClampNeg) then zs_ck z20 42 (zs_let (zs_up Md 0 18 (Md 17 (z20).toNatClampNeg)) (fun Mdw25 => zs_ck (z20 + (1 : Int32)) 42 (zs_let (zs_up Mdw25 0 19 (Mdw25 17 ((z20 + (1 : Int32))).toNatClampNeg)) (fun Mdw28 => zs_ck (z20 + (2 : Int32)) 42 (zs_let (zs_up Mdw28 0 20 (Mdw28 17 ((z20 + (2 : Int32))).toNatClampNeg)) (fun Mdw31 => zs_ck (z20 + (3 : Int32)) 42 (zs_let (zs_up Mdw31 0 21 (Mdw31 17 ((z20 + (3 : Int32))).toNatClampNeg)) (fun Mdw34 => zs_ck (z20 + (4 : Int32)) 42 (zs_let (zs_up Mdw34 0 24 (Mdw34 17 ((z20 + (4 : Int32))).toNatClampNeg)) (fun Mdw37 => (F_X8_back_89 1000 Mdw37 z20 (0 : Int32)))))))))))) else some ((-2 : Int32), Md))))))
noncomputable def F_X8_count (Md : Ob) (u1 : Int32) : Option (Int32) :=
  (if u1 = (0 : Int32) then some (Md 0 10) else (if u1 = (1 : Int32) then some (Md 0 11) else (if u1 = (2 : Int32) then zs_bd (F_X8_many (Md 0 19)) (fun r6 => some r6) else (if u1 = (3 : Int32) then zs_bd (F_X8_many (Md 0 20)) (fun r10 => some r10) else (if u1 = (4 : Int32) then some (Md 0 27) else (if u1 = (5 : Int32) then some (Md 0 24) else (if u1 = (6 : Int32) then some (Md 0 1) else some (-1 : Int32))))))))
noncomputable def F_X8_coolest_165 (Md : Ob) (x2 : Int32) (x3 : Int32) (x4 : Int32) : Option (Int32 × Ob) :=
  (if x3 = (-9 : Int32) then some ((-9 : Int32), Md) else (if x2 = 0 then some (x4, Md) else some (x3, Md)))
noncomputable def F_X8_coolest_157 (r33 : Ob → Int32 → Int32 → Int32 → Int32 → Int32 → Option (Int32 × Ob)) (Md : Ob) (x1 : Int32) (x2 : Int32) (x3 : Int32) (x5 : Int32) (y0 : Int32) : Option (Int32 × Ob) :=
  zs_let (x5 + (1 : Int32)) (fun z9 => (r33 Md x1 x2 x3 y0 z9))
noncomputable def F_X8_coolest_144 (r33 : Ob → Int32 → Int32 → Int32 → Int32 → Int32 → Option (Int32 × Ob)) (Md : Ob) (x1 : Int32) (x2 : Int32) (x4 : Int32) (x5 : Int32) (x6 : Int32) (x7 : Int32) (y0 : Int32) : Option (Int32 × Ob) :=
  (if x7 = 0 then (F_X8_coolest_157 r33 Md x1 x2 y0 x5 x4) else (F_X8_coolest_157 r33 Md x1 x2 y0 x5 x6))
noncomputable def F_X8_coolest_131 (r33 : Ob → Int32 → Int32 → Int32 → Int32 → Int32 → Option (Int32 × Ob)) (Md : Ob) (x1 : Int32) (x2 : Int32) (x3 : Int32) (x4 : Int32) (x5 : Int32) (x6 : Int32) (y0 : Int32) : Option (Int32 × Ob) :=
  (if y0 = 0 then (F_X8_coolest_144 r33 Md x1 x2 x4 x5 x6 y0 x3) else (F_X8_coolest_144 r33 Md x1 x2 x4 x5 x6 y0 x5))
noncomputable def F_X8_coolest_126 (r33 : Ob → Int32 → Int32 → Int32 → Int32 → Int32 → Option (Int32 × Ob)) (Md : Ob) (x1 : Int32) (x2 : Int32) (x3 : Int32) (x4 : Int32) (x5 : Int32) (x6 : Int32) : Option (Int32 × Ob) :=
  (F_X8_coolest_131 r33 Md x1 x2 x3 x4 x5 x6 (1 : Int32))
noncomputable def F_X8_coolest_113 (r33 : Ob → Int32 → Int32 → Int32 → Int32 → Int32 → Option (Int32 × Ob)) (Md : Ob) (x1 : Int32) (x2 : Int32) (x3 : Int32) (x4 : Int32) (x5 : Int32) (x6 : Int32) : Option (Int32 × Ob) :=
  (if x3 = (-9 : Int32) then (F_X8_coolest_126 r33 Md x1 x2 x3 x4 x5 x6) else (if x4 ≤ x6 then (F_X8_coolest_131 r33 Md x1 x2 x3 x4 x5 x6 (0 : Int32)) else (F_X8_coolest_126 r33 Md x1 x2 x3 x4 x5 x6)))
noncomputable def F_X8_coolest_105 (r33 : Ob → Int32 → Int32 → Int32 → Int32 → Int32 → Option (Int32 × Ob)) (r72 : Ob → Int32 → Int32 → Int32 → Int32 → Int32 → Int32 → Int32 → Option (Int32 × Ob)) (Md : Ob) (x1 : Int32) (x2 : Int32) (x3 : Int32) (x4 : Int32) (x5 : Int32) (x7 : Int32) (y0 : Int32) : Option (Int32 × Ob) :=
  zs_let (x7 + (1 : Int32)) (fun z15 => (r72 Md x1 x2 x3 x4 x5 y0 z15))
noncomputable def F_X8_coolest_72_s (r33 : Ob → Int32 → Int32 → Int32 → Int32 → Int32 → Option (Int32 × Ob)) (rec : Ob → Int32 → Int32 → Int32 → Int32 → Int32 → Int32 → Int32 → Option (Int32 × Ob)) (Md : Ob) (x1 : Int32) (x2 : Int32) (x3 : Int32) (x4 : Int32) (x5 : Int32) (x6 : Int32) (x7 : Int32) : Option (Int32 × Ob) :=
  (if (Md 0 10) ≤ x7 then (F_X8_coolest_113 r33 Md x1 x2 x3 x4 x5 x6) else zs_ck x7 6 ((if (Md 12 (x7).toNatClampNeg) ≤ x6 then (F_X8_coolest_105 r33 rec Md x1 x2 x3 x4 x5 x7 x6) else zs_ck x7 6 ((F_X8_coolest_105 r33 rec Md x1 x2 x3 x4 x5 x7 (Md 12 (x7).toNatClampNeg))))))
noncomputable def F_X8_coolest_72 (r33 : Ob → Int32 → Int32 → Int32 → Int32 → Int32 → Option (Int32 × Ob)) (n : Nat) : Ob → Int32 → Int32 → Int32 → Int32 → Int32 → Int32 → Int32 → Option (Int32 × Ob) := zs_fix (fun _ _ _ _ _ _ _ _ => none) (F_X8_coolest_72_s r33) n
theorem F_X8_coolest_72_z (r33 : Ob → Int32 → Int32 → Int32 → Int32 → Int32 → Option (Int32 × Ob)) (Md : Ob) (x1 : Int32) (x2 : Int32) (x3 : Int32) (x4 : Int32) (x5 : Int32) (x6 : Int32) (x7 : Int32) : F_X8_coolest_72 r33 0 Md x1 x2 x3 x4 x5 x6 x7 = none := rfl
theorem F_X8_coolest_72_n (r33 : Ob → Int32 → Int32 → Int32 → Int32 → Int32 → Option (Int32 × Ob)) (n : Nat) (Md : Ob) (x1 : Int32) (x2 : Int32) (x3 : Int32) (x4 : Int32) (x5 : Int32) (x6 : Int32) (x7 : Int32) : F_X8_coolest_72 r33 (n + 1) Md x1 x2 x3 x4 x5 x6 x7 = F_X8_coolest_72_s r33 (F_X8_coolest_72 r33 n) Md x1 x2 x3 x4 x5 x6 x7 := rfl
noncomputable def F_X8_coolest_33_s (rec : Ob → Int32 → Int32 → Int32 → Int32 → Int32 → Option (Int32 × Ob)) (Md : Ob) (x1 : Int32) (x2 : Int32) (x3 : Int32) (x4 : Int32) (x5 : Int32) : Option (Int32 × Ob) :=
  (if ((1 : Int32) <<< ((Md 0 10) &&& 31)) ≤ x5 then (F_X8_coolest_165 Md x2 x3 x4) else (if (Md 0 10) ≤ 0 then (F_X8_coolest_165 Md x2 x3 x4) else zs_bd (F_X8_begins Md) (fun Mdw23 => zs_bd (F_X8_passes Mdw23 x1 x5 (Mdw23 0 20)) (fun Mdw25 => (F_X8_coolest_72 rec 1000 Mdw25 x1 x2 x3 x4 x5 (0 : Int32) (0 : Int32))))))
noncomputable def F_X8_coolest_33 (n : Nat) : Ob → Int32 → Int32 → Int32 → Int32 → Int32 → Option (Int32 × Ob) := zs_fix (fun _ _ _ _ _ _ => none) (F_X8_coolest_33_s) n
theorem F_X8_coolest_33_z (Md : Ob) (x1 : Int32) (x2 : Int32) (x3 : Int32) (x4 : Int32) (x5 : Int32) : F_X8_coolest_33 0 Md x1 x2 x3 x4 x5 = none := rfl
theorem F_X8_coolest_33_n (n : Nat) (Md : Ob) (x1 : Int32) (x2 : Int32) (x3 : Int32) (x4 : Int32) (x5 : Int32) : F_X8_coolest_33 (n + 1) Md x1 x2 x3 x4 x5 = F_X8_coolest_33_s (F_X8_coolest_33 n) Md x1 x2 x3 x4 x5 := rfl
noncomputable def F_X8_coolest (Md : Ob) (u1 : Int32) (u2 : Int32) : Option (Int32 × Ob) :=
  zs_bd (F_X8_in ((u1).toInt64) (0 : Int64) (20 : Int64)) (fun r27 => (if r27 = 0 then some ((-1 : Int32), Md) else zs_bd (F_X8_in ((u2).toInt64) (0 : Int64) (1 : Int64)) (fun r32 => (if r32 = 0 then some ((-1 : Int32), Md) else (F_X8_coolest_33 1000 Md u1 u2 (-9 : Int32) (0 : Int32) (0 : Int32))))))
noncomputable def F_X8_busy_162 (Md : Ob) (x1 : Int32) (x2 : Int32) (x3 : Int32) (x4 : Int32) : Option (Int32 × Ob) :=
  zs_ck x1 6 (zs_let (zs_up Md 7 (x1).toNatClampNeg x3) (fun Mdw2 => (if x4 = (-9 : Int32) then some ((-9 : Int32), Mdw2) else (if x2 = 0 then zs_bd (F_X8_many x4) (fun r8 => some (r8, Mdw2)) else some (x4, Mdw2)))))
noncomputable def F_X8_busy_154 (r34 : Ob → Int32 → Int32 → Int32 → Int32 → Int32 → Option (Int32 × Ob)) (Md : Ob) (x1 : Int32) (x2 : Int32) (x3 : Int32) (x5 : Int32) (y0 : Int32) : Option (Int32 × Ob) :=
  zs_let (x5 + (1 : Int32)) (fun z14 => (r34 Md x1 x2 x3 y0 z14))
noncomputable def F_X8_busy_142 (r34 : Ob → Int32 → Int32 → Int32 → Int32 → Int32 → Option (Int32 × Ob)) (Md : Ob) (x1 : Int32) (x2 : Int32) (x3 : Int32) (x4 : Int32) (x5 : Int32) (x6 : Int32) : Option (Int32 × Ob) :=
  (if x6 = 0 then (F_X8_busy_154 r34 Md x1 x2 x3 x5 x4) else (F_X8_busy_154 r34 Md x1 x2 x3 x5 x5))
noncomputable def F_X8_busy_134 (r34 : Ob → Int32 → Int32 → Int32 → Int32 → Int32 → Option (Int32 × Ob)) (r84 : Ob → Int32 → Int32 → Int32 → Int32 → Int32 → Int32 → Int32 → Option (Int32 × Ob)) (Md : Ob) (x1 : Int32) (x2 : Int32) (x3 : Int32) (x4 : Int32) (x5 : Int32) (x7 : Int32) (y0 : Int32) : Option (Int32 × Ob) :=
  zs_let (x7 + (1 : Int32)) (fun z17 => (r84 Md x1 x2 x3 x4 x5 y0 z17))
noncomputable def F_X8_busy_84_s (r34 : Ob → Int32 → Int32 → Int32 → Int32 → Int32 → Option (Int32 × Ob)) (rec : Ob → Int32 → Int32 → Int32 → Int32 → Int32 → Int32 → Int32 → Option (Int32 × Ob)) (Md : Ob) (x1 : Int32) (x2 : Int32) (x3 : Int32) (x4 : Int32) (x5 : Int32) (x6 : Int32) (x7 : Int32) : Option (Int32 × Ob) :=
  (if (16 : Int32) ≤ x7 then (F_X8_busy_142 r34 Md x1 x2 x3 x4 x5 x6) else (if x6 = 0 then (F_X8_busy_142 r34 Md x1 x2 x3 x4 x5 x6) else zs_b2 (F_X8_goes_row Md ((Md 0 18) + x7) (Md 0 19) (Md 0 20)) (fun r21 Mdw22 => zs_bd (F_X8_tooWarm Mdw22) (fun r24 => (if r24 = (-9 : Int32) then (F_X8_busy_134 r34 rec Mdw22 x1 x2 x3 x4 x5 x7 (1 : Int32)) else (F_X8_busy_134 r34 rec Mdw22 x1 x2 x3 x4 x5 x7 (0 : Int32)))))))
noncomputable def F_X8_busy_84 (r34 : Ob → Int32 → Int32 → Int32 → Int32 → Int32 → Option (Int32 × Ob)) (n : Nat) : Ob → Int32 → Int32 → Int32 → Int32 → Int32 → Int32 → Int32 → Option (Int32 × Ob) := zs_fix (fun _ _ _ _ _ _ _ _ => none) (F_X8_busy_84_s r34) n
theorem F_X8_busy_84_z (r34 : Ob → Int32 → Int32 → Int32 → Int32 → Int32 → Option (Int32 × Ob)) (Md : Ob) (x1 : Int32) (x2 : Int32) (x3 : Int32) (x4 : Int32) (x5 : Int32) (x6 : Int32) (x7 : Int32) : F_X8_busy_84 r34 0 Md x1 x2 x3 x4 x5 x6 x7 = none := rfl
theorem F_X8_busy_84_n (r34 : Ob → Int32 → Int32 → Int32 → Int32 → Int32 → Option (Int32 × Ob)) (n : Nat) (Md : Ob) (x1 : Int32) (x2 : Int32) (x3 : Int32) (x4 : Int32) (x5 : Int32) (x6 : Int32) (x7 : Int32) : F_X8_busy_84 r34 (n + 1) Md x1 x2 x3 x4 x5 x6 x7 = F_X8_busy_84_s r34 (F_X8_busy_84 r34 n) Md x1 x2 x3 x4 x5 x6 x7 := rfl
noncomputable def F_X8_busy_79 (r34 : Ob → Int32 → Int32 → Int32 → Int32 → Int32 → Option (Int32 × Ob)) (Md : Ob) (x1 : Int32) (x2 : Int32) (x3 : Int32) (x4 : Int32) (x5 : Int32) (y0 : Int32) : Option (Int32 × Ob) :=
  (F_X8_busy_84 r34 1000 Md x1 x2 x3 x4 x5 y0 (0 : Int32))
noncomputable def F_X8_busy_74 (r34 : Ob → Int32 → Int32 → Int32 → Int32 → Int32 → Option (Int32 × Ob)) (Md : Ob) (x1 : Int32) (x2 : Int32) (x3 : Int32) (x4 : Int32) (x5 : Int32) : Option (Int32 × Ob) :=
  (F_X8_busy_79 r34 Md x1 x2 x3 x4 x5 (1 : Int32))
noncomputable def F_X8_busy_34_s (rec : Ob → Int32 → Int32 → Int32 → Int32 → Int32 → Option (Int32 × Ob)) (Md : Ob) (x1 : Int32) (x2 : Int32) (x3 : Int32) (x4 : Int32) (x5 : Int32) : Option (Int32 × Ob) :=
  (if (256 : Int32) ≤ x5 then (F_X8_busy_162 Md x1 x2 x3 x4) else zs_ck x1 6 (zs_let (zs_up Md 7 (x1).toNatClampNeg x5) (fun Mdw29 => zs_bd (F_X8_begins Mdw29) (fun Mdw31 => (if x4 = (-9 : Int32) then (F_X8_busy_74 rec Mdw31 x1 x2 x3 x4 x5) else zs_bd (F_X8_many x5) (fun r34 => zs_bd (F_X8_many x4) (fun r36 => (if r34 ≤ r36 then (F_X8_busy_79 rec Mdw31 x1 x2 x3 x4 x5 (0 : Int32)) else (F_X8_busy_74 rec Mdw31 x1 x2 x3 x4 x5)))))))))
noncomputable def F_X8_busy_34 (n : Nat) : Ob → Int32 → Int32 → Int32 → Int32 → Int32 → Option (Int32 × Ob) := zs_fix (fun _ _ _ _ _ _ => none) (F_X8_busy_34_s) n
theorem F_X8_busy_34_z (Md : Ob) (x1 : Int32) (x2 : Int32) (x3 : Int32) (x4 : Int32) (x5 : Int32) : F_X8_busy_34 0 Md x1 x2 x3 x4 x5 = none := rfl
theorem F_X8_busy_34_n (n : Nat) (Md : Ob) (x1 : Int32) (x2 : Int32) (x3 : Int32) (x4 : Int32) (x5 : Int32) : F_X8_busy_34 (n + 1) Md x1 x2 x3 x4 x5 = F_X8_busy_34_s (F_X8_busy_34 n) Md x1 x2 x3 x4 x5 := rfl
noncomputable def F_X8_busy (Md : Ob) (u1 : Int32) (u2 : Int32) : Option (Int32 × Ob) :=
  zs_bd (F_X8_isWall Md u1) (fun r39 => (if r39 = 0 then some ((-1 : Int32), Md) else zs_bd (F_X8_in ((u2).toInt64) (0 : Int64) (1 : Int64)) (fun r44 => (if r44 = 0 then some ((-1 : Int32), Md) else zs_ck u1 6 (zs_let ((Md 7 (u1).toNatClampNeg)) (fun z48 => (F_X8_busy_34 1000 Md u1 u2 z48 (-9 : Int32) (0 : Int32))))))))
noncomputable def F_X8_blanket_137 (r41 : Ob → Int32 → Int32 → Int32 → Int32 → Int32 → Option (Int32 × Ob)) (Md : Ob) (x1 : Int32) (x2 : Int32) (x3 : Int32) (x4 : Int32) (x5 : Int32) : Option (Int32 × Ob) :=
  zs_let (x5 + (1 : Int32)) (fun z1 => (r41 Md x1 x2 x3 x4 z1))
noncomputable def F_X8_blanket_135 (r41 : Ob → Int32 → Int32 → Int32 → Int32 → Int32 → Option (Int32 × Ob)) (Md : Ob) (x1 : Int32) (x2 : Int32) (x3 : Int32) (x5 : Int32) (y0 : Int32) : Option (Int32 × Ob) :=
  (F_X8_blanket_137 r41 Md x1 x2 x3 y0 x5)
noncomputable def F_X8_blanket_91 (r41 : Ob → Int32 → Int32 → Int32 → Int32 → Int32 → Option (Int32 × Ob)) (Md : Ob) (x1 : Int32) (x2 : Int32) (x3 : Int32) (x4 : Int32) (x5 : Int32) (y0 : Int32) : Option (Int32 × Ob) :=
  (if y0 = 0 then (F_X8_blanket_137 r41 Md x1 x2 x3 x4 x5) else zs_bd (F_X8_begins Md) (fun Mdw4 => zs_bd (F_X8_passes Mdw4 x3 (Mdw4 0 19) ((Mdw4 0 20) ||| x5)) (fun Mdw6 => zs_ck x1 6 ((if (Mdw6 12 (x1).toNatClampNeg) < x2 then (F_X8_blanket_135 r41 Mdw6 x1 x2 x3 x5 x4) else (F_X8_blanket_135 r41 Mdw6 x1 x2 x3 x5 x5))))))
noncomputable def F_X8_blanket_90 (r41 : Ob → Int32 → Int32 → Int32 → Int32 → Int32 → Option (Int32 × Ob)) (Md : Ob) (x1 : Int32) (x2 : Int32) (x3 : Int32) (x4 : Int32) (x5 : Int32) : Option (Int32 × Ob) :=
  (F_X8_blanket_91 r41 Md x1 x2 x3 x4 x5 (0 : Int32))
noncomputable def F_X8_blanket_86 (r41 : Ob → Int32 → Int32 → Int32 → Int32 → Int32 → Option (Int32 × Ob)) (Md : Ob) (x1 : Int32) (x2 : Int32) (x3 : Int32) (x4 : Int32) (x5 : Int32) : Option (Int32 × Ob) :=
  (F_X8_blanket_91 r41 Md x1 x2 x3 x4 x5 (1 : Int32))
noncomputable def F_X8_blanket_41_s (rec : Ob → Int32 → Int32 → Int32 → Int32 → Int32 → Option (Int32 × Ob)) (Md : Ob) (x1 : Int32) (x2 : Int32) (x3 : Int32) (x4 : Int32) (x5 : Int32) : Option (Int32 × Ob) :=
  (if ((1 : Int32) <<< ((Md 0 10) &&& 31)) ≤ x5 then some (x4, Md) else (if (x5 &&& ((Md 0 20) ||| ((1 : Int32) <<< (x1 &&& 31)))) = 0 then (if x4 = (-9 : Int32) then (F_X8_blanket_86 rec Md x1 x2 x3 x4 x5) else zs_bd (F_X8_many x5) (fun r15 => zs_bd (F_X8_many x4) (fun r17 => (if r17 ≤ r15 then (F_X8_blanket_90 rec Md x1 x2 x3 x4 x5) else (F_X8_blanket_86 rec Md x1 x2 x3 x4 x5))))) else (F_X8_blanket_90 rec Md x1 x2 x3 x4 x5)))
noncomputable def F_X8_blanket_41 (n : Nat) : Ob → Int32 → Int32 → Int32 → Int32 → Int32 → Option (Int32 × Ob) := zs_fix (fun _ _ _ _ _ _ => none) (F_X8_blanket_41_s) n
theorem F_X8_blanket_41_z (Md : Ob) (x1 : Int32) (x2 : Int32) (x3 : Int32) (x4 : Int32) (x5 : Int32) : F_X8_blanket_41 0 Md x1 x2 x3 x4 x5 = none := rfl
theorem F_X8_blanket_41_n (n : Nat) (Md : Ob) (x1 : Int32) (x2 : Int32) (x3 : Int32) (x4 : Int32) (x5 : Int32) : F_X8_blanket_41 (n + 1) Md x1 x2 x3 x4 x5 = F_X8_blanket_41_s (F_X8_blanket_41 n) Md x1 x2 x3 x4 x5 := rfl
noncomputable def F_X8_blanket (Md : Ob) (u1 : Int32) (u2 : Int32) (u3 : Int32) : Option (Int32 × Ob) :=
  zs_bd (F_X8_isWall Md u1) (fun r20 => (if r20 = 0 then some ((-1 : Int32), Md) else zs_bd (F_X8_in ((u2).toInt64) (0 : Int64) (999 : Int64)) (fun r25 => (if r25 = 0 then some ((-1 : Int32), Md) else zs_bd (F_X8_in ((u3).toInt64) (0 : Int64) (20 : Int64)) (fun r30 => (if r30 = 0 then some ((-1 : Int32), Md) else (F_X8_blanket_41 1000 Md u1 u2 u3 (-9 : Int32) (0 : Int32))))))))
noncomputable def F_X8_sumWith_60_s (rec : Ob → Int32 → Int32 → Option (Int32 × Ob)) (Md : Ob) (x3 : Int32) (x4 : Int32) : Option (Int32 × Ob) :=
  (if (Md 0 10) ≤ x4 then some (x3, Md) else zs_ck x4 6 (zs_let ((x3 + (Md 12 (x4).toNatClampNeg))) (fun z5 => zs_let (x4 + (1 : Int32)) (fun z7 => (rec Md z5 z7)))))
noncomputable def F_X8_sumWith_60 (n : Nat) : Ob → Int32 → Int32 → Option (Int32 × Ob) := zs_fix (fun _ _ _ => none) (F_X8_sumWith_60_s) n
theorem F_X8_sumWith_60_z (Md : Ob) (x3 : Int32) (x4 : Int32) : F_X8_sumWith_60 0 Md x3 x4 = none := rfl
theorem F_X8_sumWith_60_n (n : Nat) (Md : Ob) (x3 : Int32) (x4 : Int32) : F_X8_sumWith_60 (n + 1) Md x3 x4 = F_X8_sumWith_60_s (F_X8_sumWith_60 n) Md x3 x4 := rfl
noncomputable def F_X8_sumWith_55 (Md : Ob) : Option (Int32 × Ob) :=
  (F_X8_sumWith_60 1000 Md (0 : Int32) (0 : Int32))
noncomputable def F_X8_sumWith_49 (r6 : Ob → Int32 → Int32 → Int32 → Option (Int32 × Ob)) (Md : Ob) (x1 : Int32) (x2 : Int32) (x3 : Int32) : Option (Int32 × Ob) :=
  zs_let (x3 + (1 : Int32)) (fun z9 => (r6 Md x1 x2 z9))
noncomputable def F_X8_sumWith_6_s (rec : Ob → Int32 → Int32 → Int32 → Option (Int32 × Ob)) (Md : Ob) (x1 : Int32) (x2 : Int32) (x3 : Int32) : Option (Int32 × Ob) :=
  (if (8 : Int32) ≤ x3 then (F_X8_sumWith_55 Md) else zs_b2 (F_X8_goes_row Md ((Md 0 18) + x3) (Md 0 19) (Md 0 20)) (fun r12 Mdw13 => (if x1 < 0 then (F_X8_sumWith_49 rec Mdw13 x1 x2 x3) else zs_ck x1 6 (zs_ck x1 6 (zs_let (zs_up Mdw13 12 (x1).toNatClampNeg ((Mdw13 12 (x1).toNatClampNeg) + x2)) (fun Mdw18 => (F_X8_sumWith_49 rec Mdw18 x1 x2 x3)))))))
noncomputable def F_X8_sumWith_6 (n : Nat) : Ob → Int32 → Int32 → Int32 → Option (Int32 × Ob) := zs_fix (fun _ _ _ _ => none) (F_X8_sumWith_6_s) n
theorem F_X8_sumWith_6_z (Md : Ob) (x1 : Int32) (x2 : Int32) (x3 : Int32) : F_X8_sumWith_6 0 Md x1 x2 x3 = none := rfl
theorem F_X8_sumWith_6_n (n : Nat) (Md : Ob) (x1 : Int32) (x2 : Int32) (x3 : Int32) : F_X8_sumWith_6 (n + 1) Md x1 x2 x3 = F_X8_sumWith_6_s (F_X8_sumWith_6 n) Md x1 x2 x3 := rfl
noncomputable def F_X8_sumWith (Md : Ob) (u1 : Int32) (u2 : Int32) : Option (Int32 × Ob) :=
  zs_bd (F_X8_begins Md) (fun Mdw20 => (F_X8_sumWith_6 1000 Mdw20 u1 u2 (0 : Int32)))
noncomputable def F_X8_harm_117 (r55 : Ob → Int32 → Int32 → Int32 → Int32 → Option (Int32 × Ob)) (Md : Ob) (x2 : Int32) (x3 : Int32) (x5 : Int32) (y0 : Int32) : Option (Int32 × Ob) :=
  zs_let (x5 + (1 : Int32)) (fun z1 => (r55 Md x2 x3 y0 z1))
noncomputable def F_X8_harm_104 (r55 : Ob → Int32 → Int32 → Int32 → Int32 → Option (Int32 × Ob)) (Md : Ob) (x2 : Int32) (x4 : Int32) (x5 : Int32) (x6 : Int32) (x7 : Int32) (y0 : Int32) : Option (Int32 × Ob) :=
  (if x7 = 0 then (F_X8_harm_117 r55 Md x2 y0 x5 x4) else (F_X8_harm_117 r55 Md x2 y0 x5 x6))
noncomputable def F_X8_harm_91 (r55 : Ob → Int32 → Int32 → Int32 → Int32 → Option (Int32 × Ob)) (Md : Ob) (x2 : Int32) (x3 : Int32) (x4 : Int32) (x5 : Int32) (x6 : Int32) (y0 : Int32) : Option (Int32 × Ob) :=
  (if y0 = 0 then (F_X8_harm_104 r55 Md x2 x4 x5 x6 y0 x3) else (F_X8_harm_104 r55 Md x2 x4 x5 x6 y0 x5))
noncomputable def F_X8_harm_86 (r55 : Ob → Int32 → Int32 → Int32 → Int32 → Option (Int32 × Ob)) (Md : Ob) (x2 : Int32) (x3 : Int32) (x4 : Int32) (x5 : Int32) (x6 : Int32) : Option (Int32 × Ob) :=
  (F_X8_harm_91 r55 Md x2 x3 x4 x5 x6 (1 : Int32))
noncomputable def F_X8_harm_55_s (rec : Ob → Int32 → Int32 → Int32 → Int32 → Option (Int32 × Ob)) (Md : Ob) (x2 : Int32) (x3 : Int32) (x4 : Int32) (x5 : Int32) : Option (Int32 × Ob) :=
  (if (Md 0 10) ≤ x5 then some (x3, Md) else zs_b2 (F_X8_sumWith Md x5 x2) (fun r8 Mdw9 => (if x3 = (-9 : Int32) then (F_X8_harm_86 rec Mdw9 x2 x3 x4 x5 r8) else (if x4 ≤ r8 then (F_X8_harm_91 rec Mdw9 x2 x3 x4 x5 r8 (0 : Int32)) else (F_X8_harm_86 rec Mdw9 x2 x3 x4 x5 r8)))))
noncomputable def F_X8_harm_55 (n : Nat) : Ob → Int32 → Int32 → Int32 → Int32 → Option (Int32 × Ob) := zs_fix (fun _ _ _ _ _ => none) (F_X8_harm_55_s) n
theorem F_X8_harm_55_z (Md : Ob) (x2 : Int32) (x3 : Int32) (x4 : Int32) (x5 : Int32) : F_X8_harm_55 0 Md x2 x3 x4 x5 = none := rfl
theorem F_X8_harm_55_n (n : Nat) (Md : Ob) (x2 : Int32) (x3 : Int32) (x4 : Int32) (x5 : Int32) : F_X8_harm_55 (n + 1) Md x2 x3 x4 x5 = F_X8_harm_55_s (F_X8_harm_55 n) Md x2 x3 x4 x5 := rfl
noncomputable def F_X8_harm_25 (Md : Ob) : Option (Int32 × Ob) :=
  some ((-1000000 : Int32), Md)
noncomputable def F_X8_harm_13 (Md : Ob) (x1 : Int32) (x2 : Int32) : Option (Int32 × Ob) :=
  zs_bd (F_X8_in ((x2).toInt64) (1 : Int64) (50 : Int64)) (fun r15 => (if r15 = 0 then (F_X8_harm_25 Md) else (if x1 < 0 then (F_X8_harm_55 1000 Md x2 (-9 : Int32) (0 : Int32) (0 : Int32)) else zs_b2 (F_X8_sumWith Md x1 x2) (fun r19 Mdw20 => zs_b2 (F_X8_sumWith Mdw20 (-1 : Int32) (0 : Int32)) (fun r22 Mdw23 => some ((r19 - r22), Mdw23))))))
noncomputable def F_X8_harm (Md : Ob) (u1 : Int32) (u2 : Int32) : Option (Int32 × Ob) :=
  (if u1 = (-1 : Int32) then (F_X8_harm_13 Md u1 u2) else zs_bd (F_X8_isWall Md u1) (fun r28 => (if r28 = 0 then (F_X8_harm_25 Md) else (F_X8_harm_13 Md u1 u2))))
noncomputable def F_X8_isSo_84 (r30 : Ob → Int32 → Option (Int32 × Ob)) (Md : Ob) (x1 : Int32) : Option (Int32 × Ob) :=
  zs_b2 (F_X8_goes_row Md x1 (0 : Int32) (0 : Int32)) (fun r1 Mdw2 => zs_let (x1 + (1 : Int32)) (fun z4 => (r30 Mdw2 z4)))
noncomputable def F_X8_isSo_78 (r30 : Ob → Int32 → Option (Int32 × Ob)) (r38 : Ob → Int32 → Int32 → Option (Int32 × Ob)) (Md : Ob) (x1 : Int32) (x2 : Int32) : Option (Int32 × Ob) :=
  zs_let (x2 + (1 : Int32)) (fun z6 => (r38 Md x1 z6))
noncomputable def F_X8_isSo_38_s (r30 : Ob → Int32 → Option (Int32 × Ob)) (rec : Ob → Int32 → Int32 → Option (Int32 × Ob)) (Md : Ob) (x1 : Int32) (x2 : Int32) : Option (Int32 × Ob) :=
  (if (Md 0 27) ≤ x2 then (F_X8_isSo_84 r30 Md x1) else zs_ck x2 8 ((if (Md 14 (x2).toNatClampNeg) = x1 then zs_ck x2 8 (zs_ck (Md 15 (x2).toNatClampNeg) 6 (zs_ck x2 8 ((if (Md 12 ((Md 15 (x2).toNatClampNeg)).toNatClampNeg) = (Md 16 (x2).toNatClampNeg) then (F_X8_isSo_78 r30 rec Md x1 x2) else some ((0 : Int32), Md))))) else (F_X8_isSo_78 r30 rec Md x1 x2))))
noncomputable def F_X8_isSo_38 (r30 : Ob → Int32 → Option (Int32 × Ob)) (n : Nat) : Ob → Int32 → Int32 → Option (Int32 × Ob) := zs_fix (fun _ _ _ => none) (F_X8_isSo_38_s r30) n
theorem F_X8_isSo_38_z (r30 : Ob → Int32 → Option (Int32 × Ob)) (Md : Ob) (x1 : Int32) (x2 : Int32) : F_X8_isSo_38 r30 0 Md x1 x2 = none := rfl
theorem F_X8_isSo_38_n (r30 : Ob → Int32 → Option (Int32 × Ob)) (n : Nat) (Md : Ob) (x1 : Int32) (x2 : Int32) : F_X8_isSo_38 r30 (n + 1) Md x1 x2 = F_X8_isSo_38_s r30 (F_X8_isSo_38 r30 n) Md x1 x2 := rfl
noncomputable def F_X8_isSo_30_s (rec : Ob → Int32 → Option (Int32 × Ob)) (Md : Ob) (x1 : Int32) : Option (Int32 × Ob) :=
  (if (20 : Int32) < x1 then some ((1 : Int32), Md) else (F_X8_isSo_38 rec 1000 Md x1 (0 : Int32)))
noncomputable def F_X8_isSo_30 (n : Nat) : Ob → Int32 → Option (Int32 × Ob) := zs_fix (fun _ _ => none) (F_X8_isSo_30_s) n
theorem F_X8_isSo_30_z (Md : Ob) (x1 : Int32) : F_X8_isSo_30 0 Md x1 = none := rfl
theorem F_X8_isSo_30_n (n : Nat) (Md : Ob) (x1 : Int32) : F_X8_isSo_30 (n + 1) Md x1 = F_X8_isSo_30_s (F_X8_isSo_30 n) Md x1 := rfl
noncomputable def F_X8_isSo_28 (Md : Ob) : Option (Int32 × Ob) :=
  (F_X8_isSo_30 1000 Md (0 : Int32))
noncomputable def F_X8_isSo_2_s (rec : Ob → Int32 → Option (Int32 × Ob)) (Md : Ob) (x1 : Int32) : Option (Int32 × Ob) :=
  (if (Md 0 10) ≤ x1 then (F_X8_isSo_28 Md) else zs_ck x1 6 (zs_ck x1 6 (zs_let (zs_up Md 12 (x1).toNatClampNeg (Md 4 (x1).toNatClampNeg)) (fun Mdw23 => zs_let (x1 + (1 : Int32)) (fun z25 => (rec Mdw23 z25))))))
noncomputable def F_X8_isSo_2 (n : Nat) : Ob → Int32 → Option (Int32 × Ob) := zs_fix (fun _ _ => none) (F_X8_isSo_2_s) n
theorem F_X8_isSo_2_z (Md : Ob) (x1 : Int32) : F_X8_isSo_2 0 Md x1 = none := rfl
theorem F_X8_isSo_2_n (n : Nat) (Md : Ob) (x1 : Int32) : F_X8_isSo_2 (n + 1) Md x1 = F_X8_isSo_2_s (F_X8_isSo_2 n) Md x1 := rfl
noncomputable def F_X8_isSo (Md : Ob) : Option (Int32 × Ob) :=
  (F_X8_isSo_2 1000 Md (0 : Int32))
noncomputable def F_X8_hole_61 (Md : Ob) (x1 : Int32) (x2 : Int32) (x3 : Int32) : Option (Int32 × Ob) :=
  zs_ck x1 6 (zs_let (zs_up Md 5 (x1).toNatClampNeg x2) (fun Mdw2 => some (x3, Mdw2)))
noncomputable def F_X8_hole_54 (r13 : Ob → Int32 → Int32 → Int32 → Int32 → Option (Int32 × Ob)) (Md : Ob) (x1 : Int32) (x2 : Int32) (x4 : Int32) (y0 : Int32) : Option (Int32 × Ob) :=
  zs_let (x4 + (1 : Int32)) (fun z6 => (r13 Md x1 x2 y0 z6))
noncomputable def F_X8_hole_52 (r13 : Ob → Int32 → Int32 → Int32 → Int32 → Option (Int32 × Ob)) (Md : Ob) (x1 : Int32) (x2 : Int32) (x4 : Int32) : Option (Int32 × Ob) :=
  (F_X8_hole_54 r13 Md x1 x2 x4 (-9 : Int32))
noncomputable def F_X8_hole_13_s (rec : Ob → Int32 → Int32 → Int32 → Int32 → Option (Int32 × Ob)) (Md : Ob) (x1 : Int32) (x2 : Int32) (x3 : Int32) (x4 : Int32) : Option (Int32 × Ob) :=
  (if (10 : Int32) ≤ x4 then (F_X8_hole_61 Md x1 x2 x3) else (if x3 = (-9 : Int32) then zs_ck x1 6 (zs_let (zs_up Md 5 (x1).toNatClampNeg x4) (fun Mdw11 => (if x4 = x2 then (F_X8_hole_52 rec Mdw11 x1 x2 x4) else zs_b2 (F_X8_isSo Mdw11) (fun r14 Mdw15 => (if r14 = 0 then (F_X8_hole_52 rec Mdw15 x1 x2 x4) else (F_X8_hole_54 rec Mdw15 x1 x2 x4 x4)))))) else (F_X8_hole_61 Md x1 x2 x3)))
noncomputable def F_X8_hole_13 (n : Nat) : Ob → Int32 → Int32 → Int32 → Int32 → Option (Int32 × Ob) := zs_fix (fun _ _ _ _ _ => none) (F_X8_hole_13_s) n
theorem F_X8_hole_13_z (Md : Ob) (x1 : Int32) (x2 : Int32) (x3 : Int32) (x4 : Int32) : F_X8_hole_13 0 Md x1 x2 x3 x4 = none := rfl
theorem F_X8_hole_13_n (n : Nat) (Md : Ob) (x1 : Int32) (x2 : Int32) (x3 : Int32) (x4 : Int32) : F_X8_hole_13 (n + 1) Md x1 x2 x3 x4 = F_X8_hole_13_s (F_X8_hole_13 n) Md x1 x2 x3 x4 := rfl
noncomputable def F_X8_hole (Md : Ob) (u1 : Int32) : Option (Int32 × Ob) :=
  zs_ck u1 6 (zs_let ((Md 5 (u1).toNatClampNeg)) (fun z19 => (F_X8_hole_13 1000 Md u1 z19 (-9 : Int32) (0 : Int32))))
noncomputable def F_X8_holes_67 (r41 : Ob → Int32 → Int32 → Option (Int32 × Ob)) (Md : Ob) (x3 : Int32) (y0 : Int32) (y1 : Int32) : Option (Int32 × Ob) :=
  zs_let ((y1 ||| y0)) (fun z1 => zs_let (x3 + (1 : Int32)) (fun z3 => (r41 Md z1 z3)))
noncomputable def F_X8_holes_41_s (rec : Ob → Int32 → Int32 → Option (Int32 × Ob)) (Md : Ob) (x2 : Int32) (x3 : Int32) : Option (Int32 × Ob) :=
  (if (Md 0 10) ≤ x3 then some (x2, Md) else zs_b2 (F_X8_hole Md x3) (fun r8 Mdw9 => (if r8 = (-9 : Int32) then (F_X8_holes_67 rec Mdw9 x3 (0 : Int32) x2) else (F_X8_holes_67 rec Mdw9 x3 ((1 : Int32) <<< (x3 &&& 31)) x2))))
noncomputable def F_X8_holes_41 (n : Nat) : Ob → Int32 → Int32 → Option (Int32 × Ob) := zs_fix (fun _ _ _ => none) (F_X8_holes_41_s) n
theorem F_X8_holes_41_z (Md : Ob) (x2 : Int32) (x3 : Int32) : F_X8_holes_41 0 Md x2 x3 = none := rfl
theorem F_X8_holes_41_n (n : Nat) (Md : Ob) (x2 : Int32) (x3 : Int32) : F_X8_holes_41 (n + 1) Md x2 x3 = F_X8_holes_41_s (F_X8_holes_41 n) Md x2 x3 := rfl
noncomputable def F_X8_holes_38 (Md : Ob) (y0 : Int32) : Option (Int32 × Ob) :=
  (F_X8_holes_41 1000 Md y0 (0 : Int32))
noncomputable def F_X8_holes_15 (Md : Ob) (x1 : Int32) : Option (Int32 × Ob) :=
  (if x1 < 0 then zs_b2 (F_X8_isSo Md) (fun r13 Mdw14 => (if r13 = 0 then (F_X8_holes_38 Mdw14 (0 : Int32)) else (F_X8_holes_38 Mdw14 (64 : Int32)))) else zs_b2 (F_X8_hole Md x1) (fun r17 Mdw18 => some (r17, Mdw18)))
noncomputable def F_X8_holes (Md : Ob) (u1 : Int32) : Option (Int32 × Ob) :=
  (if u1 = (-1 : Int32) then (F_X8_holes_15 Md u1) else zs_bd (F_X8_isWall Md u1) (fun r23 => (if r23 = 0 then some ((-1 : Int32), Md) else (F_X8_holes_15 Md u1))))
noncomputable def F_L_law_824 (xs : Nat → Int32) (L : Nat) (r18 : Ob → Int64 → Ob → Ob → Ob → Ob → Ob → Ob → Ob → Ob → Ob → Ob → Ob → Ob → Ob → Int64 → Ad → Ad → Int32 → Option (Int32)) (Xm : Ob) (tr : Int64) (Tx : Ob) (Rd : Ob) (Tk : Ob) (Pr : Ob) (Sg : Ob) (Ah : Ob) (Tn : Ob) (Yi : Ob) (Im0 : Ob) (Im1 : Ob) (Yt : Ob) (Yr : Ob) (Md : Ob) (mt : Int64) (aYt : Ad) (aYr : Ad) (x3 : Int32) : Option (Int32) :=
  zs_let (x3 + (4 : Int32)) (fun z1 => (r18 Xm tr Tx Rd Tk Pr Sg Ah Tn Yi Im0 Im1 Yt Yr Md mt aYt aYr z1))
noncomputable def F_L_law_810 (xs : Nat → Int32) (L : Nat) (r18 : Ob → Int64 → Ob → Ob → Ob → Ob → Ob → Ob → Ob → Ob → Ob → Ob → Ob → Ob → Ob → Int64 → Ad → Ad → Int32 → Option (Int32)) (Xm : Ob) (tr : Int64) (Tx : Ob) (Rd : Ob) (Tk : Ob) (Pr : Ob) (Sg : Ob) (Ah : Ob) (Tn : Ob) (Yi : Ob) (Im0 : Ob) (Im1 : Ob) (Yt : Ob) (Yr : Ob) (Md : Ob) (mt : Int64) (aYt : Ad) (aYr : Ad) (x3 : Int32) : Option (Int32) :=
  zs_bd (F_X7_trace tr) (fun r3 => zs_bd (F_X8_trace Md mt) (fun r5 => (if (lg_cmp r3 r5) = 0 then (F_L_law_824 xs L r18 Xm tr Tx Rd Tk Pr Sg Ah Tn Yi Im0 Im1 Yt Yr Md mt aYt aYr x3) else some (0 : Int32))))
noncomputable def F_L_law_787 (xs : Nat → Int32) (L : Nat) (r18 : Ob → Int64 → Ob → Ob → Ob → Ob → Ob → Ob → Ob → Ob → Ob → Ob → Ob → Ob → Ob → Int64 → Ad → Ad → Int32 → Option (Int32)) (Xm : Ob) (tr : Int64) (Tx : Ob) (Rd : Ob) (Tk : Ob) (Pr : Ob) (Sg : Ob) (Ah : Ob) (Tn : Ob) (Yi : Ob) (Im0 : Ob) (Im1 : Ob) (Yt : Ob) (Yr : Ob) (Md : Ob) (mt : Int64) (aYt : Ad) (aYr : Ad) (x3 : Int32) : Option (Int32) :=
  zs_ck (x3 + (1 : Int32)) L (zs_bd (F_X7_count Tx Pr Sg Yt (xs ((x3 + (1 : Int32))).toNatClampNeg)) (fun r9 => zs_ck (x3 + (1 : Int32)) L (zs_bd (F_X8_count Md (xs ((x3 + (1 : Int32))).toNatClampNeg)) (fun r12 => (if r9 = r12 then (F_L_law_824 xs L r18 Xm tr Tx Rd Tk Pr Sg Ah Tn Yi Im0 Im1 Yt Yr Md mt aYt aYr x3) else some (0 : Int32))))))
noncomputable def F_L_law_764 (xs : Nat → Int32) (L : Nat) (r18 : Ob → Int64 → Ob → Ob → Ob → Ob → Ob → Ob → Ob → Ob → Ob → Ob → Ob → Ob → Ob → Int64 → Ad → Ad → Int32 → Option (Int32)) (Xm : Ob) (tr : Int64) (Tx : Ob) (Rd : Ob) (Tk : Ob) (Pr : Ob) (Sg : Ob) (Ah : Ob) (Tn : Ob) (Yi : Ob) (Im0 : Ob) (Im1 : Ob) (Yt : Ob) (Yr : Ob) (Md : Ob) (mt : Int64) (aYt : Ad) (aYr : Ad) (x3 : Int32) : Option (Int32) :=
  zs_ck (x3 + (1 : Int32)) L (zs_b2 (F_X7_back Xm Pr Im0 Im1 (xs ((x3 + (1 : Int32))).toNatClampNeg)) (fun r16 Prw17 => zs_ck (x3 + (1 : Int32)) L (zs_b2 (F_X8_back Md (xs ((x3 + (1 : Int32))).toNatClampNeg)) (fun r20 Mdw21 => (if r16 = r20 then (F_L_law_824 xs L r18 Xm tr Tx Rd Tk Prw17 Sg Ah Tn Yi Im0 Im1 Yt Yr Mdw21 mt aYt aYr x3) else some (0 : Int32))))))
noncomputable def F_L_law_741 (xs : Nat → Int32) (L : Nat) (r18 : Ob → Int64 → Ob → Ob → Ob → Ob → Ob → Ob → Ob → Ob → Ob → Ob → Ob → Ob → Ob → Int64 → Ad → Ad → Int32 → Option (Int32)) (Xm : Ob) (tr : Int64) (Tx : Ob) (Rd : Ob) (Tk : Ob) (Pr : Ob) (Sg : Ob) (Ah : Ob) (Tn : Ob) (Yi : Ob) (Im0 : Ob) (Im1 : Ob) (Yt : Ob) (Yr : Ob) (Md : Ob) (mt : Int64) (aYt : Ad) (aYr : Ad) (x3 : Int32) : Option (Int32) :=
  zs_ck (x3 + (1 : Int32)) L (zs_b4 (F_X7_keep Xm Pr Im0 Im1 (xs ((x3 + (1 : Int32))).toNatClampNeg)) (fun r25 Xmw26 Im0w27 Im1w28 => zs_ck (x3 + (1 : Int32)) L (zs_b2 (F_X8_keep Md (xs ((x3 + (1 : Int32))).toNatClampNeg)) (fun r31 Mdw32 => (if r25 = r31 then (F_L_law_824 xs L r18 Xmw26 tr Tx Rd Tk Pr Sg Ah Tn Yi Im0w27 Im1w28 Yt Yr Mdw32 mt aYt aYr x3) else some (0 : Int32))))))
noncomputable def F_L_law_708 (xs : Nat → Int32) (L : Nat) (r18 : Ob → Int64 → Ob → Ob → Ob → Ob → Ob → Ob → Ob → Ob → Ob → Ob → Ob → Ob → Ob → Int64 → Ad → Ad → Int32 → Option (Int32)) (Xm : Ob) (tr : Int64) (Tx : Ob) (Rd : Ob) (Tk : Ob) (Pr : Ob) (Sg : Ob) (Ah : Ob) (Tn : Ob) (Yi : Ob) (Im0 : Ob) (Im1 : Ob) (Yt : Ob) (Yr : Ob) (Md : Ob) (mt : Int64) (aYt : Ad) (aYr : Ad) (x3 : Int32) : Option (Int32) :=
  zs_ck (x3 + (1 : Int32)) L (zs_ck (x3 + (2 : Int32)) L (zs_b2 (F_X7_mark tr Pr Yt (xs ((x3 + (1 : Int32))).toNatClampNeg) (xs ((x3 + (2 : Int32))).toNatClampNeg)) (fun r37 trw38 => zs_ck (x3 + (1 : Int32)) L (zs_ck (x3 + (2 : Int32)) L (zs_b2 (F_X8_mark Md mt (xs ((x3 + (1 : Int32))).toNatClampNeg) (xs ((x3 + (2 : Int32))).toNatClampNeg)) (fun r42 mtw43 => (if r37 = r42 then (F_L_law_824 xs L r18 Xm trw38 Tx Rd Tk Pr Sg Ah Tn Yi Im0 Im1 Yt Yr Md mtw43 aYt aYr x3) else some (0 : Int32))))))))
noncomputable def F_L_law_685 (xs : Nat → Int32) (L : Nat) (r18 : Ob → Int64 → Ob → Ob → Ob → Ob → Ob → Ob → Ob → Ob → Ob → Ob → Ob → Ob → Ob → Int64 → Ad → Ad → Int32 → Option (Int32)) (Xm : Ob) (tr : Int64) (Tx : Ob) (Rd : Ob) (Tk : Ob) (Pr : Ob) (Sg : Ob) (Ah : Ob) (Tn : Ob) (Yi : Ob) (Im0 : Ob) (Im1 : Ob) (Yt : Ob) (Yr : Ob) (Md : Ob) (mt : Int64) (aYt : Ad) (aYr : Ad) (x3 : Int32) : Option (Int32) :=
  zs_ck (x3 + (1 : Int32)) L (zs_b3 (F_X7_holes Yt Sg Ah Tn Yi (xs ((x3 + (1 : Int32))).toNatClampNeg)) (fun r47 Tnw48 Yiw49 => zs_ck (x3 + (1 : Int32)) L (zs_b2 (F_X8_holes Md (xs ((x3 + (1 : Int32))).toNatClampNeg)) (fun r52 Mdw53 => (if r47 = r52 then (F_L_law_824 xs L r18 Xm tr Tx Rd Tk Pr Sg Ah Tnw48 Yiw49 Im0 Im1 Yt Yr Mdw53 mt aYt aYr x3) else some (0 : Int32))))))
noncomputable def F_L_law_672 (xs : Nat → Int32) (L : Nat) (r18 : Ob → Int64 → Ob → Ob → Ob → Ob → Ob → Ob → Ob → Ob → Ob → Ob → Ob → Ob → Ob → Int64 → Ad → Ad → Int32 → Option (Int32)) (Xm : Ob) (tr : Int64) (Tx : Ob) (Rd : Ob) (Tk : Ob) (Pr : Ob) (Sg : Ob) (Ah : Ob) (Tn : Ob) (Yi : Ob) (Im0 : Ob) (Im1 : Ob) (Yt : Ob) (Yr : Ob) (Md : Ob) (mt : Int64) (aYt : Ad) (aYr : Ad) (x3 : Int32) : Option (Int32) :=
  zs_b2 (F_X7_forget Sg) (fun r56 Sgw57 => zs_b2 (F_X8_forget Md) (fun r59 Mdw60 => (if r56 = r59 then (F_L_law_824 xs L r18 Xm tr Tx Rd Tk Pr Sgw57 Ah Tn Yi Im0 Im1 Yt Yr Mdw60 mt aYt aYr x3) else some (0 : Int32))))
noncomputable def F_L_law_629 (xs : Nat → Int32) (L : Nat) (r18 : Ob → Int64 → Ob → Ob → Ob → Ob → Ob → Ob → Ob → Ob → Ob → Ob → Ob → Ob → Ob → Int64 → Ad → Ad → Int32 → Option (Int32)) (Xm : Ob) (tr : Int64) (Tx : Ob) (Rd : Ob) (Tk : Ob) (Pr : Ob) (Sg : Ob) (Ah : Ob) (Tn : Ob) (Yi : Ob) (Im0 : Ob) (Im1 : Ob) (Yt : Ob) (Yr : Ob) (Md : Ob) (mt : Int64) (aYt : Ad) (aYr : Ad) (x3 : Int32) : Option (Int32) :=
  zs_ck (x3 + (1 : Int32)) L (zs_ck (x3 + (2 : Int32)) L (zs_ck (x3 + (3 : Int32)) L (zs_b2 (F_X7_saw Yt Sg (xs ((x3 + (1 : Int32))).toNatClampNeg) (xs ((x3 + (2 : Int32))).toNatClampNeg) (xs ((x3 + (3 : Int32))).toNatClampNeg)) (fun r66 Sgw67 => zs_ck (x3 + (1 : Int32)) L (zs_ck (x3 + (2 : Int32)) L (zs_ck (x3 + (3 : Int32)) L (zs_b2 (F_X8_saw Md (xs ((x3 + (1 : Int32))).toNatClampNeg) (xs ((x3 + (2 : Int32))).toNatClampNeg) (xs ((x3 + (3 : Int32))).toNatClampNeg)) (fun r72 Mdw73 => (if r66 = r72 then (F_L_law_824 xs L r18 Xm tr Tx Rd Tk Pr Sgw67 Ah Tn Yi Im0 Im1 Yt Yr Mdw73 mt aYt aYr x3) else some (0 : Int32))))))))))
noncomputable def F_L_law_596 (xs : Nat → Int32) (L : Nat) (r18 : Ob → Int64 → Ob → Ob → Ob → Ob → Ob → Ob → Ob → Ob → Ob → Ob → Ob → Ob → Ob → Int64 → Ad → Ad → Int32 → Option (Int32)) (Xm : Ob) (tr : Int64) (Tx : Ob) (Rd : Ob) (Tk : Ob) (Pr : Ob) (Sg : Ob) (Ah : Ob) (Tn : Ob) (Yi : Ob) (Im0 : Ob) (Im1 : Ob) (Yt : Ob) (Yr : Ob) (Md : Ob) (mt : Int64) (aYt : Ad) (aYr : Ad) (x3 : Int32) : Option (Int32) :=
  zs_ck (x3 + (1 : Int32)) L (zs_ck (x3 + (2 : Int32)) L (zs_b3 (F_X7_harm Pr Yt Ah Tn Yi (xs ((x3 + (1 : Int32))).toNatClampNeg) (xs ((x3 + (2 : Int32))).toNatClampNeg)) (fun r78 Tnw79 Yiw80 => zs_ck (x3 + (1 : Int32)) L (zs_ck (x3 + (2 : Int32)) L (zs_b2 (F_X8_harm Md (xs ((x3 + (1 : Int32))).toNatClampNeg) (xs ((x3 + (2 : Int32))).toNatClampNeg)) (fun r84 Mdw85 => (if r78 = r84 then (F_L_law_824 xs L r18 Xm tr Tx Rd Tk Pr Sg Ah Tnw79 Yiw80 Im0 Im1 Yt Yr Mdw85 mt aYt aYr x3) else some (0 : Int32))))))))
noncomputable def F_L_law_553 (xs : Nat → Int32) (L : Nat) (r18 : Ob → Int64 → Ob → Ob → Ob → Ob → Ob → Ob → Ob → Ob → Ob → Ob → Ob → Ob → Ob → Int64 → Ad → Ad → Int32 → Option (Int32)) (Xm : Ob) (tr : Int64) (Tx : Ob) (Rd : Ob) (Tk : Ob) (Pr : Ob) (Sg : Ob) (Ah : Ob) (Tn : Ob) (Yi : Ob) (Im0 : Ob) (Im1 : Ob) (Yt : Ob) (Yr : Ob) (Md : Ob) (mt : Int64) (aYt : Ad) (aYr : Ad) (x3 : Int32) : Option (Int32) :=
  zs_ck (x3 + (1 : Int32)) L (zs_ck (x3 + (2 : Int32)) L (zs_ck (x3 + (3 : Int32)) L (zs_b2 (F_X7_blanket Pr Yt Ah Tn (xs ((x3 + (1 : Int32))).toNatClampNeg) (xs ((x3 + (2 : Int32))).toNatClampNeg) (xs ((x3 + (3 : Int32))).toNatClampNeg)) (fun r91 Tnw92 => zs_ck (x3 + (1 : Int32)) L (zs_ck (x3 + (2 : Int32)) L (zs_ck (x3 + (3 : Int32)) L (zs_b2 (F_X8_blanket Md (xs ((x3 + (1 : Int32))).toNatClampNeg) (xs ((x3 + (2 : Int32))).toNatClampNeg) (xs ((x3 + (3 : Int32))).toNatClampNeg)) (fun r97 Mdw98 => (if r91 = r97 then (F_L_law_824 xs L r18 Xm tr Tx Rd Tk Pr Sg Ah Tnw92 Yi Im0 Im1 Yt Yr Mdw98 mt aYt aYr x3) else some (0 : Int32))))))))))
noncomputable def F_L_law_520 (xs : Nat → Int32) (L : Nat) (r18 : Ob → Int64 → Ob → Ob → Ob → Ob → Ob → Ob → Ob → Ob → Ob → Ob → Ob → Ob → Ob → Int64 → Ad → Ad → Int32 → Option (Int32)) (Xm : Ob) (tr : Int64) (Tx : Ob) (Rd : Ob) (Tk : Ob) (Pr : Ob) (Sg : Ob) (Ah : Ob) (Tn : Ob) (Yi : Ob) (Im0 : Ob) (Im1 : Ob) (Yt : Ob) (Yr : Ob) (Md : Ob) (mt : Int64) (aYt : Ad) (aYr : Ad) (x3 : Int32) : Option (Int32) :=
  zs_ck (x3 + (1 : Int32)) L (zs_ck (x3 + (2 : Int32)) L (zs_b3 (F_X7_busy Pr Yt Ah Tn Yi (xs ((x3 + (1 : Int32))).toNatClampNeg) (xs ((x3 + (2 : Int32))).toNatClampNeg)) (fun r103 Tnw104 Yiw105 => zs_ck (x3 + (1 : Int32)) L (zs_ck (x3 + (2 : Int32)) L (zs_b2 (F_X8_busy Md (xs ((x3 + (1 : Int32))).toNatClampNeg) (xs ((x3 + (2 : Int32))).toNatClampNeg)) (fun r109 Mdw110 => (if r103 = r109 then (F_L_law_824 xs L r18 Xm tr Tx Rd Tk Pr Sg Ah Tnw104 Yiw105 Im0 Im1 Yt Yr Mdw110 mt aYt aYr x3) else some (0 : Int32))))))))
noncomputable def F_L_law_487 (xs : Nat → Int32) (L : Nat) (r18 : Ob → Int64 → Ob → Ob → Ob → Ob → Ob → Ob → Ob → Ob → Ob → Ob → Ob → Ob → Ob → Int64 → Ad → Ad → Int32 → Option (Int32)) (Xm : Ob) (tr : Int64) (Tx : Ob) (Rd : Ob) (Tk : Ob) (Pr : Ob) (Sg : Ob) (Ah : Ob) (Tn : Ob) (Yi : Ob) (Im0 : Ob) (Im1 : Ob) (Yt : Ob) (Yr : Ob) (Md : Ob) (mt : Int64) (aYt : Ad) (aYr : Ad) (x3 : Int32) : Option (Int32) :=
  zs_ck (x3 + (1 : Int32)) L (zs_ck (x3 + (2 : Int32)) L (zs_b2 (F_X7_coolest Pr Yt Ah Tn (xs ((x3 + (1 : Int32))).toNatClampNeg) (xs ((x3 + (2 : Int32))).toNatClampNeg)) (fun r115 Tnw116 => zs_ck (x3 + (1 : Int32)) L (zs_ck (x3 + (2 : Int32)) L (zs_b2 (F_X8_coolest Md (xs ((x3 + (1 : Int32))).toNatClampNeg) (xs ((x3 + (2 : Int32))).toNatClampNeg)) (fun r120 Mdw121 => (if r115 = r120 then (F_L_law_824 xs L r18 Xm tr Tx Rd Tk Pr Sg Ah Tnw116 Yi Im0 Im1 Yt Yr Mdw121 mt aYt aYr x3) else some (0 : Int32))))))))
noncomputable def F_L_law_474 (xs : Nat → Int32) (L : Nat) (r18 : Ob → Int64 → Ob → Ob → Ob → Ob → Ob → Ob → Ob → Ob → Ob → Ob → Ob → Ob → Ob → Int64 → Ad → Ad → Int32 → Option (Int32)) (Xm : Ob) (tr : Int64) (Tx : Ob) (Rd : Ob) (Tk : Ob) (Pr : Ob) (Sg : Ob) (Ah : Ob) (Tn : Ob) (Yi : Ob) (Im0 : Ob) (Im1 : Ob) (Yt : Ob) (Yr : Ob) (Md : Ob) (mt : Int64) (aYt : Ad) (aYr : Ad) (x3 : Int32) : Option (Int32) :=
  zs_b3 (F_X7_rest Pr Yt Ah Tn) (fun r124 Ahw125 Tnw126 => zs_b2 (F_X8_rest Md) (fun r128 Mdw129 => (if r124 = r128 then (F_L_law_824 xs L r18 Xm tr Tx Rd Tk Pr Sg Ahw125 Tnw126 Yi Im0 Im1 Yt Yr Mdw129 mt aYt aYr x3) else some (0 : Int32))))
noncomputable def F_L_law_451 (xs : Nat → Int32) (L : Nat) (r18 : Ob → Int64 → Ob → Ob → Ob → Ob → Ob → Ob → Ob → Ob → Ob → Ob → Ob → Ob → Ob → Int64 → Ad → Ad → Int32 → Option (Int32)) (Xm : Ob) (tr : Int64) (Tx : Ob) (Rd : Ob) (Tk : Ob) (Pr : Ob) (Sg : Ob) (Ah : Ob) (Tn : Ob) (Yi : Ob) (Im0 : Ob) (Im1 : Ob) (Yt : Ob) (Yr : Ob) (Md : Ob) (mt : Int64) (aYt : Ad) (aYr : Ad) (x3 : Int32) : Option (Int32) :=
  zs_ck (x3 + (1 : Int32)) L (zs_b2 (F_X7_first Pr Yt Ah Tn (xs ((x3 + (1 : Int32))).toNatClampNeg)) (fun r133 Tnw134 => zs_ck (x3 + (1 : Int32)) L (zs_b2 (F_X8_first Md (xs ((x3 + (1 : Int32))).toNatClampNeg)) (fun r137 Mdw138 => (if r133 = r137 then (F_L_law_824 xs L r18 Xm tr Tx Rd Tk Pr Sg Ah Tnw134 Yi Im0 Im1 Yt Yr Mdw138 mt aYt aYr x3) else some (0 : Int32))))))
noncomputable def F_L_law_418 (xs : Nat → Int32) (L : Nat) (r18 : Ob → Int64 → Ob → Ob → Ob → Ob → Ob → Ob → Ob → Ob → Ob → Ob → Ob → Ob → Ob → Int64 → Ad → Ad → Int32 → Option (Int32)) (Xm : Ob) (tr : Int64) (Tx : Ob) (Rd : Ob) (Tk : Ob) (Pr : Ob) (Sg : Ob) (Ah : Ob) (Tn : Ob) (Yi : Ob) (Im0 : Ob) (Im1 : Ob) (Yt : Ob) (Yr : Ob) (Md : Ob) (mt : Int64) (aYt : Ad) (aYr : Ad) (x3 : Int32) : Option (Int32) :=
  zs_ck (x3 + (1 : Int32)) L (zs_ck (x3 + (2 : Int32)) L (zs_b2 (F_X7_behind Pr Yt Ah Tn (xs ((x3 + (1 : Int32))).toNatClampNeg) (xs ((x3 + (2 : Int32))).toNatClampNeg)) (fun r143 Tnw144 => zs_ck (x3 + (1 : Int32)) L (zs_ck (x3 + (2 : Int32)) L (zs_b2 (F_X8_behind Md (xs ((x3 + (1 : Int32))).toNatClampNeg) (xs ((x3 + (2 : Int32))).toNatClampNeg)) (fun r148 Mdw149 => (if r143 = r148 then (F_L_law_824 xs L r18 Xm tr Tx Rd Tk Pr Sg Ah Tnw144 Yi Im0 Im1 Yt Yr Mdw149 mt aYt aYr x3) else some (0 : Int32))))))))
noncomputable def F_L_law_395 (xs : Nat → Int32) (L : Nat) (r18 : Ob → Int64 → Ob → Ob → Ob → Ob → Ob → Ob → Ob → Ob → Ob → Ob → Ob → Ob → Ob → Int64 → Ad → Ad → Int32 → Option (Int32)) (Xm : Ob) (tr : Int64) (Tx : Ob) (Rd : Ob) (Tk : Ob) (Pr : Ob) (Sg : Ob) (Ah : Ob) (Tn : Ob) (Yi : Ob) (Im0 : Ob) (Im1 : Ob) (Yt : Ob) (Yr : Ob) (Md : Ob) (mt : Int64) (aYt : Ad) (aYr : Ad) (x3 : Int32) : Option (Int32) :=
  zs_ck (x3 + (1 : Int32)) L (zs_bd (F_X7_now Pr Yt (xs ((x3 + (1 : Int32))).toNatClampNeg)) (fun r153 => zs_ck (x3 + (1 : Int32)) L (zs_bd (F_X8_now Md (xs ((x3 + (1 : Int32))).toNatClampNeg)) (fun r156 => (if r153 = r156 then (F_L_law_824 xs L r18 Xm tr Tx Rd Tk Pr Sg Ah Tn Yi Im0 Im1 Yt Yr Md mt aYt aYr x3) else some (0 : Int32))))))
noncomputable def F_L_law_382 (xs : Nat → Int32) (L : Nat) (r18 : Ob → Int64 → Ob → Ob → Ob → Ob → Ob → Ob → Ob → Ob → Ob → Ob → Ob → Ob → Ob → Int64 → Ad → Ad → Int32 → Option (Int32)) (Xm : Ob) (tr : Int64) (Tx : Ob) (Rd : Ob) (Tk : Ob) (Pr : Ob) (Sg : Ob) (Ah : Ob) (Tn : Ob) (Yi : Ob) (Im0 : Ob) (Im1 : Ob) (Yt : Ob) (Yr : Ob) (Md : Ob) (mt : Int64) (aYt : Ad) (aYr : Ad) (x3 : Int32) : Option (Int32) :=
  zs_b2 (F_X7_undo Pr) (fun r159 Prw160 => zs_b2 (F_X8_undo Md) (fun r162 Mdw163 => (if r159 = r162 then (F_L_law_824 xs L r18 Xm tr Tx Rd Tk Prw160 Sg Ah Tn Yi Im0 Im1 Yt Yr Mdw163 mt aYt aYr x3) else some (0 : Int32))))
noncomputable def F_L_law_349 (xs : Nat → Int32) (L : Nat) (r18 : Ob → Int64 → Ob → Ob → Ob → Ob → Ob → Ob → Ob → Ob → Ob → Ob → Ob → Ob → Ob → Int64 → Ad → Ad → Int32 → Option (Int32)) (Xm : Ob) (tr : Int64) (Tx : Ob) (Rd : Ob) (Tk : Ob) (Pr : Ob) (Sg : Ob) (Ah : Ob) (Tn : Ob) (Yi : Ob) (Im0 : Ob) (Im1 : Ob) (Yt : Ob) (Yr : Ob) (Md : Ob) (mt : Int64) (aYt : Ad) (aYr : Ad) (x3 : Int32) : Option (Int32) :=
  zs_ck (x3 + (1 : Int32)) L (zs_ck (x3 + (2 : Int32)) L (zs_b2 (F_X7_mirror Pr Yt (xs ((x3 + (1 : Int32))).toNatClampNeg) (xs ((x3 + (2 : Int32))).toNatClampNeg)) (fun r168 Prw169 => zs_ck (x3 + (1 : Int32)) L (zs_ck (x3 + (2 : Int32)) L (zs_b2 (F_X8_mirror Md (xs ((x3 + (1 : Int32))).toNatClampNeg) (xs ((x3 + (2 : Int32))).toNatClampNeg)) (fun r173 Mdw174 => (if r168 = r173 then (F_L_law_824 xs L r18 Xm tr Tx Rd Tk Prw169 Sg Ah Tn Yi Im0 Im1 Yt Yr Mdw174 mt aYt aYr x3) else some (0 : Int32))))))))
noncomputable def F_L_law_316 (xs : Nat → Int32) (L : Nat) (r18 : Ob → Int64 → Ob → Ob → Ob → Ob → Ob → Ob → Ob → Ob → Ob → Ob → Ob → Ob → Ob → Int64 → Ad → Ad → Int32 → Option (Int32)) (Xm : Ob) (tr : Int64) (Tx : Ob) (Rd : Ob) (Tk : Ob) (Pr : Ob) (Sg : Ob) (Ah : Ob) (Tn : Ob) (Yi : Ob) (Im0 : Ob) (Im1 : Ob) (Yt : Ob) (Yr : Ob) (Md : Ob) (mt : Int64) (aYt : Ad) (aYr : Ad) (x3 : Int32) : Option (Int32) :=
  zs_ck (x3 + (1 : Int32)) L (zs_ck (x3 + (2 : Int32)) L (zs_b2 (F_X7_shut Pr Yt (xs ((x3 + (1 : Int32))).toNatClampNeg) (xs ((x3 + (2 : Int32))).toNatClampNeg)) (fun r179 Prw180 => zs_ck (x3 + (1 : Int32)) L (zs_ck (x3 + (2 : Int32)) L (zs_b2 (F_X8_shut Md (xs ((x3 + (1 : Int32))).toNatClampNeg) (xs ((x3 + (2 : Int32))).toNatClampNeg)) (fun r184 Mdw185 => (if r179 = r184 then (F_L_law_824 xs L r18 Xm tr Tx Rd Tk Prw180 Sg Ah Tn Yi Im0 Im1 Yt Yr Mdw185 mt aYt aYr x3) else some (0 : Int32))))))))
noncomputable def F_L_law_303 (xs : Nat → Int32) (L : Nat) (r18 : Ob → Int64 → Ob → Ob → Ob → Ob → Ob → Ob → Ob → Ob → Ob → Ob → Ob → Ob → Ob → Int64 → Ad → Ad → Int32 → Option (Int32)) (Xm : Ob) (tr : Int64) (Tx : Ob) (Rd : Ob) (Tk : Ob) (Pr : Ob) (Sg : Ob) (Ah : Ob) (Tn : Ob) (Yi : Ob) (Im0 : Ob) (Im1 : Ob) (Yt : Ob) (Yr : Ob) (Md : Ob) (mt : Int64) (aYt : Ad) (aYr : Ad) (x3 : Int32) : Option (Int32) :=
  zs_b2 (F_X7_hour Pr Yt) (fun r188 Prw189 => zs_b2 (F_X8_hour Md) (fun r191 Mdw192 => (if r188 = r191 then (F_L_law_824 xs L r18 Xm tr Tx Rd Tk Prw189 Sg Ah Tn Yi Im0 Im1 Yt Yr Mdw192 mt aYt aYr x3) else some (0 : Int32))))
noncomputable def F_L_law_270 (xs : Nat → Int32) (L : Nat) (r18 : Ob → Int64 → Ob → Ob → Ob → Ob → Ob → Ob → Ob → Ob → Ob → Ob → Ob → Ob → Ob → Int64 → Ad → Ad → Int32 → Option (Int32)) (Xm : Ob) (tr : Int64) (Tx : Ob) (Rd : Ob) (Tk : Ob) (Pr : Ob) (Sg : Ob) (Ah : Ob) (Tn : Ob) (Yi : Ob) (Im0 : Ob) (Im1 : Ob) (Yt : Ob) (Yr : Ob) (Md : Ob) (mt : Int64) (aYt : Ad) (aYr : Ad) (x3 : Int32) : Option (Int32) :=
  zs_ck (x3 + (1 : Int32)) L (zs_ck (x3 + (2 : Int32)) L (zs_bd (F_X7_sees Yt (xs ((x3 + (1 : Int32))).toNatClampNeg) (xs ((x3 + (2 : Int32))).toNatClampNeg)) (fun r197 => zs_ck (x3 + (1 : Int32)) L (zs_ck (x3 + (2 : Int32)) L (zs_bd (F_X8_sees Md (xs ((x3 + (1 : Int32))).toNatClampNeg) (xs ((x3 + (2 : Int32))).toNatClampNeg)) (fun r201 => (if r197 = r201 then (F_L_law_824 xs L r18 Xm tr Tx Rd Tk Pr Sg Ah Tn Yi Im0 Im1 Yt Yr Md mt aYt aYr x3) else some (0 : Int32))))))))
noncomputable def F_L_law_237 (xs : Nat → Int32) (L : Nat) (r18 : Ob → Int64 → Ob → Ob → Ob → Ob → Ob → Ob → Ob → Ob → Ob → Ob → Ob → Ob → Ob → Int64 → Ad → Ad → Int32 → Option (Int32)) (Xm : Ob) (tr : Int64) (Tx : Ob) (Rd : Ob) (Tk : Ob) (Pr : Ob) (Sg : Ob) (Ah : Ob) (Tn : Ob) (Yi : Ob) (Im0 : Ob) (Im1 : Ob) (Yt : Ob) (Yr : Ob) (Md : Ob) (mt : Int64) (aYt : Ad) (aYr : Ad) (x3 : Int32) : Option (Int32) :=
  zs_ck (x3 + (1 : Int32)) L (zs_ck (x3 + (2 : Int32)) L (zs_bd (F_X7_wall Pr Yt (xs ((x3 + (1 : Int32))).toNatClampNeg) (xs ((x3 + (2 : Int32))).toNatClampNeg)) (fun r206 => zs_ck (x3 + (1 : Int32)) L (zs_ck (x3 + (2 : Int32)) L (zs_bd (F_X8_wall Md (xs ((x3 + (1 : Int32))).toNatClampNeg) (xs ((x3 + (2 : Int32))).toNatClampNeg)) (fun r210 => (if r206 = r210 then (F_L_law_824 xs L r18 Xm tr Tx Rd Tk Pr Sg Ah Tn Yi Im0 Im1 Yt Yr Md mt aYt aYr x3) else some (0 : Int32))))))))
noncomputable def F_L_law_224 (xs : Nat → Int32) (L : Nat) (r18 : Ob → Int64 → Ob → Ob → Ob → Ob → Ob → Ob → Ob → Ob → Ob → Ob → Ob → Ob → Ob → Int64 → Ad → Ad → Int32 → Option (Int32)) (Xm : Ob) (tr : Int64) (Tx : Ob) (Rd : Ob) (Tk : Ob) (Pr : Ob) (Sg : Ob) (Ah : Ob) (Tn : Ob) (Yi : Ob) (Im0 : Ob) (Im1 : Ob) (Yt : Ob) (Yr : Ob) (Md : Ob) (mt : Int64) (aYt : Ad) (aYr : Ad) (x3 : Int32) : Option (Int32) :=
  zs_b11 (F_X7_walls Xm Tx Rd Tk Pr Sg Yt Yr aYt aYr) (fun r213 Xmw214 Txw215 Rdw216 Tkw217 Prw218 Sgw219 Ytw220 Yrw221 ad222 ad223 => zs_b2 (F_X8_walls Md) (fun r225 Mdw226 => (if r213 = r225 then (F_L_law_824 xs L r18 Xmw214 tr Txw215 Rdw216 Tkw217 Prw218 Sgw219 Ah Tn Yi Im0 Im1 Ytw220 Yrw221 Mdw226 mt ad222 ad223 x3) else some (0 : Int32))))
noncomputable def F_L_law_211 (xs : Nat → Int32) (L : Nat) (r18 : Ob → Int64 → Ob → Ob → Ob → Ob → Ob → Ob → Ob → Ob → Ob → Ob → Ob → Ob → Ob → Int64 → Ad → Ad → Int32 → Option (Int32)) (Xm : Ob) (tr : Int64) (Tx : Ob) (Rd : Ob) (Tk : Ob) (Pr : Ob) (Sg : Ob) (Ah : Ob) (Tn : Ob) (Yi : Ob) (Im0 : Ob) (Im1 : Ob) (Yt : Ob) (Yr : Ob) (Md : Ob) (mt : Int64) (aYt : Ad) (aYr : Ad) (x3 : Int32) : Option (Int32) :=
  zs_b2 (F_X7_clear Tx) (fun r229 Txw230 => zs_b2 (F_X8_clear Md) (fun r232 Mdw233 => (if r229 = r232 then (F_L_law_824 xs L r18 Xm tr Txw230 Rd Tk Pr Sg Ah Tn Yi Im0 Im1 Yt Yr Mdw233 mt aYt aYr x3) else some (0 : Int32))))
noncomputable def F_L_law_148 (xs : Nat → Int32) (L : Nat) (r18 : Ob → Int64 → Ob → Ob → Ob → Ob → Ob → Ob → Ob → Ob → Ob → Ob → Ob → Ob → Ob → Int64 → Ad → Ad → Int32 → Option (Int32)) (Xm : Ob) (tr : Int64) (Tx : Ob) (Rd : Ob) (Tk : Ob) (Pr : Ob) (Sg : Ob) (Ah : Ob) (Tn : Ob) (Yi : Ob) (Im0 : Ob) (Im1 : Ob) (Yt : Ob) (Yr : Ob) (Md : Ob) (mt : Int64) (aYt : Ad) (aYr : Ad) (x3 : Int32) : Option (Int32) :=
  zs_ck (x3 + (1 : Int32)) L (zs_ck (x3 + (2 : Int32)) L (zs_ck (x3 + (3 : Int32)) L (zs_b2 (F_X7_type Tx (((((xs ((x3 + (1 : Int32))).toNatClampNeg)).toInt64) <<< (((32 : Int32)).toInt64 &&& 63)) ||| ((((xs ((x3 + (2 : Int32))).toNatClampNeg)).toInt64) &&& (4294967295 : Int64))) (xs ((x3 + (3 : Int32))).toNatClampNeg)) (fun r239 Txw240 => zs_ck (x3 + (1 : Int32)) L (zs_ck (x3 + (2 : Int32)) L (zs_ck (x3 + (3 : Int32)) L (zs_b2 (F_X8_type Md (((((xs ((x3 + (1 : Int32))).toNatClampNeg)).toInt64) <<< (((32 : Int32)).toInt64 &&& 63)) ||| ((((xs ((x3 + (2 : Int32))).toNatClampNeg)).toInt64) &&& (4294967295 : Int64))) (xs ((x3 + (3 : Int32))).toNatClampNeg)) (fun r245 Mdw246 => (if r239 = r245 then (F_L_law_824 xs L r18 Xm tr Txw240 Rd Tk Pr Sg Ah Tn Yi Im0 Im1 Yt Yr Mdw246 mt aYt aYr x3) else some (0 : Int32))))))))))
noncomputable def F_L_law_18_s (xs : Nat → Int32) (L : Nat) (rec : Ob → Int64 → Ob → Ob → Ob → Ob → Ob → Ob → Ob → Ob → Ob → Ob → Ob → Ob → Ob → Int64 → Ad → Ad → Int32 → Option (Int32)) (Xm : Ob) (tr : Int64) (Tx : Ob) (Rd : Ob) (Tk : Ob) (Pr : Ob) (Sg : Ob) (Ah : Ob) (Tn : Ob) (Yi : Ob) (Im0 : Ob) (Im1 : Ob) (Yt : Ob) (Yr : Ob) (Md : Ob) (mt : Int64) (aYt : Ad) (aYr : Ad) (x3 : Int32) : Option (Int32) :=
  (if ((Int32.ofNat L) - (4 : Int32)) < x3 then some (1 : Int32) else zs_ck x3 L ((if ((xs (x3).toNatClampNeg) &&& (31 : Int32)) = (0 : Int32) then (F_L_law_148 xs L rec Xm tr Tx Rd Tk Pr Sg Ah Tn Yi Im0 Im1 Yt Yr Md mt aYt aYr x3) else (if ((xs (x3).toNatClampNeg) &&& (31 : Int32)) = (1 : Int32) then (F_L_law_211 xs L rec Xm tr Tx Rd Tk Pr Sg Ah Tn Yi Im0 Im1 Yt Yr Md mt aYt aYr x3) else (if ((xs (x3).toNatClampNeg) &&& (31 : Int32)) = (2 : Int32) then (F_L_law_224 xs L rec Xm tr Tx Rd Tk Pr Sg Ah Tn Yi Im0 Im1 Yt Yr Md mt aYt aYr x3) else (if ((xs (x3).toNatClampNeg) &&& (31 : Int32)) = (3 : Int32) then (F_L_law_237 xs L rec Xm tr Tx Rd Tk Pr Sg Ah Tn Yi Im0 Im1 Yt Yr Md mt aYt aYr x3) else (if ((xs (x3).toNatClampNeg) &&& (31 : Int32)) = (4 : Int32) then (F_L_law_270 xs L rec Xm tr Tx Rd Tk Pr Sg Ah Tn Yi Im0 Im1 Yt Yr Md mt aYt aYr x3) else (if ((xs (x3).toNatClampNeg) &&& (31 : Int32)) = (5 : Int32) then (F_L_law_303 xs L rec Xm tr Tx Rd Tk Pr Sg Ah Tn Yi Im0 Im1 Yt Yr Md mt aYt aYr x3) else (if ((xs (x3).toNatClampNeg) &&& (31 : Int32)) = (6 : Int32) then (F_L_law_316 xs L rec Xm tr Tx Rd Tk Pr Sg Ah Tn Yi Im0 Im1 Yt Yr Md mt aYt aYr x3) else (if ((xs (x3).toNatClampNeg) &&& (31 : Int32)) = (7 : Int32) then (F_L_law_349 xs L rec Xm tr Tx Rd Tk Pr Sg Ah Tn Yi Im0 Im1 Yt Yr Md mt aYt aYr x3) else (if ((xs (x3).toNatClampNeg) &&& (31 : Int32)) = (8 : Int32) then (F_L_law_382 xs L rec Xm tr Tx Rd Tk Pr Sg Ah Tn Yi Im0 Im1 Yt Yr Md mt aYt aYr x3) else (if ((xs (x3).toNatClampNeg) &&& (31 : Int32)) = (9 : Int32) then (F_L_law_395 xs L rec Xm tr Tx Rd Tk Pr Sg Ah Tn Yi Im0 Im1 Yt Yr Md mt aYt aYr x3) else (if ((xs (x3).toNatClampNeg) &&& (31 : Int32)) = (10 : Int32) then (F_L_law_418 xs L rec Xm tr Tx Rd Tk Pr Sg Ah Tn Yi Im0 Im1 Yt Yr Md mt aYt aYr x3) else (if ((xs (x3).toNatClampNeg) &&& (31 : Int32)) = (11 : Int32) then (F_L_law_451 xs L rec Xm tr Tx Rd Tk Pr Sg Ah Tn Yi Im0 Im1 Yt Yr Md mt aYt aYr x3) else (if ((xs (x3).toNatClampNeg) &&& (31 : Int32)) = (12 : Int32) then (F_L_law_474 xs L rec Xm tr Tx Rd Tk Pr Sg Ah Tn Yi Im0 Im1 Yt Yr Md mt aYt aYr x3) else (if ((xs (x3).toNatClampNeg) &&& (31 : Int32)) = (13 : Int32) then (F_L_law_487 xs L rec Xm tr Tx Rd Tk Pr Sg Ah Tn Yi Im0 Im1 Yt Yr Md mt aYt aYr x3) else (if ((xs (x3).toNatClampNeg) &&& (31 : Int32)) = (14 : Int32) then (F_L_law_520 xs L rec Xm tr Tx Rd Tk Pr Sg Ah Tn Yi Im0 Im1 Yt Yr Md mt aYt aYr x3) else (if ((xs (x3).toNatClampNeg) &&& (31 : Int32)) = (15 : Int32) then (F_L_law_553 xs L rec Xm tr Tx Rd Tk Pr Sg Ah Tn Yi Im0 Im1 Yt Yr Md mt aYt aYr x3) else (if ((xs (x3).toNatClampNeg) &&& (31 : Int32)) = (16 : Int32) then (F_L_law_596 xs L rec Xm tr Tx Rd Tk Pr Sg Ah Tn Yi Im0 Im1 Yt Yr Md mt aYt aYr x3) else (if ((xs (x3).toNatClampNeg) &&& (31 : Int32)) = (17 : Int32) then (F_L_law_629 xs L rec Xm tr Tx Rd Tk Pr Sg Ah Tn Yi Im0 Im1 Yt Yr Md mt aYt aYr x3) else (if ((xs (x3).toNatClampNeg) &&& (31 : Int32)) = (18 : Int32) then (F_L_law_672 xs L rec Xm tr Tx Rd Tk Pr Sg Ah Tn Yi Im0 Im1 Yt Yr Md mt aYt aYr x3) else (if ((xs (x3).toNatClampNeg) &&& (31 : Int32)) = (19 : Int32) then (F_L_law_685 xs L rec Xm tr Tx Rd Tk Pr Sg Ah Tn Yi Im0 Im1 Yt Yr Md mt aYt aYr x3) else (if ((xs (x3).toNatClampNeg) &&& (31 : Int32)) = (20 : Int32) then (F_L_law_708 xs L rec Xm tr Tx Rd Tk Pr Sg Ah Tn Yi Im0 Im1 Yt Yr Md mt aYt aYr x3) else (if ((xs (x3).toNatClampNeg) &&& (31 : Int32)) = (21 : Int32) then (F_L_law_741 xs L rec Xm tr Tx Rd Tk Pr Sg Ah Tn Yi Im0 Im1 Yt Yr Md mt aYt aYr x3) else (if ((xs (x3).toNatClampNeg) &&& (31 : Int32)) = (22 : Int32) then (F_L_law_764 xs L rec Xm tr Tx Rd Tk Pr Sg Ah Tn Yi Im0 Im1 Yt Yr Md mt aYt aYr x3) else (if ((xs (x3).toNatClampNeg) &&& (31 : Int32)) = (23 : Int32) then (F_L_law_787 xs L rec Xm tr Tx Rd Tk Pr Sg Ah Tn Yi Im0 Im1 Yt Yr Md mt aYt aYr x3) else (if ((xs (x3).toNatClampNeg) &&& (31 : Int32)) = (24 : Int32) then (F_L_law_810 xs L rec Xm tr Tx Rd Tk Pr Sg Ah Tn Yi Im0 Im1 Yt Yr Md mt aYt aYr x3) else (F_L_law_824 xs L rec Xm tr Tx Rd Tk Pr Sg Ah Tn Yi Im0 Im1 Yt Yr Md mt aYt aYr x3))))))))))))))))))))))))))))
noncomputable def F_L_law_18 (xs : Nat → Int32) (L : Nat) (n : Nat) : Ob → Int64 → Ob → Ob → Ob → Ob → Ob → Ob → Ob → Ob → Ob → Ob → Ob → Ob → Ob → Int64 → Ad → Ad → Int32 → Option (Int32) := zs_fix (fun _ _ _ _ _ _ _ _ _ _ _ _ _ _ _ _ _ _ _ => none) (F_L_law_18_s xs L) n
theorem F_L_law_18_z (xs : Nat → Int32) (L : Nat) (Xm : Ob) (tr : Int64) (Tx : Ob) (Rd : Ob) (Tk : Ob) (Pr : Ob) (Sg : Ob) (Ah : Ob) (Tn : Ob) (Yi : Ob) (Im0 : Ob) (Im1 : Ob) (Yt : Ob) (Yr : Ob) (Md : Ob) (mt : Int64) (aYt : Ad) (aYr : Ad) (x3 : Int32) : F_L_law_18 xs L 0 Xm tr Tx Rd Tk Pr Sg Ah Tn Yi Im0 Im1 Yt Yr Md mt aYt aYr x3 = none := rfl
theorem F_L_law_18_n (xs : Nat → Int32) (L : Nat) (n : Nat) (Xm : Ob) (tr : Int64) (Tx : Ob) (Rd : Ob) (Tk : Ob) (Pr : Ob) (Sg : Ob) (Ah : Ob) (Tn : Ob) (Yi : Ob) (Im0 : Ob) (Im1 : Ob) (Yt : Ob) (Yr : Ob) (Md : Ob) (mt : Int64) (aYt : Ad) (aYr : Ad) (x3 : Int32) : F_L_law_18 xs L (n + 1) Xm tr Tx Rd Tk Pr Sg Ah Tn Yi Im0 Im1 Yt Yr Md mt aYt aYr x3 = F_L_law_18_s xs L (F_L_law_18 xs L n) Xm tr Tx Rd Tk Pr Sg Ah Tn Yi Im0 Im1 Yt Yr Md mt aYt aYr x3 := rfl
