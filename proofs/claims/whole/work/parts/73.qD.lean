/-! ===== PURE 30: an item, all items ===== -/
/-- a token has been read: what both sides hold -/
def zG (z : Nat) (t : Nat → Nat) (Tk : Ob) (N k : Nat) (Rd M : Ob) : Prop := ∃ b S V W, b ≤ z ∧ S ≤ 4 ∧ Rd 0 1 = nI b ∧ Rd 0 2 = nI S ∧ M 0 3 = nI b ∧ M 0 4 = nI S ∧ (S = 1 → Rd 0 3 = nI V ∧ M 0 5 = nI W ∧ 1 ≤ V ∧ V ≤ 4 ∧ W + 1 = V) ∧ ((S = 1 ∨ S = 2 ∨ S = 3) → zY z t Tk N k Rd M)
theorem zG_read {z : Nat} {t : Nat → Nat} {Tk Rd M : Ob} {N k : Nat} (hN : N ≤ 251) (h3 : Tk 0 3 = nI N) (hS : zY z t Tk N k Rd M) : ∃ Rd' M', F_X2_readToken Rd Tk = some Rd' ∧ F_X8_reads M = some M' ∧ Rd' 0 5 = Rd 0 5 ∧ zH M M' ∧ k < N ∧ zG z t Tk N (k + 1) Rd' M' := by
  obtain ⟨m, p, hK, hR, h2, hM⟩ := hS
  have hkN : k < N := by
    cases m with
    | zero => exact hK.elim
    | succ m => rw [zw_K] at hK; exact hK.2.1
  obtain ⟨Rd', M', b, S, V, W, r0, m0, hb, hS4, r1, r2, r4, r5, m3, m4, t1, t2, nx, hM', f1, f2⟩ := zw_read hN h3 hK hR hM h2
  refine ⟨Rd', M', r0, m0, r5, ⟨f1, f2⟩, hkN, b, S, V, W, hb, hS4, r1, r2, m3, m4, t1, fun q => ?_⟩
  obtain ⟨m', e, k1, k2⟩ := nx q
  exact ⟨m', e, k1, r4, k2, hM'⟩
theorem zi_item {z : Nat} {t : Nat → Nat} {Tk Rd M Yd : Ob} {N k n : Nat} (hN : N ≤ 251) (h3 : Tk 0 3 = nI N) (hG : zG z t Tk N k Rd M) (hd : zd n Rd Yd M) : zI z t Tk N k n Yd M (F_X2_readItem Rd Tk Yd) (F_X8_readItem M) := by
  obtain ⟨b, S, V, W, g1, g2, g3, g4, g5, g6, g7, g8⟩ := hG
  have hf : zF z Rd M := ⟨b, g1, g3, g5⟩
  unfold F_X2_readItem F_X8_readItem
  simp only [zp_let]
  rw [g4, g6]
  by_cases q : S = 1
  · subst q
    obtain ⟨w1, w2, w3, w4, w5⟩ := g7 rfl
    have hS := g8 (Or.inl rfl)
    rw [if_pos (show nI 1 = (1 : Int32) from rfl), if_pos (show nI 1 = (1 : Int32) from rfl), w1, w2]
    have wrap : ∀ (cR : Option (Int32 × (Ob × Ob))) (mR : Option (Int32 × Ob)), zI z t Tk N k n Yd M cR mR → zI z t Tk N k n Yd M (zs_b3 cR (fun r3 Rdw4 Ydw5 => zs_bl r3 (some (r3, (Rdw4, Ydw5))))) mR := by
      intro cR mR h
      obtain ⟨R', Y', M', x1, x2, x3⟩ := h
      refine ⟨R', Y', M', x1, x2, ?_⟩
      rcases x3 with ⟨k', n', y1, y2, y3, y4, y5⟩ | ⟨y1, y2⟩
      · exact Or.inl ⟨k', n', y1, by rw [y2, zp_b3, zp_bl (Or.inr rfl)], y3, y4, y5⟩
      · exact Or.inr ⟨by rw [y1, zp_b3, zp_bl (Or.inl rfl)], y2⟩
    rcases (show (V = 1 ∧ W = 0) ∨ (V = 2 ∧ W = 1) ∨ (V = 3 ∧ W = 2) ∨ (V = 4 ∧ W = 3) by omega) with ⟨rfl, rfl⟩ | ⟨rfl, rfl⟩ | ⟨rfl, rfl⟩ | ⟨rfl, rfl⟩
    · rw [if_pos (show nI 1 = (1 : Int32) from rfl), if_pos (show nI 0 = (0 : Int32) from rfl)]
      exact wrap _ _ (zi_wall hN h3 hS hd hf)
    · rw [if_neg (show ¬ nI 2 = (1 : Int32) by decide), if_pos (show nI 2 = (2 : Int32) from rfl), if_neg (show ¬ nI 1 = (0 : Int32) by decide)]
      exact wrap _ _ (zi_sees hN h3 hS hd hf)
    · rw [if_neg (show ¬ nI 3 = (1 : Int32) by decide), if_neg (show ¬ nI 3 = (2 : Int32) by decide), if_pos (show nI 3 = (3 : Int32) from rfl), if_neg (show ¬ nI 2 = (0 : Int32) by decide)]
      exact wrap _ _ (zi_work hN h3 hS hd hf)
    · rw [if_neg (show ¬ nI 4 = (1 : Int32) by decide), if_neg (show ¬ nI 4 = (2 : Int32) by decide), if_neg (show ¬ nI 4 = (3 : Int32) by decide), if_pos (show nI 4 = (4 : Int32) from rfl), if_neg (show ¬ nI 3 = (0 : Int32) by decide)]
      exact wrap _ _ (zi_limit hN h3 hS hd hf)
  · have hne : ¬ nI S = (1 : Int32) := fun k => q ((nI_eq (a := S) (b := 1) (by omega) (by decide)).mp k)
    rw [if_neg hne, if_neg hne]
    exact ⟨_, _, M, zU_r M, hf, Or.inr ⟨rfl, rfl⟩⟩
/-- all items: both sides come to the end, or both to the same fault -/
theorem zi_all {z : Nat} {t : Nat → Nat} {Tk Tx : Ob} {N : Nat} (hN : N ≤ 251) (h3 : Tk 0 3 = nI N) (hz : z ≤ 250) : ∀ (j i k : Nat), k + j = N + 1 → i < k → k ≤ N → ∀ f f', j < f → j < f' → ∀ (Rd Yd M : Ob) (n : Nat), zG z t Tk N k Rd M → zd n Rd Yd M → ∃ Rd' Yd' M', zU M M' ∧ ((∃ i' n', i' < 251 ∧ F_X2_readInto_28 Tx f Rd Tk Yd (nI i) = some (nI i', (Rd', (Tk, Yd'))) ∧ F_X8_walls_42 f' M (nI i) = F_X8_walls_74 M' (nI i') ∧ zd n' Rd' Yd' M') ∨ (∃ b, b ≤ z ∧ F_X2_readInto_28 Tx f Rd Tk Yd (nI i) = some ((-10 : Int32) - nI b, (Rd', (Tk, Yd'))) ∧ F_X8_walls_42 f' M (nI i) = some ((-10 : Int32) - nI b, M'))) := by
  intro j
  induction j using Nat.strongRecOn with
  | ind j ih =>
    intro i k hj hik hkN f f' hf hf' Rd Yd M n hG hd
    obtain ⟨f, rfl⟩ := zp_f1 (show 0 < f by omega)
    obtain ⟨f', rfl⟩ := zp_f1 (show 0 < f' by omega)
    have hG' := hG
    obtain ⟨b, S, V, W, g1, g2, g3, g4, g5, g6, -⟩ := hG'
    rw [F_X2_readInto_28_n, F_X8_walls_42_n]; unfold F_X2_readInto_28_s F_X8_walls_42_s
    rw [g4, g6]
    by_cases q : S = 0
    · subst q
      rw [if_pos (show nI 0 = (0 : Int32) from rfl), if_pos (show nI 0 = (0 : Int32) from rfl)]
      exact ⟨Rd, Yd, M, zU_r M, Or.inl ⟨i, n, by omega, rfl, rfl, hd⟩⟩
    · have hne : ¬ nI S = (0 : Int32) := fun k => q ((nI_eq (a := S) (b := 0) (by omega) (by decide)).mp k)
      rw [if_neg hne, if_neg hne, if_neg (show ¬ (251 : Int32) ≤ nI i from nI_ge (a := i) (b := 251) (by omega) (by decide))]
      obtain ⟨R1, Y1, M1, x1, x2, x3⟩ := zi_item hN h3 hG hd
      rcases x3 with ⟨k', n', y1, y2, y3, y4, y5⟩ | ⟨y1, y2⟩
      · rw [y2, y3, zp_b3, zp_b2, zp_i1, zp_i1]
        simp only [zp_let]
        obtain ⟨R2, M2, r0, m0, r5, m5, hkN', hG2⟩ := zG_read hN h3 y5
        rw [r0, m0, zp_bd, zp_bd, zp_1]
        obtain ⟨R3, Y3, M3, u1, u2⟩ := ih (N + 1 - (k' + 1)) (by omega) (i + 1) (k' + 1) (by omega) (by omega) (by omega) f f' (by omega) (by omega) R2 Y1 M2 n' hG2 (zd_H y4 m5 r5)
        exact ⟨R3, Y3, M3, zU_t x1 (zU_t (zH_U m5) u1), u2⟩
      · rw [y1, y2, zp_b3, zp_b2, zp_i0, zp_i0]
        unfold F_X2_readInto_50 F_X8_walls_56
        obtain ⟨b', b1, b2, b3⟩ := x2
        rw [b2, b3]
        exact ⟨R1, Y1, M1, x1, Or.inr ⟨b', b1, rfl, rfl⟩⟩
