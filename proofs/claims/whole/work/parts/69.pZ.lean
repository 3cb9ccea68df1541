/-! ===== PURE 26: what an item reads ===== -/
def zY (z : Nat) (t : Nat → Nat) (Tk : Ob) (N k : Nat) (Rd M : Ob) : Prop := ∃ m p, zw_K z t Tk N m k p ∧ Rd 0 4 = nI k ∧ M 0 2 = nI p ∧ zwm z t M
def zF (z : Nat) (Rd M : Ob) : Prop := ∃ b, b ≤ z ∧ Rd 0 1 = nI b ∧ M 0 3 = nI b
def zH (M M' : Ob) : Prop := (∀ j, j ≠ 2 → j ≠ 3 → j ≠ 4 → j ≠ 5 → M' 0 j = M 0 j) ∧ (∀ c, c ≠ 0 → M' c = M c)
theorem zH_r (M : Ob) : zH M M := ⟨fun _ _ _ _ _ => rfl, fun _ _ => rfl⟩
theorem zH_t {M M' M'' : Ob} (h : zH M M') (k : zH M' M'') : zH M M'' := ⟨fun j a b c d => by rw [k.1 j a b c d, h.1 j a b c d], fun c hc => by rw [k.2 c hc, h.2 c hc]⟩
theorem zw_number {z : Nat} {t : Nat → Nat} {Tk Rd M : Ob} {N k : Nat} (hN : N ≤ 251) (h3 : Tk 0 3 = nI N) (hS : zY z t Tk N k Rd M) (lo hi : Int32) : ∃ Rd' M', Rd' 0 5 = Rd 0 5 ∧ zH M M' ∧ zwm z t M' ∧ ((∃ v, v ≤ 99 ∧ F_X2_readNumber Rd Tk lo hi = some (1, Rd') ∧ F_X8_number M lo hi = some (nI v, M') ∧ Rd' 0 3 = nI v ∧ lo ≤ nI v ∧ nI v ≤ hi ∧ zY z t Tk N (k + 1) Rd' M') ∨ (F_X2_readNumber Rd Tk lo hi = some (0, Rd') ∧ F_X8_number M lo hi = some (-1, M'))) ∧ zF z Rd' M' := by
  obtain ⟨m, p, hK, hR, h2, hM⟩ := hS
  obtain ⟨Rd', M', b, S, V, W, r0, m0, hb, hS4, r1, r2, r4, r5, m3, m4, t1, t2, nx, hM', f1, f2⟩ := zw_read hN h3 hK hR hM h2
  refine ⟨Rd', M', r5, ⟨f1, f2⟩, hM', ?_, ⟨b, hb, r1, m3⟩⟩
  unfold F_X2_readNumber F_X8_number
  rw [r0, m0, zp_bd, zp_bd, r2, m4]
  by_cases q : S = 2
  · subst q
    obtain ⟨c1, c2, c3⟩ := t2 rfl
    rw [if_pos (show nI 2 = (2 : Int32) from rfl), if_pos (show nI 2 = (2 : Int32) from rfl), c1, c2, zq_in, zp_bd]
    by_cases l1 : nI V < lo
    · rw [if_pos l1, if_neg (show ¬ (lo ≤ nI V ∧ nI V ≤ hi) from fun q => by have := q.1; rw [Int32.lt_iff_toInt_lt] at l1; rw [Int32.le_iff_toInt_le] at this; omega), zp_i0]
      exact Or.inr ⟨rfl, rfl⟩
    · rw [if_neg l1]
      by_cases l2 : hi < nI V
      · rw [if_pos l2, if_neg (show ¬ (lo ≤ nI V ∧ nI V ≤ hi) from fun q => by have := q.2; rw [Int32.lt_iff_toInt_lt] at l2; rw [Int32.le_iff_toInt_le] at this; omega), zp_i0]
        exact Or.inr ⟨rfl, rfl⟩
      · have l3 : lo ≤ nI V := by rw [Int32.lt_iff_toInt_lt] at l1; rw [Int32.le_iff_toInt_le]; omega
        have l4 : nI V ≤ hi := by rw [Int32.lt_iff_toInt_lt] at l2; rw [Int32.le_iff_toInt_le]; omega
        rw [if_neg l2, if_pos (show lo ≤ nI V ∧ nI V ≤ hi from ⟨l3, l4⟩), zp_i1]
        obtain ⟨m', e, k1, k2⟩ := nx (Or.inr (Or.inl rfl))
        exact Or.inl ⟨V, c3, rfl, rfl, rfl, l3, l4, m', e, k1, r4, k2, hM'⟩
  · have hne : ¬ nI S = (2 : Int32) := fun k => q ((nI_eq (a := S) (b := 2) (by omega) (by decide)).mp k)
    rw [if_neg hne, if_neg hne]
    exact Or.inr ⟨rfl, rfl⟩
theorem zw_semi {z : Nat} {t : Nat → Nat} {Tk Rd M : Ob} {N k : Nat} (hN : N ≤ 251) (h3 : Tk 0 3 = nI N) (hS : zY z t Tk N k Rd M) : ∃ Rd' M', Rd' 0 5 = Rd 0 5 ∧ zH M M' ∧ zwm z t M' ∧ ((F_X2_readSemicolon Rd Tk = some (1, Rd') ∧ F_X8_readItem_110 M 1 = some (1, M') ∧ zY z t Tk N (k + 1) Rd' M') ∨ (F_X2_readSemicolon Rd Tk = some (0, Rd') ∧ F_X8_readItem_110 M 1 = some (0, M'))) ∧ zF z Rd' M' := by
  obtain ⟨m, p, hK, hR, h2, hM⟩ := hS
  obtain ⟨Rd', M', b, S, V, W, r0, m0, hb, hS4, r1, r2, r4, r5, m3, m4, t1, t2, nx, hM', f1, f2⟩ := zw_read hN h3 hK hR hM h2
  refine ⟨Rd', M', r5, ⟨f1, f2⟩, hM', ?_, ⟨b, hb, r1, m3⟩⟩
  unfold F_X2_readSemicolon F_X8_readItem_110
  rw [zp_i1, r0, m0, zp_bd, zp_bd, r2, m4]
  by_cases q : S = 3
  · subst q
    rw [if_pos (show nI 3 = (3 : Int32) from rfl), if_pos (show nI 3 = (3 : Int32) from rfl)]
    obtain ⟨m', e, k1, k2⟩ := nx (Or.inr (Or.inr rfl))
    exact Or.inl ⟨rfl, rfl, m', e, k1, r4, k2, hM'⟩
  · have hne : ¬ nI S = (3 : Int32) := fun k => q ((nI_eq (a := S) (b := 3) (by omega) (by decide)).mp k)
    rw [if_neg hne, if_neg hne]
    exact Or.inr ⟨rfl, rfl⟩
/-- the draft -/
def zd (n : Nat) (Rd Yd M : Ob) : Prop := (n ≤ 6 ∧ Yd 0 0 = nI n ∧ M 0 6 = nI n) ∧
  (∀ w, w < n → (∃ v, v ≤ 99 ∧ Yd 1 w = nI v ∧ M 2 w = nI v) ∧ (∃ r, r ≤ 9 ∧ Yd 2 w = nI r ∧ M 2 (6 + w) = nI r) ∧ (∃ k, k ≤ 20 ∧ Yd 3 w = nI k ∧ M 2 (12 + w) = nI k) ∧ Yd 4 w = M 2 (18 + w)) ∧
  (∀ w, n ≤ w → w < 6 → Yd 3 w = 0 ∧ Yd 4 w = 0) ∧
  (∃ p : Nat → Nat → Nat, (∀ i o, i < 6 → o < 6 → Yd 5 (6 * i + o) = nI (p i o) ∧ M 3 (6 * i + o) = nI (p i o) ∧ p i o = p o i) ∧ (∀ i, i < 6 → zp_sm (p i) 6 ≤ 10 ∧ Yd 6 i = nI (zp_sm (p i) 6))) ∧ zp_ag 6 (Yd 7) (fun _ => 0) ∧
  ((Rd 0 5 = 0 ∧ M 0 7 = -1 ∧ Yd 0 1 = 99) ∨ (Rd 0 5 = 1 ∧ ∃ l, l ≤ 99 ∧ M 0 7 = nI l ∧ Yd 0 1 = nI (10 * l + 9)))
theorem zd_H {n : Nat} {Rd Rd' Yd M M' : Ob} (h : zd n Rd Yd M) (k : zH M M') (r : Rd' 0 5 = Rd 0 5) : zd n Rd' Yd M' := by
  unfold zd at h ⊢
  rw [k.1 6 (by decide) (by decide) (by decide) (by decide), k.1 7 (by decide) (by decide) (by decide) (by decide), k.2 2 (by decide), k.2 3 (by decide), r]
  exact h
/-- all that a fault may change -/
def zU (M M' : Ob) : Prop := (∀ j, j = 1 ∨ 10 ≤ j → M' 0 j = M 0 j) ∧ (∀ c, c ≠ 0 → c ≠ 2 → c ≠ 3 → M' c = M c)
theorem zU_r (M : Ob) : zU M M := ⟨fun _ _ => rfl, fun _ _ _ _ => rfl⟩
theorem zU_t {M M' M'' : Ob} (h : zU M M') (k : zU M' M'') : zU M M'' := ⟨fun j a => by rw [k.1 j a, h.1 j a], fun c a b d => by rw [k.2 c a b d, h.2 c a b d]⟩
theorem zH_U {M M' : Ob} (h : zH M M') : zU M M' := ⟨fun j a => h.1 j (by omega) (by omega) (by omega) (by omega), fun c a _ _ => h.2 c a⟩
/-- an item read on both sides -/
def zI (z : Nat) (t : Nat → Nat) (Tk : Ob) (N k n : Nat) (Yd M : Ob) (cR : Option (Int32 × (Ob × Ob))) (mR : Option (Int32 × Ob)) : Prop := ∃ Rd' Yd' M', zU M M' ∧ zF z Rd' M' ∧ ((∃ k' n', k < k' ∧ cR = some (1, (Rd', Yd')) ∧ mR = some (1, M') ∧ zd n' Rd' Yd' M' ∧ zY z t Tk N k' Rd' M') ∨ (cR = some (0, (Rd', Yd')) ∧ mR = some (0, M')))
theorem zi_limit {z : Nat} {t : Nat → Nat} {Tk Rd M Yd : Ob} {N k n : Nat} (hN : N ≤ 251) (h3 : Tk 0 3 = nI N) (hS : zY z t Tk N k Rd M) (hd : zd n Rd Yd M) (hf : zF z Rd M) : zI z t Tk N k n Yd M (F_X2_readLimit Rd Tk Yd) (F_X8_readItem_26 M 3) := by
  unfold F_X2_readLimit F_X8_readItem_26
  rcases id hd.2.2.2.2.2 with ⟨l1, l2, l3⟩ | ⟨l1, l, l2, l3, l4⟩
  · rw [if_pos l1, if_pos rfl, l2, if_pos (by decide)]
    unfold F_X8_readItem_40 F_X8_readItem_79 F_X8_readItem_80 F_X8_readItem_109
    rw [if_neg (by decide), if_neg (by decide), if_neg (by decide), if_pos rfl]
    obtain ⟨R1, M1, n1, n2, n3, n4, n5⟩ := zw_number hN h3 hS 0 99
    have hM7 : ∀ v, (zs_up M1 0 7 v) 0 7 = v := fun v => zp_u3 _ _ _
    have hU1 : ∀ v, zU M (zs_up M1 0 7 v) := fun v => zU_t (zH_U n2) ⟨fun j a => by rw [zp_u4 _ _ (by omega)], fun c a _ _ => by rw [zp_u5 _ _ a]⟩
    rcases n4 with ⟨v, v1, v2, v3, v4, v5, v6, v7⟩ | ⟨v2, v3⟩
    · rw [v2, v3, zp_b2, zp_b2, zp_i1]
      simp only [zp_let]
      rw [hM7, if_neg (zp_nneg (by omega)), v4]
      have hS2 : zY z t Tk N (k + 1) R1 (zs_up M1 0 7 (nI v)) := by
        obtain ⟨m, p, a1, a2, a3, a4⟩ := v7
        exact ⟨m, p, a1, a2, by rw [zp_u4 _ _ (by decide), a3], a4.1, by rw [zp_u4 _ _ (by decide), a4.2.1], fun i hi => by rw [zp_u5 _ _ (by decide)]; exact a4.2.2 i hi⟩
      obtain ⟨R2, M2, s1, s2, s3, s4, s5⟩ := zw_semi hN h3 hS2
      rcases s4 with ⟨t1, t2, t3⟩ | ⟨t1, t2⟩
      · rw [t1, t2, zp_b2, zp_i1]
        unfold F_X6_setLimit
        simp only [zp_let]
        rw [zp_bd, show (10 : Int32) * nI v + 9 = nI (10 * v + 9) from by rw [show (10 : Int32) = nI 10 from rfl, pk_mul, show (9 : Int32) = nI 9 from rfl, nI_add]]
        refine ⟨_, _, M2, zU_t (hU1 _) (zH_U s2), ?_, Or.inl ⟨k + 1 + 1, n, by omega, rfl, rfl, ?_, ?_⟩⟩
        · obtain ⟨b, b1, b2, b3⟩ := s5
          exact ⟨b, b1, by rw [zp_u4 _ _ (by decide), b2], b3⟩
        · obtain ⟨⟨d1, d2, d3⟩, d4, d5, ⟨p, d6, d7⟩, d8, -⟩ := hd
          have e6 : M2 0 6 = M 0 6 := by rw [s2.1 6 (by decide) (by decide) (by decide) (by decide), zp_u4 _ _ (by decide), n2.1 6 (by decide) (by decide) (by decide) (by decide)]
          have e7 : M2 0 7 = nI v := by rw [s2.1 7 (by decide) (by decide) (by decide) (by decide), zp_u3]
          have e2 : M2 2 = M 2 := by rw [s2.2 2 (by decide), zp_u5 _ _ (by decide), n2.2 2 (by decide)]
          have e3 : M2 3 = M 3 := by rw [s2.2 3 (by decide), zp_u5 _ _ (by decide), n2.2 3 (by decide)]
          refine ⟨⟨d1, by rw [zp_u4 _ _ (by decide), d2], by rw [e6, d3]⟩, ?_, ?_, ⟨p, ?_, ?_⟩, ?_, Or.inr ⟨zp_u3 _ _ _, v, v1, e7, zp_u3 _ _ _⟩⟩
          · rw [e2]; simpa [zp_uD] using d4
          · simpa [zp_uD] using d5
          · rw [e3]; simpa [zp_uD] using d6
          · simpa [zp_uD] using d7
          · simpa [zp_uD] using d8
        · obtain ⟨m, p, a1, a2, a3, a4⟩ := t3
          exact ⟨m, p, a1, by rw [zp_u4 _ _ (by decide), a2], a3, a4⟩
      · rw [t1, t2, zp_b2, zp_i0]
        exact ⟨_, _, M2, zU_t (hU1 _) (zH_U s2), s5, Or.inr ⟨rfl, rfl⟩⟩
    · rw [v2, v3, zp_b2, zp_b2, zp_i0]
      simp only [zp_let]
      rw [hM7, if_pos (by decide)]
      unfold F_X8_readItem_110
      rw [zp_i0]
      refine ⟨_, _, _, hU1 _, ?_, Or.inr ⟨rfl, rfl⟩⟩
      obtain ⟨b, b1, b2, b3⟩ := n5
      exact ⟨b, b1, b2, by rw [zp_u4 _ _ (by decide), b3]⟩
  · rw [l1, zp_i1, if_pos rfl, l3, if_neg (zp_nneg (by omega))]
    exact ⟨_, _, M, zU_r M, hf, Or.inr ⟨rfl, rfl⟩⟩
