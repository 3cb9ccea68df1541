/-! ===== PURE 29: the item sees ===== -/
theorem zi_seen (M : Ob) {p : Nat → Nat → Nat} (hp : ∀ i o, i < 6 → o < 6 → M 3 (6 * i + o) = nI (p i o)) (w : Nat) (hw : w < 6) : F_X8_seen_readParts M (nI w) = some (nI (zp_sm (p w) 6)) :=
  zm_seen M hp w hw (F_X8_seen_readParts_5 M) (fun f x3 x4 => by rw [F_X8_seen_readParts_5_n]; rfl) 6 0 rfl 1000 (by omega)
theorem zi_120 (M : Ob) {a b : Nat} (ha : a < 6) (hb : b < 6) (x4 y0 y1 : Int32) : ∃ M', F_X8_readSees_120 M (nI a) (nI b) x4 y0 y1 (nI (6 * a + b)) = some (if x4 < 0 then 0 else 1, M') ∧ (∀ j, M' 0 j = M 0 j) ∧ (∀ c, c ≠ 3 → M' c = M c) ∧ M' 3 = upd (upd (M 3) (6 * a + b) (y1 + y0)) (6 * b + a) (y1 + y0) := by
  unfold F_X8_readSees_120
  rw [zp_ix1, zp_ix1, zp_ck (show 6 * a + b < 36 by omega) (by decide), nI_clamp (show 6 * a + b < 2 ^ 31 by omega), nI_clamp (show 6 * b + a < 2 ^ 31 by omega)]
  simp only [zp_let]
  rw [zp_ck (show 6 * a + b < 36 by omega) (by decide), zp_ck (show 6 * b + a < 36 by omega) (by decide)]
  have e : (zs_up M 3 (6 * a + b) (y1 + y0)) 3 (6 * a + b) = y1 + y0 := by simp [zp_uD, zp_upR]
  rw [e]
  refine ⟨zs_up (zs_up M 3 (6 * a + b) (y1 + y0)) 3 (6 * b + a) (y1 + y0), ?_, ?_, ?_, ?_⟩
  · by_cases q : x4 < 0
    · rw [if_pos q, if_pos q]
    · rw [if_neg q, if_neg q]
  · intro j; simp [zp_uD]
  · intro c hc; simp [zp_uD, hc]
  · simp [zp_uD]
theorem zi_sees {z : Nat} {t : Nat → Nat} {Tk Rd M Yd : Ob} {N k n : Nat} (hN : N ≤ 251) (h3 : Tk 0 3 = nI N) (hS : zY z t Tk N k Rd M) (hd : zd n Rd Yd M) (hf : zF z Rd M) : zI z t Tk N k n Yd M (F_X2_readSees Rd Tk Yd) (F_X8_readItem_26 M 1) := by
  obtain ⟨⟨d1, d2, d3⟩, d4, d5, ⟨p, d6, d7⟩, d8, d9⟩ := id hd
  have n0 : ∀ v, v < 2 ^ 31 → (0 : Int32) ≤ nI v := fun v hv => nI_le (a := 0) (b := v) (by omega) hv
  have m26 : F_X8_readItem_26 M 1 = zs_b2 (F_X8_readSees M) (fun r25 Mdw26 => F_X8_readItem_110 Mdw26 r25) := by
    unfold F_X8_readItem_26 F_X8_readItem_40 F_X8_readItem_80
    simp only [if_neg (show ¬ (1 : Int32) = 3 by decide), if_neg (show ¬ (1 : Int32) = 0 by decide), if_true]
  have f110 : ∀ Q : Ob, F_X8_readItem_110 Q 0 = some (0, Q) := fun Q => by unfold F_X8_readItem_110; rw [zp_i0]
  rw [m26]
  unfold F_X2_readSees F_X8_readSees
  rw [d2, d3]
  obtain ⟨R1, M1, n1, n2, n3, n4, n5⟩ := zw_number hN h3 hS 0 (nI n - 1)
  have e61 : M1 0 6 = nI n := by rw [n2.1 6 (by decide) (by decide) (by decide) (by decide), d3]
  rcases n4 with ⟨a, v1, v2, v3, v4, v5, v6, v7⟩ | ⟨v2, v3⟩
  · have ha := zi_lt (by omega) (by omega) v6
    rw [v2, v3, zp_b2, zp_b2, zp_i1, if_pos (n0 a (by omega)), e61]
    simp only [zp_let]
    obtain ⟨R2, M2, o1, o2, o3, o4, o5⟩ := zw_number hN h3 v7 0 (nI n - 1)
    have h02 := zH_t n2 o2
    rcases o4 with ⟨b, k1, k2, k3, k4, k5, k6, k7⟩ | ⟨k2, k3⟩
    · have hb := zi_lt (by omega) (by omega) k6
      rw [k2, k3, zp_b2, zp_b2, zp_i1, k4, v4]
      unfold F_X8_readSees_31
      rw [if_neg (zp_nneg (show b < 2 ^ 31 by omega))]
      by_cases hab : b = a
      · subst hab
        rw [if_pos rfl, if_pos rfl, zp_b2, f110]
        exact ⟨_, _, M2, zH_U h02, o5, Or.inr ⟨rfl, rfl⟩⟩
      · have hne : ¬ nI b = nI a := fun q => hab ((nI_eq (by omega) (by omega)).mp q)
        have hp2 : ∀ i o, i < 6 → o < 6 → M2 3 (6 * i + o) = nI (p i o) := fun i o hi ho => by rw [h02.2 3 (by decide)]; exact (d6 i o hi ho).2.1
        have sA := zi_seen M2 hp2 a (by omega)
        have sB := zi_seen M2 hp2 b (by omega)
        obtain ⟨ga1, ga2⟩ := d7 a (by omega)
        obtain ⟨gb1, gb2⟩ := d7 b (by omega)
        unfold F_X6_partsLeft
        rw [if_neg hne, if_neg hne, zp_ck (show a < 6 by omega) (by decide), zp_ck (show b < 6 by omega) (by decide), nI_clamp (show a < 2 ^ 31 by omega), nI_clamp (show b < 2 ^ 31 by omega), ga2, gb2, sA, zp_bd, zp_bd, sB, zp_bd, zp_bd]
        obtain ⟨X, hX1, hX2, hX3, hX4⟩ : ∃ X, X ≤ 10 ∧ zp_sm (p a) 6 ≤ X ∧ zp_sm (p b) 6 ≤ X ∧ ((if nI (zp_sm (p a) 6) < nI (zp_sm (p b) 6) then nI (zp_sm (p b) 6) else nI (zp_sm (p a) 6)) = nI X ∧ (if nI (zp_sm (p a) 6) ≤ nI (zp_sm (p b) 6) then F_X8_readSees_85 M2 (nI a) (nI b) (nI (zp_sm (p b) 6)) else zs_bd (some (nI (zp_sm (p a) 6))) (fun r29 => F_X8_readSees_85 M2 (nI a) (nI b) r29)) = F_X8_readSees_85 M2 (nI a) (nI b) (nI X)) := by
          by_cases q : zp_sm (p a) 6 ≤ zp_sm (p b) 6
          · refine ⟨zp_sm (p b) 6, gb1, q, Nat.le_refl _, ?_, ?_⟩
            · by_cases q2 : zp_sm (p a) 6 < zp_sm (p b) 6
              · rw [if_pos ((nI_ltI (by omega) (by omega)).mpr q2)]
              · rw [if_neg (fun k => q2 ((nI_ltI (by omega) (by omega)).mp k)), show zp_sm (p a) 6 = zp_sm (p b) 6 by omega]
            · rw [if_pos (nI_le q (by omega))]
          · refine ⟨zp_sm (p a) 6, ga1, Nat.le_refl _, by omega, ?_, ?_⟩
            · rw [if_neg (fun k => by have := (nI_ltI (by omega) (by omega)).mp k; omega)]
            · rw [if_neg (nI_ge (by omega) (by omega)), zp_bd]
        rw [hX4.1, hX4.2]
        unfold F_X8_readSees_85
        obtain ⟨R3, M3, q1, q2, q3, q4, q5⟩ := zw_number hN h3 k7 1 ((10 : Int32) - nI X)
        have h03 := zH_t h02 q2
        have hab6 : 6 * a + b < 36 := by omega
        have e3 : M3 3 (6 * a + b) = nI (p a b) := by rw [h03.2 3 (by decide)]; exact (d6 a b (by omega) (by omega)).2.1
        rcases q4 with ⟨v, a1, a2, a3, a4, a5, a6, a7⟩ | ⟨a2, a3⟩
        · have hvX : v + X ≤ 10 := by
            rw [Int32.le_iff_toInt_le, nI_toInt (by omega), show (10 : Int32) = nI 10 from rfl, pk_sub_toInt (a := 10) (b := X) (by decide) (by omega)] at a6
            omega
          rw [a2, a3, zp_b2, zp_b2, zp_i1, a4, zp_ix1, zp_ck hab6 (by decide), if_pos (n0 v (by omega)), nI_clamp (by omega), e3]
          obtain ⟨M4, w0, w1, w2, w3⟩ := zi_120 M3 (a := a) (b := b) (by omega) (by omega) (nI v) (nI v) (nI (p a b))
          rw [w0, if_neg (zp_nneg (by omega)), zp_b2]
          have hS4 := zY_M a7 (w1 1) (w1 2) (w2 1 (by decide))
          have hU4 : zU M M4 := zU_t (zH_U h03) ⟨fun j _ => w1 j, fun c _ _ c3 => w2 c c3⟩
          obtain ⟨R6, M6, u1, u2, u3, u4, u5⟩ := zw_semi hN h3 hS4
          rcases u4 with ⟨t1, t2, t3⟩ | ⟨t1, t2⟩
          · rw [t1, t2, zp_b2, zp_i1]
            have hYab : Yd 5 (6 * a + b) = nI (p a b) := (d6 a b (by omega) (by omega)).1
            have hYba : Yd 5 (6 * b + a) = nI (p a b) := by rw [(d6 b a (by omega) (by omega)).1, (d6 a b (by omega) (by omega)).2.2]
            unfold F_X6_addParts
            rw [zp_ix2, zp_ix2, zp_ck hab6 (by decide), zp_ck hab6 (by decide), nI_clamp (show 6 * a + b < 2 ^ 31 by omega), nI_clamp (show 6 * b + a < 2 ^ 31 by omega), nI_clamp (show a < 2 ^ 31 by omega), nI_clamp (show b < 2 ^ 31 by omega)]
            simp only [zp_let]
            rw [zp_ck (show 6 * b + a < 36 by omega) (by decide), zp_ck (show 6 * b + a < 36 by omega) (by decide), zp_ck (show a < 6 by omega) (by decide), zp_ck (show a < 6 by omega) (by decide), zp_ck (show b < 6 by omega) (by decide), zp_ck (show b < 6 by omega) (by decide), zp_bd]
            refine ⟨_, _, M6, zU_t hU4 (zH_U u2), u5, Or.inl ⟨k + 1 + 1 + 1 + 1, n, by omega, rfl, rfl, ?_, t3⟩⟩
            have x2 : M6 2 = M 2 := by rw [u2.2 2 (by decide), w2 2 (by decide), h03.2 2 (by decide)]
            have x3 : M6 3 = upd (upd (M 3) (6 * a + b) (nI (p a b) + nI v)) (6 * b + a) (nI (p a b) + nI v) := by rw [u2.2 3 (by decide), w3, h03.2 3 (by decide)]
            have x6 : M6 0 6 = M 0 6 := by rw [u2.1 6 (by decide) (by decide) (by decide) (by decide), w1, h03.1 6 (by decide) (by decide) (by decide) (by decide)]
            have x7 : M6 0 7 = M 0 7 := by rw [u2.1 7 (by decide) (by decide) (by decide) (by decide), w1, h03.1 7 (by decide) (by decide) (by decide) (by decide)]
            have hab' : 6 * b + a ≠ 6 * a + b := by omega
            refine ⟨⟨d1, by simp [zp_uD, d2], by rw [x6, d3]⟩, ?_, ?_, ⟨fun i o => if (i = a ∧ o = b) ∨ (i = b ∧ o = a) then p i o + v else p i o, ?_, ?_⟩, ?_, ?_⟩
            · intro j hj; rw [x2]; simpa [zp_uD] using d4 j hj
            · intro j h1 h2; simpa [zp_uD] using d5 j h1 h2
            · intro i o hi ho
              obtain ⟨c1, c2, c3⟩ := d6 i o hi ho
              rw [x3]
              dsimp only
              by_cases e1 : i = a ∧ o = b
              · obtain ⟨e1, e2⟩ := e1
                subst e1; subst e2
                refine ⟨?_, ?_, ?_⟩
                · simp [zp_uD, zp_upR, hYab, Ne.symm hab', nI_add]
                · rw [zp_un _ _ (Ne.symm hab'), zp_us, nI_add]; simp
                · simp [c3]
              · by_cases e2 : i = b ∧ o = a
                · obtain ⟨f2, f3⟩ := e2
                  subst f2; subst f3
                  refine ⟨?_, ?_, ?_⟩
                  · simp [zp_uD, zp_upR, hYba, hab', nI_add, c3]
                  · rw [zp_us, nI_add]; simp [c3]
                  · simp [c3]
                · have i1 : 6 * i + o ≠ 6 * a + b := by omega
                  have i2 : 6 * i + o ≠ 6 * b + a := by omega
                  have e1' : ¬ (o = b ∧ i = a) := fun k => e1 ⟨k.2, k.1⟩
                  have e2' : ¬ (o = a ∧ i = b) := fun k => e2 ⟨k.2, k.1⟩
                  refine ⟨?_, ?_, ?_⟩
                  · rw [if_neg (by omega)]; simp [zp_uD, zp_upR, i1, i2, c1]
                  · rw [zp_un _ _ i2, zp_un _ _ i1, c2, if_neg (by omega)]
                  · rw [if_neg (by omega), if_neg (by omega)]; exact c3
            · intro i hi
              obtain ⟨c1, c2⟩ := d7 i hi
              by_cases e1 : i = a
              · subst e1
                have hs : zp_sm (fun o => if (i = i ∧ o = b) ∨ (i = b ∧ o = i) then p i o + v else p i o) 6 = zp_sm (p i) 6 + v := by
                  have h1 := zp_smu (f := p i) (i := b) (x := p i b + v) (n := 6) (by omega)
                  have h2 : zp_sm (fun o => if (i = i ∧ o = b) ∨ (i = b ∧ o = i) then p i o + v else p i o) 6 = zp_sm (fun j => if j = b then p i b + v else p i j) 6 := zp_smc (fun j hj => by
                    by_cases e : j = b
                    · subst e; simp
                    · rw [if_neg (by omega), if_neg e])
                  omega
                rw [hs]
                exact ⟨by omega, by simp [zp_uD, zp_upR, Ne.symm hab, c2, nI_add]⟩
              · by_cases e2 : i = b
                · subst e2
                  have hs : zp_sm (fun o => if (i = a ∧ o = i) ∨ (i = i ∧ o = a) then p i o + v else p i o) 6 = zp_sm (p i) 6 + v := by
                    have h1 := zp_smu (f := p i) (i := a) (x := p i a + v) (n := 6) (by omega)
                    have h2 : zp_sm (fun o => if (i = a ∧ o = i) ∨ (i = i ∧ o = a) then p i o + v else p i o) 6 = zp_sm (fun j => if j = a then p i a + v else p i j) 6 := zp_smc (fun j hj => by
                      by_cases e : j = a
                      · subst e; simp
                      · rw [if_neg (by omega), if_neg e])
                    omega
                  rw [hs]
                  exact ⟨by omega, by simp [zp_uD, zp_upR, hab, c2, nI_add]⟩
                · have hs : zp_sm (fun o => if (i = a ∧ o = b) ∨ (i = b ∧ o = a) then p i o + v else p i o) 6 = zp_sm (p i) 6 := zp_smc (fun j hj => by rw [if_neg (by omega)])
                  rw [hs]
                  exact ⟨c1, by simp [zp_uD, zp_upR, e1, e2, c2]⟩
            · simpa [zp_uD] using d8
            · rw [show R6 0 5 = Rd 0 5 from by rw [u1, q1, o1, n1], x7]
              simpa [zp_uD] using d9
          · rw [t1, t2, zp_b2, zp_i0]
            exact ⟨_, _, M6, zU_t hU4 (zH_U u2), u5, Or.inr ⟨rfl, rfl⟩⟩
        · rw [a2, a3, zp_b2, zp_b2, zp_i0, zp_ix1, zp_ck hab6 (by decide), if_neg (show ¬ (0 : Int32) ≤ -1 by decide), nI_clamp (by omega)]
          obtain ⟨M4, w0, w1, w2, w3⟩ := zi_120 M3 (a := a) (b := b) (by omega) (by omega) (-1) 0 (M3 3 (6 * a + b))
          rw [w0, if_pos (by decide), zp_b2, f110]
          exact ⟨_, _, M4, zU_t (zH_U h03) ⟨fun j _ => w1 j, fun c _ _ c3 => w2 c c3⟩, zF_H q5 (w1 3), Or.inr ⟨rfl, rfl⟩⟩
    · rw [k2, k3, zp_b2, zp_b2, zp_i0]
      unfold F_X8_readSees_31
      rw [if_pos (by decide), zp_b2, f110]
      exact ⟨_, _, M2, zH_U h02, o5, Or.inr ⟨rfl, rfl⟩⟩
  · rw [v2, v3, zp_b2, zp_b2, zp_i0, if_neg (show ¬ (0 : Int32) ≤ -1 by decide)]
    unfold F_X8_readSees_31
    rw [if_pos (by decide), zp_b2, f110]
    exact ⟨_, _, M1, zH_U n2, n5, Or.inr ⟨rfl, rfl⟩⟩
