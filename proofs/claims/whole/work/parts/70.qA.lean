/-! ===== PURE 27: the items wall and work ===== -/
theorem zF_H {z : Nat} {Rd M M' : Ob} (h : zF z Rd M) (e : M' 0 3 = M 0 3) : zF z Rd M' := by
  obtain ⟨b, b1, b2, b3⟩ := h
  exact ⟨b, b1, b2, by rw [e, b3]⟩
theorem zY_M {z : Nat} {t : Nat → Nat} {Tk : Ob} {N k : Nat} {Rd M M' : Ob} (h : zY z t Tk N k Rd M) (e1 : M' 0 1 = M 0 1) (e2 : M' 0 2 = M 0 2) (e3 : M' 1 = M 1) : zY z t Tk N k Rd M' := by
  obtain ⟨m, p, a1, a2, a3, a4⟩ := h
  exact ⟨m, p, a1, a2, by rw [e2, a3], a4.1, by rw [e1, a4.2.1], fun i hi => by rw [e3]; exact a4.2.2 i hi⟩
theorem zi_23 (M : Ob) {n : Nat} (h6 : n < 6) (hM : M 0 6 = nI n) (x : Int32) (r : Nat) (hr : r < 2 ^ 31) : ∃ M', F_X8_readWall_23 M x (nI r) = some (1, M') ∧ M' 0 6 = nI (n + 1) ∧ (∀ j, j ≠ 6 → M' 0 j = M 0 j) ∧ (∀ c, c ≠ 0 → c ≠ 2 → M' c = M c) ∧ M' 2 = upd (upd (upd (upd (M 2) n x) (6 + n) (nI r)) (12 + n) 0) (18 + n) 0 := by
  unfold F_X8_readWall_23 F_X8_readWall_87
  have s0 : ∀ (Q : Ob) i v, (zs_up Q 2 i v) 0 = Q 0 := fun Q i v => by simp [zp_uD]
  simp only [zp_let, s0, hM]
  rw [show (6 : Int32) + nI n = nI (6 + n) from nI_add 6 n, show (12 : Int32) + nI n = nI (12 + n) from nI_add 12 n, show (18 : Int32) + nI n = nI (18 + n) from nI_add 18 n, zp_ck (by omega) (by decide), zp_ck (by omega) (by decide), zp_ck (by omega) (by decide), zp_ck (by omega) (by decide), nI_clamp (by omega), nI_clamp (by omega), nI_clamp (by omega), nI_clamp (by omega), if_pos (show (0 : Int32) ≤ nI r from nI_le (a := 0) (b := r) (by omega) hr), if_neg (zp_nneg hr), zp_1]
  refine ⟨_, rfl, zp_u3 _ _ _, fun j hj => by rw [zp_u4 _ _ hj, s0, s0, s0, s0], fun c c0 c2 => ?_, ?_⟩
  · simp [zp_uD, c0, c2]
  · simp [zp_uD]
theorem zi_23f (M : Ob) {n : Nat} (h6 : n < 6) (hM : M 0 6 = nI n) (x : Int32) : ∃ M', F_X8_readWall_23 M x (-1) = some (0, M') ∧ (∀ j, j ≠ 6 → M' 0 j = M 0 j) ∧ (∀ c, c ≠ 0 → c ≠ 2 → M' c = M c) := by
  unfold F_X8_readWall_23 F_X8_readWall_87
  have s0 : ∀ (Q : Ob) i v, (zs_up Q 2 i v) 0 = Q 0 := fun Q i v => by simp [zp_uD]
  simp only [zp_let, s0, hM]
  rw [show (6 : Int32) + nI n = nI (6 + n) from nI_add 6 n, show (12 : Int32) + nI n = nI (12 + n) from nI_add 12 n, show (18 : Int32) + nI n = nI (18 + n) from nI_add 18 n, zp_ck (by omega) (by decide), zp_ck (by omega) (by decide), zp_ck (by omega) (by decide), zp_ck (by omega) (by decide), if_neg (show ¬ (0 : Int32) ≤ -1 by decide), if_pos (show (-1 : Int32) < 0 by decide)]
  refine ⟨_, rfl, fun j hj => by rw [zp_u4 _ _ hj, s0, s0, s0, s0], fun c c0 c2 => ?_⟩
  simp [zp_uD, c0, c2]
theorem zi_wall {z : Nat} {t : Nat → Nat} {Tk Rd M Yd : Ob} {N k n : Nat} (hN : N ≤ 251) (h3 : Tk 0 3 = nI N) (hS : zY z t Tk N k Rd M) (hd : zd n Rd Yd M) (hf : zF z Rd M) : zI z t Tk N k n Yd M (F_X2_readWall Rd Tk Yd) (if M 0 6 = 6 then some (0, M) else F_X8_readItem_26 M 0) := by
  obtain ⟨⟨d1, d2, d3⟩, d4, d5, ⟨p, d6, d7⟩, d8, d9⟩ := id hd
  unfold F_X2_readWall F_X6_hasRoom
  rw [d2, d3]
  by_cases hn : n = 6
  · subst hn
    rw [if_pos (show (6 : Int32) ≤ nI 6 by decide), if_pos (show nI 6 = (6 : Int32) from rfl), zp_bd, zp_i0]
    exact ⟨_, _, M, zU_r M, hf, Or.inr ⟨rfl, rfl⟩⟩
  · have hn6 : n < 6 := by omega
    rw [if_neg (zp_g6 hn6), if_neg (show ¬ nI n = (6 : Int32) from fun q => hn ((nI_eq (a := n) (b := 6) (by omega) (by decide)).mp q)), zp_bd, zp_i1]
    unfold F_X8_readItem_26 F_X8_readItem_40 F_X8_readItem_80 F_X8_readWall
    rw [if_neg (show ¬ (0 : Int32) = 3 by decide), if_pos rfl]
    simp only [if_neg (show ¬ (0 : Int32) = 3 by decide)]
    obtain ⟨R1, M1, n1, n2, n3, n4, n5⟩ := zw_number hN h3 hS 0 99
    have e61 : M1 0 6 = nI n := by rw [n2.1 6 (by decide) (by decide) (by decide) (by decide), d3]
    rcases n4 with ⟨v, v1, v2, v3, v4, v5, v6, v7⟩ | ⟨v2, v3⟩
    · rw [v2, v3, zp_b2, zp_b2, zp_i1, if_pos (show (0 : Int32) ≤ nI v from nI_le (a := 0) (b := v) (by omega) (by omega))]
      simp only [zp_let]
      obtain ⟨R2, M2, m1, m2, m3, m4, m5⟩ := zw_number hN h3 v7 0 9
      have e62 : M2 0 6 = nI n := by rw [m2.1 6 (by decide) (by decide) (by decide) (by decide), e61]
      have h02 := zH_t n2 m2
      rcases m4 with ⟨r, r1, r2, r3, r4, r5, r6, r7⟩ | ⟨r2, r3⟩
      · have hr9 : r ≤ 9 := (nI_leI (a := r) (b := 9) (by omega) (by decide)).mp r6
        obtain ⟨M3, w0, w1, w2, w3, w4⟩ := zi_23 M2 hn6 e62 (nI v) r (by omega)
        rw [r2, r3, zp_b2, zp_b2, zp_i1, w0, zp_b2]
        have hS3 := zY_M r7 (w2 1 (by decide)) (w2 2 (by decide)) (w3 1 (by decide) (by decide))
        have hU3 : zU M M3 := zU_t (zH_U h02) ⟨fun j a => w2 j (by omega), fun c a b _ => w3 c a b⟩
        obtain ⟨R4, M4, s1, s2, s3, s4, s5⟩ := zw_semi hN h3 hS3
        rcases s4 with ⟨t1, t2, t3⟩ | ⟨t1, t2⟩
        · rw [t1, t2, zp_b2, zp_i1, v4, r4]
          unfold F_X6_addWall F_X6_hasRoom
          rw [d2, if_neg (zp_g6 hn6), zp_bd, zp_i1]
          have y0 : ∀ (Q : Ob) c i v, c ≠ 0 → (zs_up Q c i v) 0 = Q 0 := fun Q c i v hc => by simp [zp_uD, Ne.symm hc]
          have ck : ∀ {α : Type} (y : Option α), zs_ck (nI n) 6 y = y := fun y => zp_ck hn6 (by decide)
          have kc : (nI n).toNatClampNeg = n := nI_clamp (by omega)
          simp only [zp_let, y0 _ 1 _ _ (by decide), y0 _ 2 _ _ (by decide), d2, ck, kc, zp_1]
          rw [zp_bd]
          refine ⟨_, _, M4, zU_t hU3 (zH_U s2), s5, Or.inl ⟨k + 1 + 1 + 1, n + 1, by omega, rfl, rfl, ?_, t3⟩⟩
          have e2 : M4 2 = upd (upd (upd (upd (M 2) n (nI v)) (6 + n) (nI r)) (12 + n) 0) (18 + n) 0 := by rw [s2.2 2 (by decide), w4, h02.2 2 (by decide)]
          have e3 : M4 3 = M 3 := by rw [s2.2 3 (by decide), w3 3 (by decide) (by decide), h02.2 3 (by decide)]
          refine ⟨⟨by omega, zp_u3 _ _ _, by rw [s2.1 6 (by decide) (by decide) (by decide) (by decide), w1]⟩, ?_, ?_, ⟨p, ?_, ?_⟩, ?_, ?_⟩
          · intro w hw
            rw [e2]
            by_cases e : w = n
            · subst e
              refine ⟨⟨v, v1, by simp [zp_uD, zp_upR], ?_⟩, ⟨r, hr9, by simp [zp_uD, zp_upR], ?_⟩, ⟨0, by omega, ?_, ?_⟩, ?_⟩
              · rw [zp_un _ _ (by omega), zp_un _ _ (by omega), zp_un _ _ (by omega), zp_us]
              · rw [zp_un _ _ (by omega), zp_un _ _ (by omega), zp_us]
              · rw [show (zs_up (zs_up (zs_up Yd 1 w (nI v)) 2 w (nI r)) 0 0 (nI (w + 1))) 3 = Yd 3 from by simp [zp_uD]]; exact (d5 w (Nat.le_refl _) hn6).1
              · rw [zp_un _ _ (by omega), zp_us]; rfl
              · rw [zp_us, show (zs_up (zs_up (zs_up Yd 1 w (nI v)) 2 w (nI r)) 0 0 (nI (w + 1))) 4 = Yd 4 from by simp [zp_uD]]; exact (d5 w (Nat.le_refl _) hn6).2
            · have hq := d4 w (by omega)
              rw [zp_un _ _ (by omega), zp_un _ _ (by omega), zp_un _ _ (by omega), zp_un _ _ e, zp_un _ _ (by omega), zp_un _ _ (by omega), zp_un _ _ (by omega), zp_un _ _ (by omega), zp_un _ _ (by omega), zp_un _ _ (by omega), zp_un _ _ (by omega), zp_un _ _ (by omega), zp_un _ _ (by omega), zp_un _ _ (by omega), zp_un _ _ (by omega), zp_un _ _ (by omega)]
              simpa [zp_uD, zp_upR, e] using hq
          · intro w h1 h2
            have hq := d5 w (by omega) h2
            simpa [zp_uD] using hq
          · rw [e3]; simpa [zp_uD] using d6
          · simpa [zp_uD] using d7
          · simpa [zp_uD] using d8
          · rw [show R4 0 5 = Rd 0 5 from by rw [s1, m1, n1], show M4 0 7 = M 0 7 from by rw [s2.1 7 (by decide) (by decide) (by decide) (by decide), w2 7 (by decide), h02.1 7 (by decide) (by decide) (by decide) (by decide)]]
            simpa [zp_uD, zp_upR] using d9
        · rw [t1, t2, zp_b2, zp_i0]
          exact ⟨_, _, M4, zU_t hU3 (zH_U s2), s5, Or.inr ⟨rfl, rfl⟩⟩
      · obtain ⟨M3, w0, w2, w3⟩ := zi_23f M2 hn6 e62 (nI v)
        rw [r2, r3, zp_b2, zp_b2, zp_i0, w0, zp_b2]
        unfold F_X8_readItem_110
        rw [zp_i0]
        exact ⟨_, _, M3, zU_t (zH_U h02) ⟨fun j a => w2 j (by omega), fun c a b _ => w3 c a b⟩, zF_H m5 (w2 3 (by decide)), Or.inr ⟨rfl, rfl⟩⟩
    · obtain ⟨M3, w0, w2, w3⟩ := zi_23f M1 hn6 e61 (-1)
      rw [v2, v3, zp_b2, zp_b2, zp_i0, if_neg (show ¬ (0 : Int32) ≤ -1 by decide), w0, zp_b2]
      unfold F_X8_readItem_110
      rw [zp_i0]
      exact ⟨_, _, M3, zU_t (zH_U n2) ⟨fun j a => w2 j (by omega), fun c a b _ => w3 c a b⟩, zF_H n5 (w2 3 (by decide)), Or.inr ⟨rfl, rfl⟩⟩
