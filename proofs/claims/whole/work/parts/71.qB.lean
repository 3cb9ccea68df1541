/-! ===== PURE 28: the item work ===== -/
theorem zi_w59 (M : Ob) (x y v : Int32) : F_X8_readWork_59 M x y v (-1) = some (0, M) := by
  unfold F_X8_readWork_59 F_X8_readWork_92
  rw [if_pos (by decide), if_pos (by decide)]
theorem zi_w43 (M : Ob) (x y : Int32) : F_X8_readWork_43 M x y (-1) = some (0, M) := by
  unfold F_X8_readWork_43
  rw [if_neg (by decide), zi_w59]
theorem zi_w27 (M : Ob) (x : Int32) : F_X8_readWork_27 M x (-1) = some (0, M) := by
  unfold F_X8_readWork_27
  rw [if_neg (by decide), zi_w43]
theorem zi_lt {w n : Nat} (hw : w < 2 ^ 31) (hn : n < 2 ^ 30) (h : nI w ≤ nI n - 1) : w < n := by
  rw [Int32.le_iff_toInt_le, nI_toInt hw, show (1 : Int32) = nI 1 from rfl, pk_sub_toInt (a := n) (b := 1) hn (by decide)] at h
  omega
theorem zi_work {z : Nat} {t : Nat → Nat} {Tk Rd M Yd : Ob} {N k n : Nat} (hN : N ≤ 251) (h3 : Tk 0 3 = nI N) (hS : zY z t Tk N k Rd M) (hd : zd n Rd Yd M) (hf : zF z Rd M) : zI z t Tk N k n Yd M (F_X2_readWork Rd Tk Yd) (F_X8_readItem_26 M 2) := by
  obtain ⟨⟨d1, d2, d3⟩, d4, d5, ⟨p, d6, d7⟩, d8, d9⟩ := id hd
  have n0 : ∀ v, v < 2 ^ 31 → (0 : Int32) ≤ nI v := fun v hv => nI_le (a := 0) (b := v) (by omega) hv
  have b0 : (0 : Int32) ≤ -1 ↔ False := by decide
  have m26 : F_X8_readItem_26 M 2 = zs_b2 (F_X8_readWork M) (fun r21 Mdw22 => if r21 = 0 then F_X8_readItem_110 Mdw22 0 else F_X8_readItem_110 Mdw22 1) := by
    unfold F_X8_readItem_26 F_X8_readItem_40 F_X8_readItem_79 F_X8_readItem_80
    simp only [if_neg (show ¬ (2 : Int32) = 3 by decide), if_neg (show ¬ (2 : Int32) = 0 by decide), if_neg (show ¬ (2 : Int32) = 1 by decide), if_true]
  have f110 : ∀ Q : Ob, F_X8_readItem_110 Q 0 = some (0, Q) := fun Q => by unfold F_X8_readItem_110; rw [zp_i0]
  rw [m26]
  unfold F_X2_readWork F_X8_readWork
  rw [d2, d3]
  obtain ⟨R1, M1, n1, n2, n3, n4, n5⟩ := zw_number hN h3 hS 0 (nI n - 1)
  rcases n4 with ⟨w, v1, v2, v3, v4, v5, v6, v7⟩ | ⟨v2, v3⟩
  · have hw := zi_lt (by omega) (by omega) v6
    rw [v2, v3, zp_b2, zp_b2, zp_i1, if_pos (n0 w (by omega))]
    simp only [zp_let]
    obtain ⟨R2, M2, o1, o2, o3, o4, o5⟩ := zw_number hN h3 v7 0 20
    have h02 := zH_t n2 o2
    rcases o4 with ⟨kk, k1, k2, k3, k4, k5, k6, k7⟩ | ⟨k2, k3⟩
    · have hk20 : kk ≤ 20 := (nI_leI (a := kk) (b := 20) (by omega) (by decide)).mp k6
      rw [k2, k3, zp_b2, zp_b2, zp_i1]
      unfold F_X8_readWork_27
      rw [if_pos (n0 kk (by omega))]
      obtain ⟨R3, M3, q1, q2, q3, q4, q5⟩ := zw_number hN h3 k7 0 15
      have h03 := zH_t h02 q2
      rcases q4 with ⟨a, a1, a2, a3, a4, a5, a6, a7⟩ | ⟨a2, a3⟩
      · rw [a2, a3, zp_b2, zp_b2, zp_i1]
        unfold F_X8_readWork_43
        rw [if_pos (n0 a (by omega))]
        obtain ⟨R4, M4, e1, e2, e3, e4, e5⟩ := zw_number hN h3 a7 0 15
        have h04 := zH_t h03 e2
        rcases e4 with ⟨b, c1, c2, c3, c4, c5, c6, c7⟩ | ⟨c2, c3⟩
        · rw [c2, c3, zp_b2, zp_b2, zp_i1, v4, k4, a4, c4]
          unfold F_X8_readWork_59 F_X8_readWork_92
          rw [if_neg (zp_nneg (by omega)), show (12 : Int32) + nI w = nI (12 + w) from nI_add 12 w, show (18 : Int32) + nI w = nI (18 + w) from nI_add 18 w]
          simp only [zp_let]
          rw [zp_ck (show 12 + w < 24 by omega) (by decide), zp_ck (show 18 + w < 24 by omega) (by decide), nI_clamp (show 12 + w < 2 ^ 31 by omega), nI_clamp (show 18 + w < 2 ^ 31 by omega), if_neg (zp_nneg (by omega)), zp_b2, zp_i1]
          have s0 : ∀ (Q : Ob) i v, (zs_up Q 2 i v) 0 = Q 0 := fun Q i v => by simp [zp_uD]
          have s1c : ∀ (Q : Ob) i v c, c ≠ 2 → (zs_up Q 2 i v) c = Q c := fun Q i v c hc => by simp [zp_uD, hc]
          have hS5 := zY_M (M' := zs_up (zs_up M4 2 (12 + w) (nI kk)) 2 (18 + w) (nI a + (16 : Int32) * nI b)) c7 (by rw [s0, s0]) (by rw [s0, s0]) (by rw [s1c _ _ _ _ (by decide), s1c _ _ _ _ (by decide)])
          have hU5 : zU M (zs_up (zs_up M4 2 (12 + w) (nI kk)) 2 (18 + w) (nI a + (16 : Int32) * nI b)) := zU_t (zH_U h04) ⟨fun j _ => by rw [s0, s0], fun c _ c2 _ => by rw [s1c _ _ _ _ c2, s1c _ _ _ _ c2]⟩
          obtain ⟨R6, M6, u1, u2, u3, u4, u5⟩ := zw_semi hN h3 hS5
          rcases u4 with ⟨t1, t2, t3⟩ | ⟨t1, t2⟩
          · rw [t1, t2, zp_b2, zp_i1, zp_ck (show w < 6 by omega) (by decide), zp_ck (show w < 6 by omega) (by decide), nI_clamp (show w < 2 ^ 31 by omega)]
            refine ⟨_, _, M6, zU_t hU5 (zH_U u2), u5, Or.inl ⟨k + 1 + 1 + 1 + 1 + 1, n, by omega, rfl, rfl, ?_, t3⟩⟩
            have x2 : M6 2 = upd (upd (M 2) (12 + w) (nI kk)) (18 + w) (nI a + (16 : Int32) * nI b) := by
              rw [u2.2 2 (by decide), show (zs_up (zs_up M4 2 (12 + w) (nI kk)) 2 (18 + w) (nI a + (16 : Int32) * nI b)) 2 = upd (upd (M4 2) (12 + w) (nI kk)) (18 + w) (nI a + (16 : Int32) * nI b) from by simp [zp_uD], h04.2 2 (by decide)]
            have x3 : M6 3 = M 3 := by rw [u2.2 3 (by decide), s1c _ _ _ _ (by decide), s1c _ _ _ _ (by decide), h04.2 3 (by decide)]
            have x6 : M6 0 6 = M 0 6 := by rw [u2.1 6 (by decide) (by decide) (by decide) (by decide), s0, s0, h04.1 6 (by decide) (by decide) (by decide) (by decide)]
            have x7 : M6 0 7 = M 0 7 := by rw [u2.1 7 (by decide) (by decide) (by decide) (by decide), s0, s0, h04.1 7 (by decide) (by decide) (by decide) (by decide)]
            refine ⟨⟨d1, by simp [zp_uD, d2], by rw [x6, d3]⟩, ?_, ?_, ⟨p, ?_, ?_⟩, ?_, ?_⟩
            · intro j hj
              obtain ⟨g1, g2, g3, g4⟩ := d4 j hj
              rw [x2]
              refine ⟨?_, ?_, ?_, ?_⟩
              · rw [zp_un _ _ (by omega), zp_un _ _ (by omega)]; simpa [zp_uD] using g1
              · rw [zp_un _ _ (by omega), zp_un _ _ (by omega)]; simpa [zp_uD] using g2
              · rw [zp_un _ _ (by omega)]
                by_cases e : j = w
                · subst e; exact ⟨kk, hk20, by simp [zp_uD, zp_upR], by rw [zp_us]⟩
                · rw [zp_un _ _ (by omega)]; simpa [zp_uD, zp_upR, e] using g3
              · by_cases e : j = w
                · subst e; rw [zp_us]; simp [zp_uD, zp_upR]
                · rw [zp_un _ _ (by omega), zp_un _ _ (by omega)]; simpa [zp_uD, zp_upR, e] using g4
            · intro j h1 h2
              have := d5 j h1 h2
              have hne : j ≠ w := by omega
              simpa [zp_uD, zp_upR, hne] using this
            · rw [x3]; simpa [zp_uD] using d6
            · simpa [zp_uD] using d7
            · simpa [zp_uD] using d8
            · rw [show R6 0 5 = Rd 0 5 from by rw [u1, e1, q1, o1, n1], x7]
              simpa [zp_uD] using d9
          · rw [t1, t2, zp_b2, zp_i0]
            exact ⟨_, _, M6, zU_t hU5 (zH_U u2), u5, Or.inr ⟨rfl, rfl⟩⟩
        · rw [c2, c3, zp_b2, zp_b2, zp_i0, zi_w59, zp_b2, zp_i0, f110]
          exact ⟨_, _, M4, zH_U h04, e5, Or.inr ⟨rfl, rfl⟩⟩
      · rw [a2, a3, zp_b2, zp_b2, zp_i0, zi_w43, zp_b2, zp_i0, f110]
        exact ⟨_, _, M3, zH_U h03, q5, Or.inr ⟨rfl, rfl⟩⟩
    · rw [k2, k3, zp_b2, zp_b2, zp_i0, zi_w27, zp_b2, zp_i0, f110]
      exact ⟨_, _, M2, zH_U h02, o5, Or.inr ⟨rfl, rfl⟩⟩
  · rw [v2, v3, zp_b2, zp_b2, zp_i0, if_neg (show ¬ (0 : Int32) ≤ -1 by decide), zi_w27, zp_b2, zp_i0, f110]
    exact ⟨_, _, M1, zH_U n2, n5, Or.inr ⟨rfl, rfl⟩⟩
