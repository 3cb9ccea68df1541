/-! ===== PURE 32: walls ===== -/
theorem zo_neg : ∀ b, b < 251 → ¬ (0 : Int32) ≤ (-10 : Int32) - nI b := by decide +kernel
theorem zo_walls {Xm : Ob} {tr : Int64} {Tx Pr Sg Im0 Im1 Yt M : Ob} {mt : Int64} (h : zr Xm tr Tx Pr Sg Im0 Im1 Yt M mt) (Rd Tk Yr : Ob) (aYt aYr : Ad) : ∃ r Xm' Tx' Rd' Tk' Pr' Sg' Yt' Yr' a1 a2 M', F_X7_walls Xm Tx Rd Tk Pr Sg Yt Yr aYt aYr = some (r, (Xm', (Tx', (Rd', (Tk', (Pr', (Sg', (Yt', (Yr', (a1, a2)))))))))) ∧ F_X8_walls M = some (r, M') ∧ zr Xm' tr Tx' Pr' Sg' Im0 Im1 Yt' M' mt := by
  obtain ⟨n, a, b, ⟨z, t, c1, c2, c3, c4⟩, d, e, f⟩ := id h
  have hC : zwc z t Tx := ⟨c1, c2, fun i hi => ⟨(c4 i hi).1, (c4 i hi).2.1⟩⟩
  obtain ⟨Tk1, N, k1, k2, k3, k4⟩ := zc_cut hC Tk
  obtain ⟨Y1, y0, y1, y2, y3, y4⟩ := zc_empty Yr
  have l3 := fun Q => zp_cpl0 (N := 36) (b := 0) (c := 3) (S := fun _ _ => 0) (fun _ _ => rfl) (K := fun P => F_X8_walls_36 P) (F := F_X8_walls_17)
    (fun f P => by rw [F_X8_walls_17_n]; unfold F_X8_walls_17_s; rw [if_pos (by decide)])
    (fun f P i hi => by rw [F_X8_walls_17_n]; unfold F_X8_walls_17_s; simp only [zp_let]; rw [if_neg (zp_g36 hi), zp_ck hi (by decide), nI_clamp (by omega), zp_1, Nat.zero_add]) Q (f := 1000) (by decide)
  unfold F_X7_walls F_X2_readInto F_X8_walls
  simp only [zp_let]
  rw [l3, k1, zp_bd, y0, zp_bd]
  unfold F_X8_walls_36
  generalize hM0 : zp_row (zs_up (zs_up (zs_up M 0 2 0) 0 6 0) 0 7 (-1)) 3 (zp_fb 0 (fun _ => (0 : Int32)) ((zs_up (zs_up (zs_up M 0 2 0) 0 6 0) 0 7 (-1)) 3) 36) = M0
  have m3 : ∀ j, j < 36 → M0 3 j = 0 := fun j hj => by
    rw [← hM0, zp_rs]
    have := zp_fbi (b := 0) (f := fun _ => (0 : Int32)) (g := (zs_up (zs_up (zs_up M 0 2 0) 0 6 0) 0 7 (-1)) 3) hj
    rw [Nat.zero_add] at this
    exact this
  have m2 : M0 0 2 = nI 0 := by rw [← hM0]; simp [zp_uD, zp_rD, zp_upR]; rfl
  have m6 : M0 0 6 = nI 0 := by rw [← hM0]; simp [zp_uD, zp_rD, zp_upR]; rfl
  have m7 : M0 0 7 = -1 := by rw [← hM0]; simp [zp_uD, zp_rD, zp_upR]
  have mU : zU M M0 := ⟨fun j hj => by rw [← hM0]; simp [zp_uD, zp_rD, zp_upR, show j ≠ 2 by omega, show j ≠ 6 by omega, show j ≠ 7 by omega], fun c h0 h2 h3 => by rw [← hM0]; simp [zp_uD, zp_rD, h0, h3]⟩
  have hMm : zwm z t M0 := ⟨c1, by rw [mU.1 1 (Or.inl rfl), c3], fun i hi => ⟨(c4 i hi).1, by rw [mU.2 1 (by decide) (by decide) (by decide)]; exact (c4 i hi).2.2⟩⟩
  have hS : zY z t Tk1 N 0 (zs_up (zs_up Rd 0 4 0) 0 5 0) M0 := ⟨z + 1, 0, k4, by simp [zp_uD, zp_upR]; rfl, m2, hMm⟩
  have hd0 : zd 0 (zs_up (zs_up Rd 0 4 0) 0 5 0) Y1 M0 := by
    have zs : zp_sm (fun _ => 0) 6 = 0 := by rw [zp_smk]
    refine ⟨⟨by omega, y1, m6⟩, fun w hw => absurd hw (by omega), fun w _ hw => ⟨y3 3 (Or.inr (Or.inr (Or.inl rfl))) w hw, y3 4 (Or.inr (Or.inr (Or.inr (Or.inl rfl)))) w hw⟩, ⟨fun _ _ => 0, fun i o hi ho => ⟨y4 _ (by omega), m3 _ (by omega), rfl⟩, fun i hi => ⟨by rw [zs]; omega, by rw [zs]; exact y3 6 (Or.inr (Or.inr (Or.inr (Or.inr (Or.inl rfl))))) i hi⟩⟩, fun j hj => y3 7 (Or.inr (Or.inr (Or.inr (Or.inr (Or.inr rfl))))) j hj, Or.inl ⟨zp_u3 _ _ _, m7, y2⟩⟩
  obtain ⟨R1, M1, r0, r1, r5, rH, hN0, hG⟩ := zG_read k3 k2 hS
  rw [r0, r1, zp_bd, zp_bd]
  obtain ⟨R2, Y2, M2, uU, uu⟩ := zi_all (Tx := Tx) k3 k2 c1 N 0 1 (by omega) (by omega) (by omega) 1000 1000 (by omega) (by omega) R1 Y1 M1 0 hG (zd_H hd0 rH r5)
  have hU : zU M M2 := zU_t mU (zU_t (zH_U rH) uU)
  rcases uu with ⟨i', n', i1, i2, i3, i4⟩ | ⟨b', i1, i2, i3⟩
  · rw [show F_X2_readInto_28 Tx 1000 R1 Tk1 Y1 0 = _ from i2, show F_X8_walls_42 1000 M1 0 = _ from i3, zp_b4, if_pos (show (0 : Int32) ≤ nI i' from nI_le (a := 0) (b := i') (by omega) (by omega))]
    obtain ⟨⟨d1, d2, d3⟩, d4, d5, ⟨p, d6, d7⟩, d8, d9⟩ := id i4
    obtain ⟨P1, p0, p1, p2, p3⟩ := zc_begin Pr Y2
    obtain ⟨M3, t0, t1, t2, t3, t4, t5, t6, t7, t8, t9, t10, t11, t12⟩ := zm_takes M2 d1 d3
    unfold F_X8_walls_74
    rw [p0, zp_bd, t0, zp_bd]
    simp only [zp_let]
    refine ⟨_, _, _, _, _, _, _, _, _, _, _, _, rfl, rfl, n', ?_, ?_, ?_, ?_, ?_, f⟩
    · have hch : ∀ w, ∃ v : Nat × Nat × Nat, w < n' → (v.1 ≤ 99 ∧ Y2 1 w = nI v.1 ∧ M2 2 w = nI v.1) ∧ (v.2.1 ≤ 9 ∧ Y2 2 w = nI v.2.1 ∧ M2 2 (6 + w) = nI v.2.1) ∧ (v.2.2 ≤ 20 ∧ Y2 3 w = nI v.2.2 ∧ M2 2 (12 + w) = nI v.2.2) := by
        intro w
        by_cases hw : w < n'
        · obtain ⟨⟨v, v1⟩, ⟨r, r1⟩, ⟨k, k1⟩, -⟩ := d4 w hw
          exact ⟨(v, r, k), fun _ => ⟨v1, r1, k1⟩⟩
        · exact ⟨(0, 0, 0), fun q => absurd q hw⟩
      obtain ⟨v, hv⟩ := Classical.axiomOfChoice hch
      have e11 : Y2 0 1 = M3 0 11 ∧ ∃ c, M3 0 11 = nI c ∧ c ≤ 999 := by
        rw [t2]
        rcases d9 with ⟨q1, q2, q3⟩ | ⟨q1, l, q2, q3, q4⟩
        · rw [q2, q3, if_neg (by decide)]; exact ⟨rfl, 99, rfl, by omega⟩
        · rw [q3, q4, if_pos (show (0 : Int32) ≤ nI l from nI_le (a := 0) (b := l) (by omega) (by omega)), show (10 : Int32) * nI l + 9 = nI (10 * l + 9) from by rw [show (10 : Int32) = nI 10 from rfl, pk_mul, show (9 : Int32) = nI 9 from rfl, nI_add]]
          exact ⟨rfl, _, rfl, by omega⟩
      refine ⟨⟨d2, by simp [zp_uD, zp_upR, t1], d1, by simp [zp_uD, zp_upR, e11.1]⟩, ⟨?_, ?_, ?_, ?_, ?_, d8⟩, fun w => (v w).1, fun w => (v w).2.1, fun w => (v w).2.2, p, ?_, ?_, ?_, ?_, fun i hi => (d7 i hi).1, fun i hi => (d7 i hi).2, by simpa [zp_uD, zp_upR] using e11.2⟩
      · intro w hw; rw [zp_u5 _ _ (by decide), (t3 w hw).1, (hv w hw).1.2.2, (hv w hw).1.2.1]
      · intro w hw; rw [zp_u5 _ _ (by decide), (t3 w hw).2.1, (hv w hw).2.1.2.2, (hv w hw).2.1.2.1]
      · intro w hw; rw [zp_u5 _ _ (by decide), (t3 w hw).2.2.1, (hv w hw).2.2.2.2, (hv w hw).2.2.2.1]
      · intro w hw; rw [zp_u5 _ _ (by decide), (t3 w hw).2.2.2.1]; exact (d4 w hw).2.2.2
      · intro j hj
        have hj6 := d6 (j / 6) (j % 6) (by omega) (by omega)
        rw [show 6 * (j / 6) + j % 6 = j by omega] at hj6
        rw [zp_u5 _ _ (by decide), t4 j hj, hj6.1, hj6.2.1]
      · intro w hw; rw [zp_u5 _ _ (by decide), (t3 w hw).1]; exact ⟨(hv w hw).1.2.2, (hv w hw).1.1⟩
      · intro w hw; rw [zp_u5 _ _ (by decide), (t3 w hw).2.1]; exact ⟨(hv w hw).2.1.2.2, (hv w hw).2.1.1⟩
      · intro w hw; rw [zp_u5 _ _ (by decide), (t3 w hw).2.2.1]; exact ⟨(hv w hw).2.2.2.2, (hv w hw).2.2.1⟩
      · intro i o hi ho; rw [zp_u5 _ _ (by decide), t4 _ (by omega)]; exact (d6 i o hi ho).2.1
    · have hch : ∀ w, ∃ v : Nat, w < n' → v ≤ 99 ∧ Y2 1 w = nI v ∧ M2 2 w = nI v := by
        intro w
        by_cases hw : w < n'
        · obtain ⟨v, v1⟩ := (d4 w hw).1; exact ⟨v, fun _ => v1⟩
        · exact ⟨0, fun q => absurd q hw⟩
      obtain ⟨v, hv⟩ := Classical.axiomOfChoice hch
      have hs : zp_sm v n' ≤ 600 := by
        have h1 : zp_sm v n' ≤ zp_sm (fun _ => 99) n' := zp_sml (fun w hw => (hv w hw).1)
        rw [zp_smk] at h1
        omega
      refine ⟨⟨?_, ?_, ?_, ?_, ?_⟩, fun w hw => ?_, ⟨0, ?_, Nat.two_pow_pos n'⟩, ⟨0, ?_, Nat.two_pow_pos n'⟩, ⟨0, ?_, by omega, fun i hi => absurd hi (by omega)⟩, 0, v, ?_, by omega, fun w hw => ?_, by omega⟩
      · rw [p1 0 (by decide), zp_u4 _ _ (by decide), t5]
      · rw [p1 1 (by decide), zp_u4 _ _ (by decide), t6]
      · rw [p1 2 (by decide), zp_u4 _ _ (by decide), t7]
      · rw [p1 3 (by decide), zp_u4 _ _ (by decide), t8]
      · rw [p1 4 (by decide), zp_u4 _ _ (by decide), t9]
      · rw [p2 w (by omega), zp_u5 _ _ (by decide), (t3 w hw).2.2.2.2, (hv w hw).2.1, (hv w hw).2.2]
      · rw [zp_u4 _ _ (by decide), t6]; rfl
      · rw [zp_u4 _ _ (by decide), t7]; rfl
      · rw [zp_u4 _ _ (by decide), t9]; rfl
      · rw [zp_u4 _ _ (by decide), t5]; rfl
      · rw [zp_u5 _ _ (by decide), (t3 w hw).2.2.2.2]; exact (hv w hw).2.2
    · exact ⟨0, t, by omega, zp_u3 _ _ _, zp_u3 _ _ _, fun i hi => absurd hi (by omega)⟩
    · exact ⟨0, by omega, zp_u3 _ _ _, by rw [zp_u4 _ _ (by decide), t10]; rfl, fun i hi => absurd hi (by omega)⟩
    · refine ⟨⟨0, zp_u3 _ _ _, by omega⟩, Or.inr ⟨?_, ?_⟩, Or.inr ⟨?_, ?_⟩⟩
      · rw [zp_u3]; rfl
      · rw [zp_u5 _ _ (by decide), t11]
      · rw [zp_u3]; rfl
      · rw [zp_u5 _ _ (by decide), t12]
  · rw [show F_X2_readInto_28 Tx 1000 R1 Tk1 Y1 0 = _ from i2, show F_X8_walls_42 1000 M1 0 = _ from i3, zp_b4, if_neg (zo_neg b' (by omega))]
    exact ⟨_, _, _, _, _, _, _, _, _, _, _, _, rfl, rfl, zr_scr h hU.1 (fun c q0 _ _ _ q2 q3 => hU.2 c q0 q2 q3)⟩
