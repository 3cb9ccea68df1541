/-! ===== PURE 21: holes, the calls ===== -/
theorem zo_hole {n : Nat} {Yt M Sg : Ob} (hY : zr_Y n Yt M) {k : Nat} (k8 : k ≤ 8) (hk1 : Sg 0 0 = nI k) (hk2 : M 0 27 = nI k) (hs : ∀ i, i < k → ∃ h w : Nat, h ≤ 20 ∧ w < n ∧ Sg 1 i = nI h ∧ M 14 i = nI h ∧ Sg 2 i = nI w ∧ M 15 i = nI w ∧ Sg 3 i = M 16 i) (Ah Tn Yi : Ob) {w : Nat} (hw : w < n) {M1 : Ob} (hf : zf M M1) (hy : zy n (zQ4 M) Yi) (hy1 : zp_ag n (Yi 1) (M 4)) : ∃ r Tn' Yi' M', F_X7_holeRate Yt Sg Ah Tn Yi (nI w) = some (r, (Tn', Yi')) ∧ F_X8_hole M1 (nI w) = some (r, M') ∧ zf M M' ∧ zy n (zQ4 M) Yi' ∧ zp_ag n (Yi' 1) (M 4) := by
  obtain ⟨-, hx⟩ := zQ_y hY
  obtain ⟨⟨a1, a2, a3, a4⟩, ⟨-, s2, -⟩, -⟩ := id hY
  have e5 : M1 5 = M 5 := hf.2 5 (by decide) (by decide) (by decide) (by decide)
  have hs' : ∀ i, i < k → ∃ h w : Nat, h ≤ 20 ∧ w < n ∧ M 14 i = nI h ∧ M 15 i = nI w := fun i hi => by
    obtain ⟨h, w, c1, c2, c3, c4, c5, c6, c7⟩ := hs i hi; exact ⟨h, w, c1, c2, c4, c6⟩
  have ck : ∀ {α : Type} (y : Option α), zs_ck (nI w) 6 y = y := fun y => zp_ck (by omega) (by decide)
  have wc : (nI w).toNatClampNeg = w := nI_clamp (by omega)
  have fin : ∀ (Tn Yi M1 : Ob) (u found : Int32), zk w M M1 → zy n (zb_k M w u) Yi → zp_ag n (Yi 1) (M 4) → ∃ r Tn' Yi' M', F_X7_holeRate_65 Yt Sg Ah Tn Yi (nI w) found = some (r, (Tn', Yi')) ∧ F_X8_hole_61 M1 (nI w) (M 5 w) found = some (r, M') ∧ zf M M' ∧ zy n (zQ4 M) Yi' ∧ zp_ag n (Yi' 1) (M 4) := by
    intro Tn Yi M1 u found g1 g2 g3
    unfold F_X7_holeRate_65 F_X8_hole_61
    simp only [zp_let, ck, wc]
    obtain ⟨u1, u2⟩ := zk_u g1 (M 5 w)
    rw [zp_ui] at u2
    refine ⟨_, _, _, _, rfl, rfl, ⟨u1.1, fun c c0 c10 c12 c13 => ?_⟩, ?_, ?_⟩
    · by_cases e : c = 5
      · rw [e]; exact u2
      · exact u1.2.1 c c0 e c10 c12 c13
    · have := zb_ku g2 (M 5 w)
      rw [zb_k0] at this
      rw [s2 w hw]; exact this
    · rw [show (zs_up Yi 2 w (Yt 2 w)) 1 = Yi 1 from by simp [zp_uD]]; exact g3
  have key : ∀ (j i : Nat), i + j = 10 → ∀ f f', j < f → j < f' → ∀ (Tn Yi M1 : Ob) (u found : Int32), zk w M M1 → zy n (zb_k M w u) Yi → zp_ag n (Yi 1) (M 4) → ∃ r Tn' Yi' M', F_X7_holeRate_5 Yt Sg Ah f Tn Yi (nI w) found (nI i) = some (r, (Tn', Yi')) ∧ F_X8_hole_13 f' M1 (nI w) (M 5 w) found (nI i) = some (r, M') ∧ zf M M' ∧ zy n (zQ4 M) Yi' ∧ zp_ag n (Yi' 1) (M 4) := by
    intro j
    induction j with
    | zero =>
      intro i hi f f' hf hf' Tn Yi M1 u found g1 g2 g3
      obtain ⟨f, rfl⟩ := zp_f1 hf
      obtain ⟨f', rfl⟩ := zp_f1 hf'
      have : i = 10 := by omega
      subst this
      rw [F_X7_holeRate_5_n, F_X8_hole_13_n]; unfold F_X7_holeRate_5_s F_X8_hole_13_s
      rw [if_pos (by decide), if_pos (by decide)]
      exact fin Tn Yi M1 u found g1 g2 g3
    | succ j ih =>
      intro i hi f f' hf hf' Tn Yi M1 u found g1 g2 g3
      obtain ⟨f, rfl⟩ := zp_f1 hf
      obtain ⟨f', rfl⟩ := zp_f1 hf'
      rw [F_X7_holeRate_5_n, F_X8_hole_13_n]; unfold F_X7_holeRate_5_s F_X8_hole_13_s
      rw [if_neg (show ¬ (9 : Int32) < nI i from fun q => by have := (nI_ltI (a := 9) (b := i) (by decide) (by omega)).mp q; omega), if_neg (zp_g10 (i := i) (by omega))]
      by_cases q0 : found = -9
      · rw [if_pos q0, if_pos q0]
        unfold F_X7_holeRate_59 F_X8_hole_52 F_X8_hole_54
        simp only [zp_let, ck, wc]
        rw [zp_1]
        obtain ⟨u1, u2⟩ := zk_u g1 (nI i)
        have y2 := zb_ku g2 (nI i)
        have y3 : zp_ag n ((zs_up Yi 2 w (nI i)) 1) (M 4) := by rw [show (zs_up Yi 2 w (nI i)) 1 = Yi 1 from by simp [zp_uD]]; exact g3
        rw [s2 w hw]
        by_cases q1 : nI i = M 5 w
        · rw [if_pos q1, if_pos q1, q0]
          exact ih (i + 1) (by omega) f f' (by omega) (by omega) Tn _ _ (nI i) (-9) u1 y2 y3
        · rw [if_neg q1, if_neg q1]
          obtain ⟨r, T1, r1, r2⟩ := zc_all Ah Tn (q := zb_k M w (nI i)) (M := M) y2 (by unfold zb_k zQ4; rw [zp_rn _ _ (by decide), zp_rs]; exact y3) k8 hk1 hs
          obtain ⟨r', M2, m1, m2, m3⟩ := zm_isSo hx u1 u2 k8 hk2 hs'
          rw [r1, m1, zp_b2, zp_b2]
          have z2 := zk_f u1 m2
          rcases r2 with ⟨c1, c2⟩ | ⟨c1, c2⟩
          · rcases m3 with ⟨d1, d2⟩ | ⟨d1, d2⟩
            · rw [c1, d1, zp_i1, zp_i1]
              exact ih (i + 1) (by omega) f f' (by omega) (by omega) T1 _ M2 (nI i) (nI i) z2 y2 y3
            · exact absurd c2 d2
          · rcases m3 with ⟨d1, d2⟩ | ⟨d1, d2⟩
            · exact absurd d2 c2
            · rw [c1, d1, zp_i0, zp_i0, q0]
              exact ih (i + 1) (by omega) f f' (by omega) (by omega) T1 _ M2 (nI i) (-9) z2 y2 y3
      · rw [if_neg q0, if_neg q0]
        exact fin Tn Yi M1 u found g1 g2 g3
  unfold F_X7_holeRate F_X8_hole
  rw [ck, wc, e5]
  simp only [zp_let]
  refine key 10 0 rfl 1000 1000 (by omega) (by omega) Tn Yi M1 (M 5 w) (-9) ⟨hf.1, fun c c0 c5 c10 c12 c13 => hf.2 c c0 c10 c12 c13, M 5 w, by rw [e5, zp_ui]⟩ (by rw [zb_k0]; exact hy) hy1
theorem zo_holes {Xm : Ob} {tr : Int64} {Tx Pr Sg Im0 Im1 Yt M : Ob} {mt : Int64} (h : zr Xm tr Tx Pr Sg Im0 Im1 Yt M mt) (Ah Tn Yi : Ob) (x : Int32) : ∃ r Tn' Yi' M', F_X7_holes Yt Sg Ah Tn Yi x = some (r, (Tn', Yi')) ∧ F_X8_holes M x = some (r, M') ∧ zr Xm tr Tx Pr Sg Im0 Im1 Yt M' mt := by
  obtain ⟨n, a, b, c, d, e, f⟩ := id h
  obtain ⟨⟨a1, a2, a3, a4⟩, ⟨s1, -⟩, -⟩ := id a
  obtain ⟨hy, hx⟩ := zQ_y a
  obtain ⟨k, k8, hk1, hk2, hs⟩ := id d
  have hs' : ∀ i, i < k → ∃ h w : Nat, h ≤ 20 ∧ w < n ∧ M 14 i = nI h ∧ M 15 i = nI w := fun i hi => by
    obtain ⟨h, w, c1, c2, c3, c4, c5, c6, c7⟩ := hs i hi; exact ⟨h, w, c1, c2, c4, c6⟩
  obtain ⟨Y', k0, k1, k2, k3, k4⟩ := zc_ycopy Yi Yt
  have hy2 := zy_copy hy k1 k3 k4
  have hy4 : zy n (zQ4 M) Y' := by
    obtain ⟨c1, c2, c3, c4, c5, c6, c7⟩ := hy2
    exact ⟨c1, c2, by simpa [zQ4, zp_rD] using c3, by simpa [zQ4, zp_rD] using c4, by simpa [zQ4, zp_rD] using c5, by simpa [zQ4, zp_rD] using c6, by simpa [zQ4, zp_rD] using c7⟩
  have hy1 : zp_ag n (Y' 1) (M 4) := fun j hj => by rw [k3 1 (Or.inl rfl) j (by omega), s1 j hj]
  have main : x = -1 ∨ (∃ w, w < n ∧ x = nI w) → ∃ r Tn' Yi' M', F_X7_holes_15 Yt Sg Ah Tn Yi x = some (r, (Tn', Yi')) ∧ F_X8_holes_15 M x = some (r, M') ∧ zr Xm tr Tx Pr Sg Im0 Im1 Yt M' mt := by
    intro hxx
    unfold F_X7_holes_15 F_X8_holes_15
    rw [k0, zp_bd]
    rcases hxx with rfl | ⟨w, hw, rfl⟩
    · rw [if_pos rfl, if_pos (by decide)]
      have key : ∀ (j i : Nat), i + j = n → ∀ f f', j < f → j < f' → ∀ (Tn Yi M1 : Ob) (bits : Int32), zf M M1 → zy n (zQ4 M) Yi → zp_ag n (Yi 1) (M 4) → ∃ r Tn' Yi' M', F_X7_holesOfAll_23 Yt Sg Ah f Tn Yi bits (nI i) = some (r, (Tn', Yi')) ∧ F_X8_holes_41 f' M1 bits (nI i) = some (r, M') ∧ zf M M' := by
        intro j
        induction j with
        | zero =>
          intro i hi f f' hf hf' Tn Yi M1 bits g1 g2 g3
          obtain ⟨f, rfl⟩ := zp_f1 hf
          obtain ⟨f', rfl⟩ := zp_f1 hf'
          have : i = n := by omega
          subst this
          rw [F_X7_holesOfAll_23_n, F_X8_holes_41_n]; unfold F_X7_holesOfAll_23_s F_X8_holes_41_s
          rw [a1, g1.1, a2, if_pos (nI_le (Nat.le_refl _) (by omega)), if_pos (nI_le (Nat.le_refl _) (by omega))]
          exact ⟨_, _, _, _, rfl, rfl, g1⟩
        | succ j ih =>
          intro i hi f f' hf hf' Tn Yi M1 bits g1 g2 g3
          obtain ⟨f, rfl⟩ := zp_f1 hf
          obtain ⟨f', rfl⟩ := zp_f1 hf'
          rw [F_X7_holesOfAll_23_n, F_X8_holes_41_n]; unfold F_X7_holesOfAll_23_s F_X8_holes_41_s F_X7_holesOfAll_50 F_X8_holes_67
          rw [a1, g1.1, a2, if_neg (nI_ge (by omega) (by omega)), if_neg (nI_ge (by omega) (by omega))]
          obtain ⟨r, T1, Y1, M2, r1, r2, r3, r4, r5⟩ := zo_hole a k8 hk1 hk2 hs Ah Tn Yi (w := i) (by omega) g1 g2 g3
          rw [r1, r2, zp_b3, zp_b2]
          simp only [zp_let]
          rw [zp_1, zo_or0]
          by_cases q : r = -9
          · rw [if_pos q, if_pos q]
            exact ih (i + 1) (by omega) f f' (by omega) (by omega) T1 Y1 M2 bits r3 r4 r5
          · rw [if_neg q, if_neg q]
            exact ih (i + 1) (by omega) f f' (by omega) (by omega) T1 Y1 M2 _ r3 r4 r5
      obtain ⟨r, T1, r1, r2⟩ := zc_all Ah Tn (q := zQ4 M) (M := M) hy4 (by unfold zQ4; rw [zp_rs]; exact hy1) k8 hk1 hs
      obtain ⟨r', M2, m1, m2, m3⟩ := zm_isSo (w := 0) (M1 := M) (u := M 5 0) hx ⟨rfl, fun _ _ _ _ _ _ => rfl, M 5 0, (zp_ui _ _).symm⟩ (zp_ui _ _).symm k8 hk2 hs'
      rw [zb_k0] at m3
      unfold F_X7_holesOfAll F_X7_holesOfAll_20 F_X8_holes_38
      rw [r1, m1, zp_b2, zp_b2]
      have fin : ∀ bits, ∃ r Tn' Yi' M', (zs_b3 (F_X7_holesOfAll_23 Yt Sg Ah 1000 T1 Y' bits 0) fun r11 Tnw12 Yiw13 => some (r11, (Tnw12, Yiw13))) = some (r, (Tn', Yi')) ∧ F_X8_holes_41 1000 M2 bits 0 = some (r, M') ∧ zr Xm tr Tx Pr Sg Im0 Im1 Yt M' mt := by
        intro bits
        obtain ⟨r, T3, Y3, M3, n1, n2, n3⟩ := key n 0 (by omega) 1000 1000 (by omega) (by omega) T1 Y' M2 bits m2 hy4 hy1
        exact ⟨r, T3, Y3, M3, by rw [show F_X7_holesOfAll_23 Yt Sg Ah 1000 T1 Y' bits 0 = _ from n1, zp_b3], n2, zf_zr h n3⟩
      rcases r2 with ⟨c1, c2⟩ | ⟨c1, c2⟩
      · rcases m3 with ⟨d1, d2⟩ | ⟨d1, d2⟩
        · rw [c1, d1, zp_i1, zp_i1]; exact fin 64
        · exact absurd c2 d2
      · rcases m3 with ⟨d1, d2⟩ | ⟨d1, d2⟩
        · exact absurd d2 c2
        · rw [c1, d1, zp_i0, zp_i0]; exact fin 0
    · have hne : ¬ nI w = -1 := fun q => by
        have h1 := nI_toInt (n := w) (by omega)
        rw [q] at h1
        have : (-1 : Int32).toInt = -1 := rfl
        omega
      rw [if_neg hne, if_neg (zp_nneg (by omega))]
      obtain ⟨r, T1, Y1, M2, r1, r2, r3, r4, r5⟩ := zo_hole a k8 hk1 hk2 hs Ah Tn Y' hw (zf_r M) hy4 hy1
      rw [r1, r2, zp_b3, zp_b2]
      exact ⟨_, _, _, _, rfl, rfl, zf_zr h r3⟩
  unfold F_X7_holes F_X8_holes
  by_cases q : x = -1
  · rw [if_pos q, if_pos q]; exact main (Or.inl q)
  · rw [if_neg q, if_neg q]
    rcases zq_wall a1 a2 a3 x with ⟨w, hw, hw2, e3, e4⟩ | ⟨e3, e4⟩
    · rw [e3, e4, zp_bd, zp_bd, zp_i1, zp_i1]; exact main (Or.inr ⟨w, hw, hw2⟩)
    · rw [e3, e4, zp_bd, zp_bd, zp_i0, zp_i0]; exact ⟨_, _, _, _, rfl, rfl, h⟩
