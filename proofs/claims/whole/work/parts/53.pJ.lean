/-! ===== PURE 10: images, text ===== -/
theorem zr_Pc {n : Nat} (h6 : n ≤ 6) {h sh mi gv un : Int32} {wm ud wm' ud' : Nat → Int32} {P P' : Ob} (hP : zr_P n h sh mi gv un wm ud P) (h0 : ∀ k, k < 5 → P' 0 k = P 0 k) (h1 : ∀ j, j < 6 → P' 1 j = P 1 j) (h3 : ∀ j, j < 10 → P' 3 j = P 3 j) (hw : ∀ j, j < 6 → wm' j = wm j) (hu : ∀ j, j < 10 → ud' j = ud j) : zr_P n h sh mi gv un wm' ud' P' := by
  obtain ⟨⟨a1, a2, a3, a4, a5⟩, b, c, d, ⟨u, e1, e2, e3⟩, hh, v, f1, f2, f3, f4⟩ := hP
  refine ⟨⟨by rw [h0 0 (by decide), a1], by rw [h0 1 (by decide), a2], by rw [h0 2 (by decide), a3], by rw [h0 3 (by decide), a4], by rw [h0 4 (by decide), a5]⟩, fun j hj => by rw [h1 j (by omega), hw j (by omega)]; exact b j hj, c, d, ⟨u, e1, e2, fun i hi => by rw [h3 i (by omega), hu i (by omega)]; exact e3 i hi⟩, hh, v, f1, f2, fun w hw' => by rw [hw w (by omega)]; exact f3 w hw', f4⟩
theorem zr_Jc {n b : Nat} (h6 : n ≤ 6) {kept : Int32} {Im M M' : Ob} (hJ : zr_J n b kept Im M) (hc : ∀ i, i < 21 → M' 17 (b + i) = M 17 (b + i)) : zr_J n b kept Im M' := by
  rcases hJ with ⟨k1, hP⟩ | ⟨k0, h⟩
  · refine Or.inl ⟨k1, ?_⟩
    rw [show M' 17 b = M 17 b from hc 0 (by decide), hc 1 (by decide), hc 2 (by decide), hc 3 (by decide), hc 4 (by decide)]
    refine zr_Pc h6 hP (fun _ _ => rfl) (fun _ _ => rfl) (fun _ _ => rfl) (fun j hj => ?_) (fun j hj => ?_)
    · have := hc (5 + j) (by omega); rw [← Nat.add_assoc] at this; exact this
    · have := hc (11 + j) (by omega); rw [← Nat.add_assoc] at this; exact this
  · exact Or.inr ⟨k0, by rw [show M' 17 b = M 17 b from hc 0 (by decide)]; exact h⟩
theorem zm_keep (M : Ob) {k : Nat} (hk : k ≤ 1) : ∃ g : Nat → Int32, F_X8_keep M (nI k) = some (M 0 18, zp_row M 17 g) ∧ g (21 * k) = M 0 18 ∧ g (21 * k + 1) = M 0 19 ∧ g (21 * k + 2) = M 0 20 ∧ g (21 * k + 3) = M 0 21 ∧ g (21 * k + 4) = M 0 24 ∧ (∀ j, j < 6 → g (21 * k + 5 + j) = M 9 j) ∧ (∀ j, j < 10 → g (21 * k + 11 + j) = M 11 j) ∧ (∀ i, i < 21 * k ∨ 21 * k + 21 ≤ i → g i = M 17 i) := by
  have hin : F_X8_in (nI k).toInt64 0 1 = some 1 := by
    rcases (show k = 0 ∨ k = 1 by omega) with rfl | rfl <;> rfl
  unfold F_X8_keep
  rw [hin, zp_bd, zp_i1]
  simp only [zp_let]
  have e21 : (21 : Int32) * nI k = nI (21 * k) := by rw [show (21 : Int32) = nI 21 from rfl, pk_mul]
  have ea : ∀ a b : Nat, nI a + nI b = nI (a + b) := fun a b => nI_add a b
  rw [e21, show nI (21 * k) + (1 : Int32) = nI (21 * k + 1) from ea _ 1, show nI (21 * k) + (2 : Int32) = nI (21 * k + 2) from ea _ 2, show nI (21 * k) + (3 : Int32) = nI (21 * k + 3) from ea _ 3, show nI (21 * k) + (4 : Int32) = nI (21 * k + 4) from ea _ 4]
  have ck : ∀ (j : Nat) (y : Option (Int32 × Ob)), j < 42 → zs_ck (nI j) 42 y = y := fun j y h => zp_ck h (by decide)
  rw [ck _ _ (by omega), ck _ _ (by omega), ck _ _ (by omega), ck _ _ (by omega), ck _ _ (by omega), nI_clamp (by omega), nI_clamp (by omega), nI_clamp (by omega), nI_clamp (by omega), nI_clamp (by omega)]
  have s0 : ∀ (Q : Ob) i v, (zs_up Q 17 i v) 0 = Q 0 := fun Q i v => by simp[zp_uD]
  simp only [s0]
  have l1 := fun Q => zp_cpl0 (N := 10) (b := 21 * k + 11) (c := 17) (S := fun P => P 11) (fun P g => zp_rn P g (by decide)) (K := fun P => F_X8_keep_136 P) (F := fun f P i => F_X8_keep_107 f P (nI (21 * k)) i)
    (fun f P => by show F_X8_keep_107 (f + 1) P _ (nI 10) = _; rw [F_X8_keep_107_n]; unfold F_X8_keep_107_s; rw [if_pos (by decide)])
    (fun f P i hi => by
      show F_X8_keep_107 (f + 1) P _ (nI i) = F_X8_keep_107 f _ _ _
      rw [F_X8_keep_107_n]; unfold F_X8_keep_107_s zs_let
      rw [if_neg (zp_g10 (i := i) (by omega)), show nI (21 * k) + (11 : Int32) + nI i = nI (21 * k + 11 + i) from by rw [show (11 : Int32) = nI 11 from rfl, nI_add, nI_add], zp_ck (by omega) (by decide), zp_ck (by omega) (by decide), nI_clamp (by omega), nI_clamp (by omega), zp_1]) Q (f := 1000) (by decide)
  have l2 := fun Q => zp_cpl0 (N := 6) (b := 21 * k + 5) (c := 17) (S := fun P => P 9) (fun P g => zp_rn P g (by decide)) (K := fun P => F_X8_keep_105 P (nI (21 * k))) (F := fun f P i => F_X8_keep_77 f P (nI (21 * k)) i)
    (fun f P => by show F_X8_keep_77 (f + 1) P _ (nI 6) = _; rw [F_X8_keep_77_n]; unfold F_X8_keep_77_s; rw [if_pos (by decide)])
    (fun f P i hi => by
      show F_X8_keep_77 (f + 1) P _ (nI i) = F_X8_keep_77 f _ _ _
      rw [F_X8_keep_77_n]; unfold F_X8_keep_77_s zs_let
      rw [if_neg (zp_g6 (i := i) (by omega)), show nI (21 * k) + (5 : Int32) + nI i = nI (21 * k + 5 + i) from by rw [show (5 : Int32) = nI 5 from rfl, nI_add, nI_add], zp_ck (by omega) (by decide), zp_ck (by omega) (by decide), nI_clamp (by omega), nI_clamp (by omega), zp_1]) Q (f := 1000) (by decide)
  try dsimp only at l1 l2
  rw [l2]
  unfold F_X8_keep_105
  rw [l1]
  unfold F_X8_keep_136
  rw [zp_rr]
  have r9 : ∀ (Q : Ob) i v, (zs_up Q 17 i v) 9 = Q 9 := fun Q i v => by simp[zp_uD]
  have r11 : ∀ (Q : Ob) i v, (zs_up Q 17 i v) 11 = Q 11 := fun Q i v => by simp[zp_uD]
  simp only [zp_rn _ _ (show (0 : Nat) ≠ 17 by decide), zp_rn _ _ (show (11 : Nat) ≠ 17 by decide), zp_rs, s0, r9, r11]
  refine ⟨zp_fb (21 * k + 11) (M 11) (zp_fb (21 * k + 5) (M 9) (upd (upd (upd (upd (upd (M 17) (21 * k) (M 0 18)) (21 * k + 1) (M 0 19)) (21 * k + 2) (M 0 20)) (21 * k + 3) (M 0 21)) (21 * k + 4) (M 0 24)) 6) 10, ?_, ?_, ?_, ?_, ?_, ?_, ?_, ?_, ?_⟩
  · congr 2
    funext c
    by_cases h : c = 17
    · subst h; simp[zp_rD, zp_uD]
    · simp[zp_rD, zp_uD, h]
  · rw [zp_fbo (by omega), zp_fbo (by omega), zp_un _ _ (by omega), zp_un _ _ (by omega), zp_un _ _ (by omega), zp_un _ _ (by omega), zp_us]
  · rw [zp_fbo (by omega), zp_fbo (by omega), zp_un _ _ (by omega), zp_un _ _ (by omega), zp_un _ _ (by omega), zp_us]
  · rw [zp_fbo (by omega), zp_fbo (by omega), zp_un _ _ (by omega), zp_un _ _ (by omega), zp_us]
  · rw [zp_fbo (by omega), zp_fbo (by omega), zp_un _ _ (by omega), zp_us]
  · rw [zp_fbo (by omega), zp_fbo (by omega), zp_us]
  · intro j hj
    rw [zp_fbo (by omega), zp_fbi hj]
  · intro j hj
    rw [zp_fbi hj]
  · intro i hi
    rw [zp_fbo (by omega), zp_fbo (by omega), zp_un _ _ (by omega), zp_un _ _ (by omega), zp_un _ _ (by omega), zp_un _ _ (by omega), zp_un _ _ (by omega)]
theorem zo_bits : ∀ a, a < 4 → (nI a ||| ((1 : Int32) <<< (nI 0 &&& 31)) = nI (a ||| 1) ∧ nI a ||| ((1 : Int32) <<< (nI 1 &&& 31)) = nI (a ||| 2) ∧ a ||| 1 < 4 ∧ a ||| 2 < 4 ∧ zp_bt (nI (a ||| 1)) 0 = 1 ∧ zp_bt (nI (a ||| 1)) 1 = zp_bt (nI a) 1 ∧ zp_bt (nI (a ||| 2)) 0 = zp_bt (nI a) 0 ∧ zp_bt (nI (a ||| 2)) 1 = 1) := by decide +kernel
theorem zo_keep {Xm : Ob} {tr : Int64} {Tx Pr Sg Im0 Im1 Yt M : Ob} {mt : Int64} (h : zr Xm tr Tx Pr Sg Im0 Im1 Yt M mt) (x : Int32) : ∃ r Xm' Im0' Im1' M', F_X7_keep Xm Pr Im0 Im1 x = some (r, (Xm', (Im0', Im1'))) ∧ F_X8_keep M x = some (r, M') ∧ zr Xm' tr Tx Pr Sg Im0' Im1' Yt M' mt := by
  obtain ⟨n, a, b, c, d, e, f⟩ := id h
  obtain ⟨⟨a1, a2, a3, a4⟩, -⟩ := id a
  obtain ⟨⟨b1, b2, b3, b4, b5⟩, -⟩ := id b
  obtain ⟨⟨bits, i1, i2⟩, J0, J1⟩ := id e
  obtain ⟨z1, z2, z3, z4, z5, z6, z7, z8⟩ := zo_bits bits i2
  rcases zq_img x with ⟨k, hk, rfl, e1, e2⟩ | ⟨e1, e2⟩
  · obtain ⟨g, m0, m1, m2, m3, m4, m5, m6, m7, m8⟩ := zm_keep M hk
    rw [m0]
    unfold F_X7_keep
    rw [e1, zp_bd, zp_i1, zp_ck (by omega) (by decide)]
    have base : ∀ Xm' Im0' Im1', zr_I n Xm' Im0' Im1' (zp_row M 17 g) → zr Xm' tr Tx Pr Sg Im0' Im1' Yt (zp_row M 17 g) mt := by
      intro Xm' Im0' Im1' hI
      refine ⟨n, ?_, ?_, ?_, ?_, hI, f⟩
      · refine zr_Yc a ?_ ?_ ?_ ?_ ?_ ?_ ?_ <;> simp[zp_rD]
      · refine zr_Nc b ?_ ?_ ?_ ?_ ?_ (fun j _ => ?_) ?_ <;> simp[zp_rD]
      · refine zr_Tc c ?_ ?_ <;> simp[zp_rD]
      · refine zr_Sc d ?_ ?_ ?_ ?_ <;> simp[zp_rD]
    have hJ : ∀ P' : Ob, (∀ k, k < 5 → P' 0 k = Pr 0 k) → (∀ j, j < 6 → P' 1 j = Pr 1 j) → (∀ j, j < 10 → P' 3 j = Pr 3 j) → zr_J n (21 * k) 1 P' (zp_row M 17 g) := by
      intro P' q0 q1 q3
      refine Or.inl ⟨rfl, ?_⟩
      rw [zp_rs, m1, m2, m3, m4, m5]
      exact zr_Pc a3 b q0 q1 q3 m6 m7
    have hO : ∀ b' kept Im, b' = 0 ∨ b' = 21 → b' ≠ 21 * k → zr_J n b' kept Im M → zr_J n b' kept Im (zp_row M 17 g) := by
      intro b' kept Im hb hn hj
      refine zr_Jc a3 hj (fun i hi => ?_)
      rw [zp_rs]
      exact m8 _ (by omega)
    rcases (show k = 0 ∨ k = 1 by omega) with rfl | rfl
    · rw [if_pos (by decide)]
      obtain ⟨P', p0, p1, p2, p3⟩ := zc_copyC Im0 Pr
      rw [p0, zp_bd]
      simp only [zp_let]
      refine ⟨_, _, _, _, _, by rw [b1], rfl, base _ _ _ ⟨⟨bits ||| 1, by simp[zp_uD, zp_upR, i1, z1], z3⟩, ?_, ?_⟩⟩
      · have : zp_bt ((zs_up Xm 0 8 (Xm 0 8 ||| (1 : Int32) <<< (nI 0 &&& 31))) 0 8) 0 = 1 := by
          rw [show (zs_up Xm 0 8 (Xm 0 8 ||| (1 : Int32) <<< (nI 0 &&& 31))) 0 8 = Xm 0 8 ||| (1 : Int32) <<< (nI 0 &&& 31) by simp[zp_uD, zp_upR], i1, z1, z5]
        rw [this]; exact hJ P' p1 p2 p3
      · have : zp_bt ((zs_up Xm 0 8 (Xm 0 8 ||| (1 : Int32) <<< (nI 0 &&& 31))) 0 8) 1 = zp_bt (Xm 0 8) 1 := by
          rw [show (zs_up Xm 0 8 (Xm 0 8 ||| (1 : Int32) <<< (nI 0 &&& 31))) 0 8 = Xm 0 8 ||| (1 : Int32) <<< (nI 0 &&& 31) by simp[zp_uD, zp_upR], i1, z1, z6]
        rw [this]; exact hO 21 _ _ (Or.inr rfl) (by decide) J1
    · rw [if_neg (by decide)]
      obtain ⟨P', p0, p1, p2, p3⟩ := zc_copyC Im1 Pr
      rw [p0, zp_bd]
      simp only [zp_let]
      refine ⟨_, _, _, _, _, by rw [b1], rfl, base _ _ _ ⟨⟨bits ||| 2, by simp[zp_uD, zp_upR, i1, z2], z4⟩, ?_, ?_⟩⟩
      · have : zp_bt ((zs_up Xm 0 8 (Xm 0 8 ||| (1 : Int32) <<< (nI 1 &&& 31))) 0 8) 0 = zp_bt (Xm 0 8) 0 := by
          rw [show (zs_up Xm 0 8 (Xm 0 8 ||| (1 : Int32) <<< (nI 1 &&& 31))) 0 8 = Xm 0 8 ||| (1 : Int32) <<< (nI 1 &&& 31) by simp[zp_uD, zp_upR], i1, z2, z7]
        rw [this]; exact hO 0 _ _ (Or.inl rfl) (by decide) J0
      · have : zp_bt ((zs_up Xm 0 8 (Xm 0 8 ||| (1 : Int32) <<< (nI 1 &&& 31))) 0 8) 1 = 1 := by
          rw [show (zs_up Xm 0 8 (Xm 0 8 ||| (1 : Int32) <<< (nI 1 &&& 31))) 0 8 = Xm 0 8 ||| (1 : Int32) <<< (nI 1 &&& 31) by simp[zp_uD, zp_upR], i1, z2, z8]
        rw [this]; exact hJ P' p1 p2 p3
  · unfold F_X7_keep F_X8_keep
    rw [e1, show F_X8_in x.toInt64 0 1 = _ from e2, zp_bd, zp_bd, zp_i0, zp_i0]; exact ⟨_, _, _, _, _, rfl, rfl, h⟩
theorem zm_back (M : Ob) {k : Nat} (hk : k ≤ 1) (h0 : 0 ≤ M 17 (21 * k)) : ∃ M' : Ob, F_X8_back M (nI k) = some (M 17 (21 * k), M') ∧ M' 0 18 = M 17 (21 * k) ∧ M' 0 19 = M 17 (21 * k + 1) ∧ M' 0 20 = M 17 (21 * k + 2) ∧ M' 0 21 = M 17 (21 * k + 3) ∧ M' 0 24 = M 17 (21 * k + 4) ∧ (∀ j, j < 6 → M' 9 j = M 17 (21 * k + 5 + j)) ∧ (∀ j, j < 10 → M' 11 j = M 17 (21 * k + 11 + j)) ∧ (∀ j, j ≠ 18 → j ≠ 19 → j ≠ 20 → j ≠ 21 → j ≠ 24 → M' 0 j = M 0 j) ∧ (∀ c, c ≠ 0 → c ≠ 9 → c ≠ 11 → M' c = M c) := by
  have hin : F_X8_in (nI k).toInt64 0 1 = some 1 := by
    rcases (show k = 0 ∨ k = 1 by omega) with rfl | rfl <;> rfl
  unfold F_X8_back
  rw [hin, zp_bd, zp_i1]
  simp only [zp_let]
  have e21 : (21 : Int32) * nI k = nI (21 * k) := by rw [show (21 : Int32) = nI 21 from rfl, pk_mul]
  have ea : ∀ a b : Nat, nI a + nI b = nI (a + b) := fun a b => nI_add a b
  rw [e21, show nI (21 * k) + (1 : Int32) = nI (21 * k + 1) from ea _ 1, show nI (21 * k) + (2 : Int32) = nI (21 * k + 2) from ea _ 2, show nI (21 * k) + (3 : Int32) = nI (21 * k + 3) from ea _ 3, show nI (21 * k) + (4 : Int32) = nI (21 * k + 4) from ea _ 4]
  have ck : ∀ (j : Nat) (y : Option (Int32 × Ob)), j < 42 → zs_ck (nI j) 42 y = y := fun j y h => zp_ck h (by decide)
  have s17 : ∀ (Q : Ob) i v, (zs_up Q 0 i v) 17 = Q 17 := fun Q i v => by simp[zp_uD]
  simp only [s17]
  rw [nI_clamp (show 21 * k < 2 ^ 31 by omega), nI_clamp (show 21 * k + 1 < 2 ^ 31 by omega), nI_clamp (show 21 * k + 2 < 2 ^ 31 by omega), nI_clamp (show 21 * k + 3 < 2 ^ 31 by omega), nI_clamp (show 21 * k + 4 < 2 ^ 31 by omega), if_pos h0]
  rw [ck _ _ (by omega), ck _ _ (by omega), ck _ _ (by omega), ck _ _ (by omega), ck _ _ (by omega), ck _ _ (by omega)]
  have l1 := fun Q => zp_cpl0 (N := 10) (b := 0) (c := 11) (S := fun P i => P 17 (21 * k + 11 + i)) (fun P g => by funext i; rw [zp_rn P g (by decide)]) (K := fun P => F_X8_back_148 P) (F := fun f P i => F_X8_back_119 f P (nI (21 * k)) i)
    (fun f P => by show F_X8_back_119 (f + 1) P _ (nI 10) = _; rw [F_X8_back_119_n]; unfold F_X8_back_119_s; rw [if_pos (by decide)])
    (fun f P i hi => by
      show F_X8_back_119 (f + 1) P _ (nI i) = F_X8_back_119 f _ _ _
      rw [F_X8_back_119_n]; unfold F_X8_back_119_s zs_let
      rw [if_neg (zp_g10 (i := i) (by omega)), show nI (21 * k) + (11 : Int32) + nI i = nI (21 * k + 11 + i) from by rw [show (11 : Int32) = nI 11 from rfl, nI_add, nI_add], zp_ck (by omega) (by decide), zp_ck (by omega) (by decide), nI_clamp (by omega), nI_clamp (by omega), zp_1, Nat.zero_add]) Q (f := 1000) (by decide)
  have l2 := fun Q => zp_cpl0 (N := 6) (b := 0) (c := 9) (S := fun P i => P 17 (21 * k + 5 + i)) (fun P g => by funext i; rw [zp_rn P g (by decide)]) (K := fun P => F_X8_back_117 P (nI (21 * k))) (F := fun f P i => F_X8_back_89 f P (nI (21 * k)) i)
    (fun f P => by show F_X8_back_89 (f + 1) P _ (nI 6) = _; rw [F_X8_back_89_n]; unfold F_X8_back_89_s; rw [if_pos (by decide)])
    (fun f P i hi => by
      show F_X8_back_89 (f + 1) P _ (nI i) = F_X8_back_89 f _ _ _
      rw [F_X8_back_89_n]; unfold F_X8_back_89_s zs_let
      rw [if_neg (zp_g6 (i := i) (by omega)), show nI (21 * k) + (5 : Int32) + nI i = nI (21 * k + 5 + i) from by rw [show (5 : Int32) = nI 5 from rfl, nI_add, nI_add], zp_ck (by omega) (by decide), zp_ck (by omega) (by decide), nI_clamp (by omega), nI_clamp (by omega), zp_1, Nat.zero_add]) Q (f := 1000) (by decide)
  try dsimp only at l1 l2
  rw [l2]
  unfold F_X8_back_117
  rw [l1]
  unfold F_X8_back_148
  have fz : ∀ (f g : Nat → Int32) N j, j < N → zp_fb 0 f g N j = f j := by
    intro f g N j hj
    have := zp_fbi (b := 0) (f := f) (g := g) hj
    rwa [Nat.zero_add] at this
  have kk : ∀ (P : Ob) (v : Int32), P 0 18 = v → some (P 0 18, P) = some (v, P) := fun P v h => by rw [h]
  refine ⟨_, kk _ _ ?_, ?_, ?_, ?_, ?_, ?_, ?_, ?_, ?_, ?_⟩
  · simp [zp_rD, zp_uD, zp_upR]
  · simp[zp_rD, zp_uD, zp_upR]
  · simp[zp_rD, zp_uD, zp_upR]
  · simp[zp_rD, zp_uD, zp_upR]
  · simp[zp_rD, zp_uD, zp_upR]
  · simp[zp_rD, zp_uD, zp_upR]
  · intro j hj
    rw [zp_rn _ _ (by decide), zp_rs, fz _ _ _ _ hj]
    simp[zp_uD]
  · intro j hj
    rw [zp_rs, fz _ _ _ _ hj, zp_rn _ _ (by decide)]
    simp[zp_uD]
  · intro j h1 h2 h3 h4 h5
    simp[zp_rD, zp_uD, zp_upR, h1, h2, h3, h4, h5]
  · intro c h1 h2 h3
    simp[zp_rD, zp_uD, h1, h2, h3]
theorem zo_back {Xm : Ob} {tr : Int64} {Tx Pr Sg Im0 Im1 Yt M : Ob} {mt : Int64} (h : zr Xm tr Tx Pr Sg Im0 Im1 Yt M mt) (x : Int32) : ∃ r Pr' M', F_X7_back Xm Pr Im0 Im1 x = some (r, Pr') ∧ F_X8_back M x = some (r, M') ∧ zr Xm tr Tx Pr' Sg Im0 Im1 Yt M' mt := by
  obtain ⟨n, a, b, c, d, e, f⟩ := id h
  obtain ⟨⟨a1, a2, a3, a4⟩, -⟩ := id a
  obtain ⟨⟨bits, i1, i2⟩, J0, J1⟩ := id e
  rcases zq_img x with ⟨k, hk, rfl, e1, e2⟩ | ⟨e1, e2⟩
  · have main : ∀ Im : Ob, zr_J n (21 * k) (zp_bt (Xm 0 8) k) Im M → (∃ r Pr' M', (zs_bd (F_X7_bit (Xm 0 8) (nI k)) fun r4 => if r4 = 0 then some (-2, Pr) else zs_bd (F_X1_copyWithChanges Pr Im) fun Prw9 => some (Prw9 0 0, Prw9)) = some (r, Pr') ∧ F_X8_back M (nI k) = some (r, M') ∧ zr Xm tr Tx Pr' Sg Im0 Im1 Yt M' mt) := by
      intro Im hJ
      rw [zc_bit, zp_bd]
      rcases hJ with ⟨k1, hP⟩ | ⟨k0, hq⟩
      · rw [k1, if_neg (by decide)]
        obtain ⟨P', p0, p1, p2, p3⟩ := zc_copyC Pr Im
        have h0 : 0 ≤ M 17 (21 * k) := by
          obtain ⟨-, -, -, -, -, hh, v, g1, g2, -⟩ := id hP
          rw [g1]; exact (nI_leI (a := 0) (b := hh) (by decide) (by omega)).mpr (by omega)
        obtain ⟨M', m0, m1, m2, m3, m4, m5, m6, m7, m8, m9⟩ := zm_back M hk h0
        rw [p0, zp_bd, m0]
        refine ⟨_, _, _, by rw [p1 0 (by decide), hP.1.1], rfl, n, ?_, ?_, ?_, ?_, ?_, f⟩
        · exact zr_Yc a (m8 _ (by decide) (by decide) (by decide) (by decide) (by decide)) (m8 _ (by decide) (by decide) (by decide) (by decide) (by decide)) (m9 _ (by decide) (by decide) (by decide)) (m9 _ (by decide) (by decide) (by decide)) (m9 _ (by decide) (by decide) (by decide)) (m9 _ (by decide) (by decide) (by decide)) (m9 _ (by decide) (by decide) (by decide))
        · unfold zr_N
          rw [m1, m2, m3, m4, m5]
          exact zr_Pc a3 hP p1 p2 p3 m6 m7
        · exact zr_Tc c (m8 _ (by decide) (by decide) (by decide) (by decide) (by decide)) (m9 _ (by decide) (by decide) (by decide))
        · exact zr_Sc d (m8 _ (by decide) (by decide) (by decide) (by decide) (by decide)) (m9 _ (by decide) (by decide) (by decide)) (m9 _ (by decide) (by decide) (by decide)) (m9 _ (by decide) (by decide) (by decide))
        · exact zr_Ic e (m9 _ (by decide) (by decide) (by decide))
      · rw [k0, if_pos rfl]
        refine ⟨_, _, M, rfl, ?_, h⟩
        unfold F_X8_back
        rw [show F_X8_in (nI k).toInt64 0 1 = _ from e2, zp_bd, zp_i1]
        simp only [zp_let]
        rw [show (21 : Int32) * nI k = nI (21 * k) by rw [show (21 : Int32) = nI 21 from rfl, pk_mul], zp_ck (by omega) (by decide), nI_clamp (by omega), hq, if_neg (by decide)]
    unfold F_X7_back
    rw [e1, zp_bd, zp_i1]
    rcases (show k = 0 ∨ k = 1 by omega) with rfl | rfl
    · obtain ⟨r, Pr', M', q1, q2, q3⟩ := main Im0 J0
      refine ⟨r, Pr', M', ?_, q2, q3⟩
      rw [← q1]
      rfl
    · obtain ⟨r, Pr', M', q1, q2, q3⟩ := main Im1 J1
      refine ⟨r, Pr', M', ?_, q2, q3⟩
      rw [← q1]
      rfl
  · unfold F_X7_back F_X8_back
    rw [e1, show F_X8_in x.toInt64 0 1 = _ from e2, zp_bd, zp_bd, zp_i0, zp_i0]; exact ⟨_, _, _, rfl, rfl, h⟩
