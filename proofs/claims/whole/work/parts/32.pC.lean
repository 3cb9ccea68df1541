/-! ===== PURE 3: the reference's hour ===== -/
/-! the reference's hour over the row warm -/
theorem zm_112_warm (M : Ob) {n : Nat} (hn : M 0 10 = nI n) (h6 : n ≤ 6) (sh mi dk : Int32) (w : Nat) (hw : w < n) (g : Int32) (q0 : (Nat → Int32) × Int32) (r65 : Ob → Int32 → Int32 → Int32 → Int32 → Option (Int32 × Ob)) : ∀ (k i : Nat), i + k = n → ∀ f, k < f → F_X8_goes_warm_112 r65 f (zp_row M 10 (zh_in sh mi (M 8) g w i q0).1) sh mi dk (nI w) g (zh_in sh mi (M 8) g w i q0).2 (nI i) = F_X8_goes_warm_234 r65 (zp_row M 10 (zh_in sh mi (M 8) g w n q0).1) sh mi dk (nI w) g (zh_in sh mi (M 8) g w n q0).2 := by
  intro k
  induction k with
  | zero =>
    intro i hi f hf
    obtain ⟨f, rfl⟩ := zp_f1 hf
    have : i = n := by omega
    subst this
    rw [F_X8_goes_warm_112_n]; unfold F_X8_goes_warm_112_s
    rw [zp_rn M _ (show (0 : Nat) ≠ 10 by decide), hn, if_pos (nI_le (Nat.le_refl _) (by omega))]
  | succ k ih =>
    intro i hi f hf
    obtain ⟨f, rfl⟩ := zp_f1 hf
    have h1 := ih (i + 1) (by omega) f (by omega)
    rw [F_X8_goes_warm_112_n]; unfold F_X8_goes_warm_112_s
    rw [zp_rn M _ (show (0 : Nat) ≠ 10 by decide), zp_rn M _ (show (8 : Nat) ≠ 10 by decide), hn, if_neg (nI_ge (by omega) (by omega)), zp_ix1, zp_ck (by omega) (by decide), nI_clamp (by omega)]
    rw [zh_in] at h1
    generalize zh_in sh mi (M 8) g w i q0 = r at h1 ⊢
    obtain ⟨R, l⟩ := r
    unfold zs_let
    dsimp only at h1 ⊢
    generalize g * M 8 (6 * w + i) / 10 = x at h1 ⊢
    have e2 : (zp_row M 10 R) 10 = R := zp_rs M 10 R
    have hwc : (nI w).toNatClampNeg = w := nI_clamp (by omega)
    have hic : (nI i).toNatClampNeg = i := nI_clamp (by omega)
    have ckw : ∀ (y : Option (Int32 × Ob)), zs_ck (nI w) 6 y = y := fun y => zp_ck (by omega) (by decide)
    have cki : ∀ (y : Option (Int32 × Ob)), zs_ck (nI i) 6 y = y := fun y => zp_ck (by omega) (by decide)
    have d1 : ∀ (S : Ob) (x10 : Int32), F_X8_goes_warm_210 r65 (F_X8_goes_warm_112 r65 f) S sh mi dk (nI w) g l (nI i) x10 (1 : Int32) x10 (S 10 w) (nI w) = F_X8_goes_warm_112 r65 f (zs_up S 10 w (S 10 w + x10)) sh mi dk (nI w) g (l - x10) (nI (i + 1)) := by
      intro S x10; unfold F_X8_goes_warm_210 F_X8_goes_warm_225; simp only [zs_let]; rw [ckw, hwc, if_neg (show ¬ (1 : Int32) = 0 by decide), zp_1]
    have d2 : ∀ (S : Ob) (x10 : Int32), F_X8_goes_warm_210 r65 (F_X8_goes_warm_112 r65 f) S sh mi dk (nI w) g l (nI i) x10 (1 : Int32) x10 (S 10 i) (nI i) = F_X8_goes_warm_112 r65 f (zs_up S 10 i (S 10 i + x10)) sh mi dk (nI w) g (l - x10) (nI (i + 1)) := by
      intro S x10; unfold F_X8_goes_warm_210 F_X8_goes_warm_225; simp only [zs_let]; rw [cki, hic, if_neg (show ¬ (1 : Int32) = 0 by decide), zp_1]
    have d3 : ∀ (S : Ob) (x10 : Int32), F_X8_goes_warm_210 r65 (F_X8_goes_warm_112 r65 f) S sh mi dk (nI w) g l (nI i) x10 (0 : Int32) 0 (S 10 i) (nI i) = F_X8_goes_warm_112 r65 f (zs_up S 10 i (S 10 i + 0)) sh mi dk (nI w) g (l - 0) (nI (i + 1)) := by
      intro S x10; unfold F_X8_goes_warm_210 F_X8_goes_warm_225; simp only [zs_let]; rw [cki, hic, if_pos trivial, zp_1]
    by_cases hm : zp_bt mi i = 1
    · rw [if_pos hm] at h1
      rw [if_pos (show (mi >>> (nI i &&& 31)) &&& 1 = 1 from hm)]
      unfold F_X8_goes_warm_158
      rw [if_neg (show ¬ (1 : Int32) = 0 by decide)]
      unfold F_X8_goes_warm_174 F_X8_goes_warm_179
      rw [if_neg (show ¬ (1 : Int32) = 0 by decide)]
      unfold F_X8_goes_warm_197
      rw [ckw, if_neg (show ¬ (1 : Int32) = 0 by decide), hwc, d1, zp_ru, e2]
      exact h1
    · rw [if_neg hm] at h1
      rw [if_neg (show ¬ (mi >>> (nI i &&& 31)) &&& 1 = 1 from hm)]
      unfold F_X8_goes_warm_158
      rw [if_pos (rfl : (0 : Int32) = 0)]
      by_cases hs : zp_bt sh i = 0
      · rw [if_pos hs] at h1
        rw [if_pos (show (sh >>> (nI i &&& 31)) &&& 1 = 0 from hs)]
        unfold F_X8_goes_warm_174 F_X8_goes_warm_179
        rw [if_pos (rfl : (0 : Int32) = 0)]
        unfold F_X8_goes_warm_197
        rw [cki, if_neg (show ¬ (1 : Int32) = 0 by decide), hic, d2, zp_ru, e2]
        exact h1
      · rw [if_neg hs] at h1
        rw [if_neg (show ¬ (sh >>> (nI i &&& 31)) &&& 1 = 0 from hs)]
        unfold F_X8_goes_warm_179
        rw [if_pos (rfl : (0 : Int32) = 0)]
        unfold F_X8_goes_warm_197
        rw [cki, if_pos (rfl : (0 : Int32) = 0), hic, d3, zp_ru, e2]
        have a1 : upd R i (R i + 0) = R := by rw [show R i + 0 = R i by simp]; exact zp_ui R i
        have a2 : l - 0 = l := by simp
        rw [a1, a2]
        exact h1
theorem zm_65_warm (M : Ob) {n : Nat} (hn : M 0 10 = nI n) (h6 : n ≤ 6) (sh mi : Int32) (q0 : (Nat → Int32) × Int32) : ∀ (k i : Nat), i + k = n → ∀ f, k < f → F_X8_goes_warm_65 f (zp_row M 10 (zh_out sh mi (M 5) (M 8) (M 9) n i q0).1) sh mi (zh_out sh mi (M 5) (M 8) (M 9) n i q0).2 (nI i) = F_X8_goes_warm_259 (zp_row M 10 (zh_out sh mi (M 5) (M 8) (M 9) n n q0).1) (zh_out sh mi (M 5) (M 8) (M 9) n n q0).2 := by
  intro k
  induction k with
  | zero =>
    intro i hi f hf
    obtain ⟨f, rfl⟩ := zp_f1 hf
    have : i = n := by omega
    subst this
    rw [F_X8_goes_warm_65_n]; unfold F_X8_goes_warm_65_s
    rw [zp_rn M _ (show (0 : Nat) ≠ 10 by decide), hn, if_pos (nI_le (Nat.le_refl _) (by omega))]
  | succ k ih =>
    intro i hi f hf
    obtain ⟨f, rfl⟩ := zp_f1 hf
    have h1 := ih (i + 1) (by omega) f (by omega)
    rw [F_X8_goes_warm_65_n]; unfold F_X8_goes_warm_65_s
    rw [zh_out] at h1
    generalize zh_out sh mi (M 5) (M 8) (M 9) n i q0 = r at h1 ⊢
    obtain ⟨R, d⟩ := r
    dsimp only at h1 ⊢
    rw [zp_rn M _ (show (0 : Nat) ≠ 10 by decide), zp_rn M _ (show (9 : Nat) ≠ 10 by decide), zp_rn M _ (show (5 : Nat) ≠ 10 by decide), hn, if_neg (nI_ge (by omega) (by omega))]
    have hic : (nI i).toNatClampNeg = i := nI_clamp (by omega)
    have cki : ∀ (y : Option (Int32 × Ob)), zs_ck (nI i) 6 y = y := fun y => zp_ck (by omega) (by decide)
    have key : ∀ g, F_X8_goes_warm_103 (F_X8_goes_warm_65 f) (zp_row M 10 R) sh mi d (nI i) g = F_X8_goes_warm_65 f (zp_row M 10 (zh_in sh mi (M 8) g i n (upd R i (R i - g), g)).1) sh mi (d + (zh_in sh mi (M 8) g i n (upd R i (R i - g), g)).2) (nI (i + 1)) := by
      intro g
      unfold F_X8_goes_warm_103
      have h2 := zm_112_warm M hn h6 sh mi d i (by omega) g (R, g) (F_X8_goes_warm_65 f) n 0 (by omega) 1000 (by omega)
      rw [show F_X8_goes_warm_112 (F_X8_goes_warm_65 f) 1000 (zp_row M 10 R) sh mi d (nI i) g g (0 : Int32) = _ from h2]
      unfold F_X8_goes_warm_234 zs_let
      rw [cki, cki, hic, zp_ru, zp_rs, zp_1, zh_inC]
    rw [hic, cki, cki, key, key]
    by_cases hs : zp_bt sh i = 1
    · rw [if_pos (show (sh >>> (nI i &&& 31)) &&& 1 = 1 from hs)]
      have : zh_g sh (M 5) (M 9) i = 0 := by unfold zh_g; rw [if_pos hs]
      rw [this] at h1
      exact h1
    · rw [if_neg (show ¬ (sh >>> (nI i &&& 31)) &&& 1 = 1 from hs)]
      have : zh_g sh (M 5) (M 9) i = M 9 i * M 5 i / 10 := by unfold zh_g; rw [if_neg hs]
      rw [this] at h1
      exact h1
theorem zm_6_warm (M : Ob) {n : Nat} (hn : M 0 10 = nI n) (h6 : n ≤ 6) (h sh mi : Int32) : ∀ (k i : Nat), i + k = n → ∀ f, k < f → F_X8_goes_warm_6 f (zp_row M 10 (zp_fl (zh_b (zh_r h) (M 6) (M 7) (fun _ => 0) (M 9)) (M 10) i)) h sh mi 0 (nI i) = F_X8_goes_warm_62 (zp_row M 10 (zp_fl (zh_b (zh_r h) (M 6) (M 7) (fun _ => 0) (M 9)) (M 10) n)) sh mi 0 := by
  intro k
  induction k with
  | zero =>
    intro i hi f hf
    obtain ⟨f, rfl⟩ := zp_f1 hf
    have : i = n := by omega
    subst this
    rw [F_X8_goes_warm_6_n]; unfold F_X8_goes_warm_6_s
    rw [zp_rn M _ (show (0 : Nat) ≠ 10 by decide), hn, if_pos (nI_le (Nat.le_refl _) (by omega))]
  | succ k ih =>
    intro i hi f hf
    obtain ⟨f, rfl⟩ := zp_f1 hf
    have h1 := ih (i + 1) (by omega) f (by omega)
    rw [← zp_fls] at h1
    rw [F_X8_goes_warm_6_n]; unfold F_X8_goes_warm_6_s
    have hic : (nI i).toNatClampNeg = i := nI_clamp (by omega)
    have cki : ∀ (y : Option (Int32 × Ob)), zs_ck (nI i) 6 y = y := fun y => zp_ck (by omega) (by decide)
    rw [zp_rn M _ (show (0 : Nat) ≠ 10 by decide), zp_rn M _ (show (9 : Nat) ≠ 10 by decide), zp_rn M _ (show (6 : Nat) ≠ 10 by decide), zp_rn M _ (show (7 : Nat) ≠ 10 by decide), hn, if_neg (nI_ge (by omega) (by omega)), hic, cki, cki, cki]
    generalize zp_fl (zh_b (zh_r h) (M 6) (M 7) (fun _ => 0) (M 9)) (M 10) i = R at h1 ⊢
    have d1 : ∀ y, F_X8_goes_warm_54 (F_X8_goes_warm_6 f) (zp_row M 10 R) h sh mi 0 (nI i) y (M 9 i) (nI i) = F_X8_goes_warm_6 f (zp_row M 10 (upd R i (M 9 i + y))) h sh mi 0 (nI (i + 1)) := by
      intro y; unfold F_X8_goes_warm_54 zs_let; rw [cki, hic, zp_ru, zp_1]
    rw [d1, d1]
    have hbv : zh_b (zh_r h) (M 6) (M 7) (fun _ => 0) (M 9) i = if (M 7 i >>> (zh_r h &&& 31)) &&& 1 = 1 then M 9 i + M 6 i else M 9 i + 0 := by
      unfold zh_b
      by_cases hq : (M 7 i >>> (zh_r h &&& 31)) &&& 1 = 1
      · rw [if_pos hq, hq]; simp
      · rw [if_neg hq, zp_b0 hq]; simp
    rw [hbv] at h1
    by_cases hq : (M 7 i >>> (zh_r h &&& 31)) &&& 1 = 1
    · rw [if_pos hq] at h1
      rw [if_pos (show (M 7 i >>> ((h - h / (8 : Int32) * (8 : Int32)) &&& 31)) &&& 1 = 1 from hq)]
      exact h1
    · rw [if_neg hq] at h1
      rw [if_neg (show ¬ (M 7 i >>> ((h - h / (8 : Int32) * (8 : Int32)) &&& 31)) &&& 1 = 1 from hq)]
      exact h1
theorem zm_262_warm (M : Ob) {n : Nat} (hn : M 0 10 = nI n) (h6 : n ≤ 6) (d : Int32) : ∀ (k i : Nat), i + k = n → ∀ f, k < f → F_X8_goes_warm_262 f (zp_row M 9 (zp_fl (M 10) (M 9) i)) d (nI i) = some (d, zp_row M 9 (zp_fl (M 10) (M 9) n)) := by
  intro k
  induction k with
  | zero =>
    intro i hi f hf
    obtain ⟨f, rfl⟩ := zp_f1 hf
    have : i = n := by omega
    subst this
    rw [F_X8_goes_warm_262_n]; unfold F_X8_goes_warm_262_s
    rw [zp_rn M _ (show (0 : Nat) ≠ 9 by decide), hn, if_pos (nI_le (Nat.le_refl _) (by omega))]
  | succ k ih =>
    intro i hi f hf
    obtain ⟨f, rfl⟩ := zp_f1 hf
    have h1 := ih (i + 1) (by omega) f (by omega)
    rw [F_X8_goes_warm_262_n]; unfold F_X8_goes_warm_262_s zs_let
    rw [zp_rn M _ (show (0 : Nat) ≠ 9 by decide), hn, if_neg (nI_ge (by omega) (by omega)), zp_ck (by omega) (by decide), zp_ck (by omega) (by decide), nI_clamp (by omega), zp_ru, zp_rn M _ (show (10 : Nat) ≠ 9 by decide), zp_fls, zp_1]
    exact h1
/-- the reference's hour: what is behind it -/
theorem zm_goes_warm (M : Ob) {n : Nat} (hn : M 0 10 = nI n) (h6 : n ≤ 6) (h sh mi : Int32) : ∃ M' : Ob, F_X8_goes_warm M h sh mi = some (zh_d n (M 5) (M 6) (M 7) (M 8) (fun _ => 0) sh mi (zh_r h) (M 9), M') ∧
    zp_ag n (M' 9) (zh_T n (M 5) (M 6) (M 7) (M 8) (fun _ => 0) sh mi (zh_r h) (M 9)) ∧ (∀ j, n ≤ j → M' 9 j = M 9 j) ∧ (∀ c, c ≠ 10 → c ≠ 9 → M' c = M c) := by
  have hag : zp_ag n (zp_fl (zh_b (zh_r h) (M 6) (M 7) (fun _ => 0) (M 9)) (M 10) n) (zh_b (zh_r h) (M 6) (M 7) (fun _ => 0) (M 9)) := fun j hj => zp_fli hj
  obtain ⟨g1, g2⟩ := zh_outA sh mi (M 5) (M 5) (M 8) (M 8) (M 9) (M 9) n (fun _ _ => rfl) (fun _ _ _ _ => rfl) (fun _ _ => rfl) _ _ 0 hag n (Nat.le_refl n)
  have h1 := zm_6_warm M hn h6 h sh mi n 0 (by omega) 1000 (by omega)
  rw [zp_fl0, zp_id] at h1
  have h2 := zm_65_warm M hn h6 sh mi (zp_fl (zh_b (zh_r h) (M 6) (M 7) (fun _ => 0) (M 9)) (M 10) n, 0) n 0 (by omega) 1000 (by omega)
  generalize hT : zh_out sh mi (M 5) (M 8) (M 9) n n (zp_fl (zh_b (zh_r h) (M 6) (M 7) (fun _ => 0) (M 9)) (M 10) n, 0) = r at g1 g2 h2
  obtain ⟨T, d⟩ := r
  have h3 := zm_262_warm (zp_row M 10 T) (by rw [zp_rn M _ (show (0 : Nat) ≠ 10 by decide)]; exact hn) h6 d n 0 (by omega) 1000 (by omega)
  rw [zp_fl0, zp_id] at h3
  have e1 : (zp_row M 10 T) 9 = M 9 := zp_rn M T (by decide)
  have e2 : (zp_row M 10 T) 10 = T := zp_rs M 10 T
  rw [e1, e2] at h3
  have ed : d = zh_d n (M 5) (M 6) (M 7) (M 8) (fun _ => 0) sh mi (zh_r h) (M 9) := g2
  refine ⟨zp_row (zp_row M 10 T) 9 (zp_fl T (M 9) n), ?_, ?_, ?_, ?_⟩
  · unfold F_X8_goes_warm
    rw [show F_X8_goes_warm_6 1000 M h sh mi (0 : Int32) (0 : Int32) = _ from h1]
    unfold F_X8_goes_warm_62
    rw [show F_X8_goes_warm_65 1000 (zp_row M 10 (zp_fl (zh_b (zh_r h) (M 6) (M 7) (fun _ => 0) (M 9)) (M 10) n)) sh mi (0 : Int32) (0 : Int32) = _ from h2]
    unfold F_X8_goes_warm_259
    rw [← ed]
    exact h3
  · intro j hj
    rw [zp_rs, zp_fli hj]
    exact g1 j hj
  · intro j hj
    rw [zp_rs, zp_flo hj]
  · intro c hc1 hc2
    rw [zp_rn _ _ hc2, zp_rn _ _ hc1]
/-! the reference's hour over the row row -/
theorem zm_112_row (M : Ob) {n : Nat} (hn : M 0 10 = nI n) (h6 : n ≤ 6) (sh mi dk : Int32) (w : Nat) (hw : w < n) (g : Int32) (q0 : (Nat → Int32) × Int32) (r65 : Ob → Int32 → Int32 → Int32 → Int32 → Option (Int32 × Ob)) : ∀ (k i : Nat), i + k = n → ∀ f, k < f → F_X8_goes_row_112 r65 f (zp_row M 10 (zh_in sh mi (M 8) g w i q0).1) sh mi dk (nI w) g (zh_in sh mi (M 8) g w i q0).2 (nI i) = F_X8_goes_row_234 r65 (zp_row M 10 (zh_in sh mi (M 8) g w n q0).1) sh mi dk (nI w) g (zh_in sh mi (M 8) g w n q0).2 := by
  intro k
  induction k with
  | zero =>
    intro i hi f hf
    obtain ⟨f, rfl⟩ := zp_f1 hf
    have : i = n := by omega
    subst this
    rw [F_X8_goes_row_112_n]; unfold F_X8_goes_row_112_s
    rw [zp_rn M _ (show (0 : Nat) ≠ 10 by decide), hn, if_pos (nI_le (Nat.le_refl _) (by omega))]
  | succ k ih =>
    intro i hi f hf
    obtain ⟨f, rfl⟩ := zp_f1 hf
    have h1 := ih (i + 1) (by omega) f (by omega)
    rw [F_X8_goes_row_112_n]; unfold F_X8_goes_row_112_s
    rw [zp_rn M _ (show (0 : Nat) ≠ 10 by decide), zp_rn M _ (show (8 : Nat) ≠ 10 by decide), hn, if_neg (nI_ge (by omega) (by omega)), zp_ix1, zp_ck (by omega) (by decide), nI_clamp (by omega)]
    rw [zh_in] at h1
    generalize zh_in sh mi (M 8) g w i q0 = r at h1 ⊢
    obtain ⟨R, l⟩ := r
    unfold zs_let
    dsimp only at h1 ⊢
    generalize g * M 8 (6 * w + i) / 10 = x at h1 ⊢
    have e2 : (zp_row M 10 R) 10 = R := zp_rs M 10 R
    have hwc : (nI w).toNatClampNeg = w := nI_clamp (by omega)
    have hic : (nI i).toNatClampNeg = i := nI_clamp (by omega)
    have ckw : ∀ (y : Option (Int32 × Ob)), zs_ck (nI w) 6 y = y := fun y => zp_ck (by omega) (by decide)
    have cki : ∀ (y : Option (Int32 × Ob)), zs_ck (nI i) 6 y = y := fun y => zp_ck (by omega) (by decide)
    have d1 : ∀ (S : Ob) (x10 : Int32), F_X8_goes_row_210 r65 (F_X8_goes_row_112 r65 f) S sh mi dk (nI w) g l (nI i) x10 (1 : Int32) x10 (S 10 w) (nI w) = F_X8_goes_row_112 r65 f (zs_up S 10 w (S 10 w + x10)) sh mi dk (nI w) g (l - x10) (nI (i + 1)) := by
      intro S x10; unfold F_X8_goes_row_210 F_X8_goes_row_225; simp only [zs_let]; rw [ckw, hwc, if_neg (show ¬ (1 : Int32) = 0 by decide), zp_1]
    have d2 : ∀ (S : Ob) (x10 : Int32), F_X8_goes_row_210 r65 (F_X8_goes_row_112 r65 f) S sh mi dk (nI w) g l (nI i) x10 (1 : Int32) x10 (S 10 i) (nI i) = F_X8_goes_row_112 r65 f (zs_up S 10 i (S 10 i + x10)) sh mi dk (nI w) g (l - x10) (nI (i + 1)) := by
      intro S x10; unfold F_X8_goes_row_210 F_X8_goes_row_225; simp only [zs_let]; rw [cki, hic, if_neg (show ¬ (1 : Int32) = 0 by decide), zp_1]
    have d3 : ∀ (S : Ob) (x10 : Int32), F_X8_goes_row_210 r65 (F_X8_goes_row_112 r65 f) S sh mi dk (nI w) g l (nI i) x10 (0 : Int32) 0 (S 10 i) (nI i) = F_X8_goes_row_112 r65 f (zs_up S 10 i (S 10 i + 0)) sh mi dk (nI w) g (l - 0) (nI (i + 1)) := by
      intro S x10; unfold F_X8_goes_row_210 F_X8_goes_row_225; simp only [zs_let]; rw [cki, hic, if_pos trivial, zp_1]
    by_cases hm : zp_bt mi i = 1
    · rw [if_pos hm] at h1
      rw [if_pos (show (mi >>> (nI i &&& 31)) &&& 1 = 1 from hm)]
      unfold F_X8_goes_row_158
      rw [if_neg (show ¬ (1 : Int32) = 0 by decide)]
      unfold F_X8_goes_row_174 F_X8_goes_row_179
      rw [if_neg (show ¬ (1 : Int32) = 0 by decide)]
      unfold F_X8_goes_row_197
      rw [ckw, if_neg (show ¬ (1 : Int32) = 0 by decide), hwc, d1, zp_ru, e2]
      exact h1
    · rw [if_neg hm] at h1
      rw [if_neg (show ¬ (mi >>> (nI i &&& 31)) &&& 1 = 1 from hm)]
      unfold F_X8_goes_row_158
      rw [if_pos (rfl : (0 : Int32) = 0)]
      by_cases hs : zp_bt sh i = 0
      · rw [if_pos hs] at h1
        rw [if_pos (show (sh >>> (nI i &&& 31)) &&& 1 = 0 from hs)]
        unfold F_X8_goes_row_174 F_X8_goes_row_179
        rw [if_pos (rfl : (0 : Int32) = 0)]
        unfold F_X8_goes_row_197
        rw [cki, if_neg (show ¬ (1 : Int32) = 0 by decide), hic, d2, zp_ru, e2]
        exact h1
      · rw [if_neg hs] at h1
        rw [if_neg (show ¬ (sh >>> (nI i &&& 31)) &&& 1 = 0 from hs)]
        unfold F_X8_goes_row_179
        rw [if_pos (rfl : (0 : Int32) = 0)]
        unfold F_X8_goes_row_197
        rw [cki, if_pos (rfl : (0 : Int32) = 0), hic, d3, zp_ru, e2]
        have a1 : upd R i (R i + 0) = R := by rw [show R i + 0 = R i by simp]; exact zp_ui R i
        have a2 : l - 0 = l := by simp
        rw [a1, a2]
        exact h1
theorem zm_65_row (M : Ob) {n : Nat} (hn : M 0 10 = nI n) (h6 : n ≤ 6) (sh mi : Int32) (q0 : (Nat → Int32) × Int32) : ∀ (k i : Nat), i + k = n → ∀ f, k < f → F_X8_goes_row_65 f (zp_row M 10 (zh_out sh mi (M 5) (M 8) (M 12) n i q0).1) sh mi (zh_out sh mi (M 5) (M 8) (M 12) n i q0).2 (nI i) = F_X8_goes_row_259 (zp_row M 10 (zh_out sh mi (M 5) (M 8) (M 12) n n q0).1) (zh_out sh mi (M 5) (M 8) (M 12) n n q0).2 := by
  intro k
  induction k with
  | zero =>
    intro i hi f hf
    obtain ⟨f, rfl⟩ := zp_f1 hf
    have : i = n := by omega
    subst this
    rw [F_X8_goes_row_65_n]; unfold F_X8_goes_row_65_s
    rw [zp_rn M _ (show (0 : Nat) ≠ 10 by decide), hn, if_pos (nI_le (Nat.le_refl _) (by omega))]
  | succ k ih =>
    intro i hi f hf
    obtain ⟨f, rfl⟩ := zp_f1 hf
    have h1 := ih (i + 1) (by omega) f (by omega)
    rw [F_X8_goes_row_65_n]; unfold F_X8_goes_row_65_s
    rw [zh_out] at h1
    generalize zh_out sh mi (M 5) (M 8) (M 12) n i q0 = r at h1 ⊢
    obtain ⟨R, d⟩ := r
    dsimp only at h1 ⊢
    rw [zp_rn M _ (show (0 : Nat) ≠ 10 by decide), zp_rn M _ (show (12 : Nat) ≠ 10 by decide), zp_rn M _ (show (5 : Nat) ≠ 10 by decide), hn, if_neg (nI_ge (by omega) (by omega))]
    have hic : (nI i).toNatClampNeg = i := nI_clamp (by omega)
    have cki : ∀ (y : Option (Int32 × Ob)), zs_ck (nI i) 6 y = y := fun y => zp_ck (by omega) (by decide)
    have key : ∀ g, F_X8_goes_row_103 (F_X8_goes_row_65 f) (zp_row M 10 R) sh mi d (nI i) g = F_X8_goes_row_65 f (zp_row M 10 (zh_in sh mi (M 8) g i n (upd R i (R i - g), g)).1) sh mi (d + (zh_in sh mi (M 8) g i n (upd R i (R i - g), g)).2) (nI (i + 1)) := by
      intro g
      unfold F_X8_goes_row_103
      have h2 := zm_112_row M hn h6 sh mi d i (by omega) g (R, g) (F_X8_goes_row_65 f) n 0 (by omega) 1000 (by omega)
      rw [show F_X8_goes_row_112 (F_X8_goes_row_65 f) 1000 (zp_row M 10 R) sh mi d (nI i) g g (0 : Int32) = _ from h2]
      unfold F_X8_goes_row_234 zs_let
      rw [cki, cki, hic, zp_ru, zp_rs, zp_1, zh_inC]
    rw [hic, cki, cki, key, key]
    by_cases hs : zp_bt sh i = 1
    · rw [if_pos (show (sh >>> (nI i &&& 31)) &&& 1 = 1 from hs)]
      have : zh_g sh (M 5) (M 12) i = 0 := by unfold zh_g; rw [if_pos hs]
      rw [this] at h1
      exact h1
    · rw [if_neg (show ¬ (sh >>> (nI i &&& 31)) &&& 1 = 1 from hs)]
      have : zh_g sh (M 5) (M 12) i = M 12 i * M 5 i / 10 := by unfold zh_g; rw [if_neg hs]
      rw [this] at h1
      exact h1
theorem zm_6_row (M : Ob) {n : Nat} (hn : M 0 10 = nI n) (h6 : n ≤ 6) (h sh mi : Int32) : ∀ (k i : Nat), i + k = n → ∀ f, k < f → F_X8_goes_row_6 f (zp_row M 10 (zp_fl (zh_b (zh_r h) (M 6) (M 7) (fun _ => 0) (M 12)) (M 10) i)) h sh mi 0 (nI i) = F_X8_goes_row_62 (zp_row M 10 (zp_fl (zh_b (zh_r h) (M 6) (M 7) (fun _ => 0) (M 12)) (M 10) n)) sh mi 0 := by
  intro k
  induction k with
  | zero =>
    intro i hi f hf
    obtain ⟨f, rfl⟩ := zp_f1 hf
    have : i = n := by omega
    subst this
    rw [F_X8_goes_row_6_n]; unfold F_X8_goes_row_6_s
    rw [zp_rn M _ (show (0 : Nat) ≠ 10 by decide), hn, if_pos (nI_le (Nat.le_refl _) (by omega))]
  | succ k ih =>
    intro i hi f hf
    obtain ⟨f, rfl⟩ := zp_f1 hf
    have h1 := ih (i + 1) (by omega) f (by omega)
    rw [← zp_fls] at h1
    rw [F_X8_goes_row_6_n]; unfold F_X8_goes_row_6_s
    have hic : (nI i).toNatClampNeg = i := nI_clamp (by omega)
    have cki : ∀ (y : Option (Int32 × Ob)), zs_ck (nI i) 6 y = y := fun y => zp_ck (by omega) (by decide)
    rw [zp_rn M _ (show (0 : Nat) ≠ 10 by decide), zp_rn M _ (show (12 : Nat) ≠ 10 by decide), zp_rn M _ (show (6 : Nat) ≠ 10 by decide), zp_rn M _ (show (7 : Nat) ≠ 10 by decide), hn, if_neg (nI_ge (by omega) (by omega)), hic, cki, cki, cki]
    generalize zp_fl (zh_b (zh_r h) (M 6) (M 7) (fun _ => 0) (M 12)) (M 10) i = R at h1 ⊢
    have d1 : ∀ y, F_X8_goes_row_54 (F_X8_goes_row_6 f) (zp_row M 10 R) h sh mi 0 (nI i) y (M 12 i) (nI i) = F_X8_goes_row_6 f (zp_row M 10 (upd R i (M 12 i + y))) h sh mi 0 (nI (i + 1)) := by
      intro y; unfold F_X8_goes_row_54 zs_let; rw [cki, hic, zp_ru, zp_1]
    rw [d1, d1]
    have hbv : zh_b (zh_r h) (M 6) (M 7) (fun _ => 0) (M 12) i = if (M 7 i >>> (zh_r h &&& 31)) &&& 1 = 1 then M 12 i + M 6 i else M 12 i + 0 := by
      unfold zh_b
      by_cases hq : (M 7 i >>> (zh_r h &&& 31)) &&& 1 = 1
      · rw [if_pos hq, hq]; simp
      · rw [if_neg hq, zp_b0 hq]; simp
    rw [hbv] at h1
    by_cases hq : (M 7 i >>> (zh_r h &&& 31)) &&& 1 = 1
    · rw [if_pos hq] at h1
      rw [if_pos (show (M 7 i >>> ((h - h / (8 : Int32) * (8 : Int32)) &&& 31)) &&& 1 = 1 from hq)]
      exact h1
    · rw [if_neg hq] at h1
      rw [if_neg (show ¬ (M 7 i >>> ((h - h / (8 : Int32) * (8 : Int32)) &&& 31)) &&& 1 = 1 from hq)]
      exact h1
theorem zm_262_row (M : Ob) {n : Nat} (hn : M 0 10 = nI n) (h6 : n ≤ 6) (d : Int32) : ∀ (k i : Nat), i + k = n → ∀ f, k < f → F_X8_goes_row_262 f (zp_row M 12 (zp_fl (M 10) (M 12) i)) d (nI i) = some (d, zp_row M 12 (zp_fl (M 10) (M 12) n)) := by
  intro k
  induction k with
  | zero =>
    intro i hi f hf
    obtain ⟨f, rfl⟩ := zp_f1 hf
    have : i = n := by omega
    subst this
    rw [F_X8_goes_row_262_n]; unfold F_X8_goes_row_262_s
    rw [zp_rn M _ (show (0 : Nat) ≠ 12 by decide), hn, if_pos (nI_le (Nat.le_refl _) (by omega))]
  | succ k ih =>
    intro i hi f hf
    obtain ⟨f, rfl⟩ := zp_f1 hf
    have h1 := ih (i + 1) (by omega) f (by omega)
    rw [F_X8_goes_row_262_n]; unfold F_X8_goes_row_262_s zs_let
    rw [zp_rn M _ (show (0 : Nat) ≠ 12 by decide), hn, if_neg (nI_ge (by omega) (by omega)), zp_ck (by omega) (by decide), zp_ck (by omega) (by decide), nI_clamp (by omega), zp_ru, zp_rn M _ (show (10 : Nat) ≠ 12 by decide), zp_fls, zp_1]
    exact h1
/-- the reference's hour: what is behind it -/
theorem zm_goes_row (M : Ob) {n : Nat} (hn : M 0 10 = nI n) (h6 : n ≤ 6) (h sh mi : Int32) : ∃ M' : Ob, F_X8_goes_row M h sh mi = some (zh_d n (M 5) (M 6) (M 7) (M 8) (fun _ => 0) sh mi (zh_r h) (M 12), M') ∧
    zp_ag n (M' 12) (zh_T n (M 5) (M 6) (M 7) (M 8) (fun _ => 0) sh mi (zh_r h) (M 12)) ∧ (∀ j, n ≤ j → M' 12 j = M 12 j) ∧ (∀ c, c ≠ 10 → c ≠ 12 → M' c = M c) := by
  have hag : zp_ag n (zp_fl (zh_b (zh_r h) (M 6) (M 7) (fun _ => 0) (M 12)) (M 10) n) (zh_b (zh_r h) (M 6) (M 7) (fun _ => 0) (M 12)) := fun j hj => zp_fli hj
  obtain ⟨g1, g2⟩ := zh_outA sh mi (M 5) (M 5) (M 8) (M 8) (M 12) (M 12) n (fun _ _ => rfl) (fun _ _ _ _ => rfl) (fun _ _ => rfl) _ _ 0 hag n (Nat.le_refl n)
  have h1 := zm_6_row M hn h6 h sh mi n 0 (by omega) 1000 (by omega)
  rw [zp_fl0, zp_id] at h1
  have h2 := zm_65_row M hn h6 sh mi (zp_fl (zh_b (zh_r h) (M 6) (M 7) (fun _ => 0) (M 12)) (M 10) n, 0) n 0 (by omega) 1000 (by omega)
  generalize hT : zh_out sh mi (M 5) (M 8) (M 12) n n (zp_fl (zh_b (zh_r h) (M 6) (M 7) (fun _ => 0) (M 12)) (M 10) n, 0) = r at g1 g2 h2
  obtain ⟨T, d⟩ := r
  have h3 := zm_262_row (zp_row M 10 T) (by rw [zp_rn M _ (show (0 : Nat) ≠ 10 by decide)]; exact hn) h6 d n 0 (by omega) 1000 (by omega)
  rw [zp_fl0, zp_id] at h3
  have e1 : (zp_row M 10 T) 12 = M 12 := zp_rn M T (by decide)
  have e2 : (zp_row M 10 T) 10 = T := zp_rs M 10 T
  rw [e1, e2] at h3
  have ed : d = zh_d n (M 5) (M 6) (M 7) (M 8) (fun _ => 0) sh mi (zh_r h) (M 12) := g2
  refine ⟨zp_row (zp_row M 10 T) 12 (zp_fl T (M 12) n), ?_, ?_, ?_, ?_⟩
  · unfold F_X8_goes_row
    rw [show F_X8_goes_row_6 1000 M h sh mi (0 : Int32) (0 : Int32) = _ from h1]
    unfold F_X8_goes_row_62
    rw [show F_X8_goes_row_65 1000 (zp_row M 10 (zp_fl (zh_b (zh_r h) (M 6) (M 7) (fun _ => 0) (M 12)) (M 10) n)) sh mi (0 : Int32) (0 : Int32) = _ from h2]
    unfold F_X8_goes_row_259
    rw [← ed]
    exact h3
  · intro j hj
    rw [zp_rs, zp_fli hj]
    exact g1 j hj
  · intro j hj
    rw [zp_rs, zp_flo hj]
  · intro c hc1 hc2
    rw [zp_rn _ _ hc2, zp_rn _ _ hc1]
