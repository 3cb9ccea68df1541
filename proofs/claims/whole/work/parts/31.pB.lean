/-! ===== PURE 2: the class's hour ===== -/
theorem zp_f1 {f k : Nat} (h : k < f) : ∃ q, f = q + 1 := ⟨f - 1, by omega⟩
theorem zc_bit (b : Int32) (k : Nat) : F_X7_bit b (nI k) = some (zp_bt b k) := rfl
theorem zc_55 (P Yd : Ob) {n : Nat} (hn : Yd 0 0 = nI n) (h6 : n ≤ 6) (w : Nat) (hw : w < n) (g : Int32) (q0 : (Nat → Int32) × Int32) : ∀ (k i : Nat), i + k = n → ∀ f, k < f → F_X1_giveOff_55 Yd f (zp_row P 2 (zh_in (P 0 1) (P 0 2) (Yd 5) g w i q0).1) (nI w) g (zh_in (P 0 1) (P 0 2) (Yd 5) g w i q0).2 (nI i) = some ((zh_in (P 0 1) (P 0 2) (Yd 5) g w n q0).2, zp_row P 2 (zh_in (P 0 1) (P 0 2) (Yd 5) g w n q0).1) := by
  intro k
  induction k with
  | zero =>
    intro i hi f hf
    obtain ⟨f, rfl⟩ := zp_f1 hf
    have : i = n := by omega
    subst this
    rw [F_X1_giveOff_55_n]; unfold F_X1_giveOff_55_s
    rw [hn, if_pos (nI_le (Nat.le_refl _) (by omega))]
  | succ k ih =>
    intro i hi f hf
    obtain ⟨f, rfl⟩ := zp_f1 hf
    have h1 := ih (i + 1) (by omega) f (by omega)
    rw [F_X1_giveOff_55_n]; unfold F_X1_giveOff_55_s
    rw [hn, if_neg (nI_ge (by omega) (by omega)), zp_ix2, zp_ck (by omega) (by decide), nI_clamp (by omega)]
    rw [zh_in] at h1
    generalize zh_in (P 0 1) (P 0 2) (Yd 5) g w i q0 = r at h1 ⊢
    obtain ⟨R, l⟩ := r
    unfold zs_let
    dsimp only at h1 ⊢
    generalize g * Yd 5 (6 * w + i) / 10 = x at h1 ⊢
    have e0 : (zp_row P 2 R) 0 = P 0 := zp_rn P R (by decide)
    have e2 : (zp_row P 2 R) 2 = R := zp_rs P 2 R
    have hwc : (nI w).toNatClampNeg = w := nI_clamp (by omega)
    have hic : (nI i).toNatClampNeg = i := nI_clamp (by omega)
    have d1 : ∀ T y, F_X1_giveOff_156 Yd (F_X1_giveOff_55 Yd f) (zp_row P 2 T) (nI w) g y (nI i) = F_X1_giveOff_55 Yd f (zp_row P 2 T) (nI w) g y (nI (i + 1)) := by
      intro T y; unfold F_X1_giveOff_156 zs_let; rw [zp_1]
    by_cases hx : x = 0
    · subst hx
      rw [if_pos rfl, d1]
      have a1 : ∀ j, upd R j (R j + 0) = R := fun j => by rw [show R j + 0 = R j by simp]; exact zp_ui R j
      have a2 : l - 0 = l := by simp
      simp only [a1, a2] at h1
      have h2 : (if zp_bt (P 0 2) i = 1 then (R, l) else if zp_bt (P 0 1) i = 0 then (R, l) else (R, l)) = (R, l) := by split <;> (try split) <;> rfl
      rw [h2] at h1
      exact h1
    · rw [if_neg hx, e0, zc_bit, zp_bd]
      by_cases hm : zp_bt (P 0 2) i = 1
      · rw [if_pos hm] at h1 ⊢
        rw [zp_ck (by omega) (by decide), zp_ck (by omega) (by decide), hwc, zp_ru, e2, d1]
        exact h1
      · rw [if_neg hm] at h1 ⊢
        rw [zc_bit, zp_bd]
        by_cases hs : zp_bt (P 0 1) i = 0
        · rw [if_pos hs] at h1 ⊢
          rw [zp_ck (by omega) (by decide), zp_ck (by omega) (by decide), hic, zp_ru, e2, d1]
          exact h1
        · rw [if_neg hs] at h1 ⊢
          rw [d1]
          exact h1
theorem zc_giveOff (P Yd : Ob) {n : Nat} (hn : Yd 0 0 = nI n) (h6 : n ≤ 6) (w : Nat) (hw : w < n) (T : Nat → Int32) : F_X1_giveOff (zp_row P 2 T) Yd (nI w) = some ((zh_in (P 0 1) (P 0 2) (Yd 5) (zh_g (P 0 1) (Yd 2) (P 1) w) w n (upd T w (T w - zh_g (P 0 1) (Yd 2) (P 1) w), zh_g (P 0 1) (Yd 2) (P 1) w)).2, zp_row P 2 (zh_in (P 0 1) (P 0 2) (Yd 5) (zh_g (P 0 1) (Yd 2) (P 1) w) w n (upd T w (T w - zh_g (P 0 1) (Yd 2) (P 1) w), zh_g (P 0 1) (Yd 2) (P 1) w)).1) := by
  have e0 : (zp_row P 2 T) 0 = P 0 := zp_rn P T (by decide)
  have e1 : (zp_row P 2 T) 1 = P 1 := zp_rn P T (by decide)
  have e2 : (zp_row P 2 T) 2 = T := zp_rs P 2 T
  have hwc : (nI w).toNatClampNeg = w := nI_clamp (by omega)
  have key : ∀ g, F_X1_giveOff_32 Yd (zp_row P 2 T) (nI w) g = some ((zh_in (P 0 1) (P 0 2) (Yd 5) g w n (upd T w (T w - g), g)).2, zp_row P 2 (zh_in (P 0 1) (P 0 2) (Yd 5) g w n (upd T w (T w - g), g)).1) := by
    intro g
    unfold F_X1_giveOff_32
    by_cases hg : g = 0
    · subst hg
      rw [if_pos rfl, zh_in0]
      have a1 : upd T w (T w - 0) = T := by rw [show T w - 0 = T w by simp]; exact zp_ui T w
      rw [a1]
    · rw [if_neg hg, zp_ck (by omega) (by decide), zp_ck (by omega) (by decide), hwc, e2]
      unfold zs_let
      rw [zp_ru]
      exact zc_55 P Yd hn h6 w hw g (upd T w (T w - g), g) n 0 (by omega) 1000 (by omega)
  unfold F_X1_giveOff
  rw [e0, zc_bit, zp_bd]
  by_cases hb : zp_bt (P 0 1) w = 1
  · rw [if_pos hb, key]
    have : zh_g (P 0 1) (Yd 2) (P 1) w = 0 := by unfold zh_g; rw [if_pos hb]
    rw [this]
  · rw [if_neg hb, zp_ck (by omega) (by decide), zp_ck (by omega) (by decide), e1, hwc, key]
    have : zh_g (P 0 1) (Yd 2) (P 1) w = P 1 w * Yd 2 w / 10 := by unfold zh_g; rw [if_neg hb]
    rw [this]
theorem zc_94 (P Yd : Ob) {n : Nat} (hn : Yd 0 0 = nI n) (h6 : n ≤ 6) (d : Int32) : ∀ (k i : Nat), i + k = n → ∀ f, k < f → F_X1_goBy_94 Yd f (zp_row P 1 (zp_fl (P 2) (P 1) i)) d (nI i) = F_X1_goBy_123 Yd (zp_row P 1 (zp_fl (P 2) (P 1) n)) d := by
  intro k
  induction k with
  | zero =>
    intro i hi f hf
    obtain ⟨f, rfl⟩ := zp_f1 hf
    have : i = n := by omega
    subst this
    rw [F_X1_goBy_94_n]; unfold F_X1_goBy_94_s
    rw [hn, if_pos (nI_le (Nat.le_refl _) (by omega))]
  | succ k ih =>
    intro i hi f hf
    obtain ⟨f, rfl⟩ := zp_f1 hf
    have h1 := ih (i + 1) (by omega) f (by omega)
    rw [F_X1_goBy_94_n]; unfold F_X1_goBy_94_s zs_let
    rw [hn, if_neg (nI_ge (by omega) (by omega)), zp_ck (by omega) (by decide), zp_ck (by omega) (by decide), nI_clamp (by omega), zp_ru, zp_rn P _ (by decide), zp_fls, zp_1]
    exact h1
theorem zc_66 (P Yd : Ob) {n : Nat} (hn : Yd 0 0 = nI n) (h6 : n ≤ 6) (q0 : (Nat → Int32) × Int32) : ∀ (k i : Nat), i + k = n → ∀ f, k < f → F_X1_goBy_66 Yd f (zp_row P 2 (zh_out (P 0 1) (P 0 2) (Yd 2) (Yd 5) (P 1) n i q0).1) (zh_out (P 0 1) (P 0 2) (Yd 2) (Yd 5) (P 1) n i q0).2 (nI i) = F_X1_goBy_91 Yd (zp_row P 2 (zh_out (P 0 1) (P 0 2) (Yd 2) (Yd 5) (P 1) n n q0).1) (zh_out (P 0 1) (P 0 2) (Yd 2) (Yd 5) (P 1) n n q0).2 := by
  intro k
  induction k with
  | zero =>
    intro i hi f hf
    obtain ⟨f, rfl⟩ := zp_f1 hf
    have : i = n := by omega
    subst this
    rw [F_X1_goBy_66_n]; unfold F_X1_goBy_66_s
    rw [hn, if_pos (nI_le (Nat.le_refl _) (by omega))]
  | succ k ih =>
    intro i hi f hf
    obtain ⟨f, rfl⟩ := zp_f1 hf
    have h1 := ih (i + 1) (by omega) f (by omega)
    rw [F_X1_goBy_66_n]; unfold F_X1_goBy_66_s zs_let
    rw [hn, if_neg (nI_ge (by omega) (by omega)), zc_giveOff P Yd hn h6 i (by omega), zp_b2, zp_1]
    rw [zh_out] at h1
    exact h1
theorem zc_10 (P Yd : Ob) {n : Nat} (hn : Yd 0 0 = nI n) (h6 : n ≤ 6) (hr : Int32) : ∀ (k i : Nat), i + k = n → ∀ f, k < f → F_X1_goBy_10 Yd f (zp_row P 2 (zp_fl (zh_b hr (Yd 3) (Yd 4) (Yd 7) (P 1)) (P 2) i)) hr (nI i) = F_X1_goBy_61 Yd (zp_row P 2 (zp_fl (zh_b hr (Yd 3) (Yd 4) (Yd 7) (P 1)) (P 2) n)) := by
  intro k
  induction k with
  | zero =>
    intro i hi f hf
    obtain ⟨f, rfl⟩ := zp_f1 hf
    have : i = n := by omega
    subst this
    rw [F_X1_goBy_10_n]; unfold F_X1_goBy_10_s
    rw [hn, if_pos (nI_le (Nat.le_refl _) (by omega))]
  | succ k ih =>
    intro i hi f hf
    obtain ⟨f, rfl⟩ := zp_f1 hf
    have h1 := ih (i + 1) (by omega) f (by omega)
    rw [F_X1_goBy_10_n]; unfold F_X1_goBy_10_s zs_let F_X7_bit
    rw [hn, if_neg (nI_ge (by omega) (by omega))]
    simp only [zp_ck (show i < 6 by omega) (show 6 < 2 ^ 31 by decide), zp_bd, nI_clamp (show i < 2 ^ 31 by omega), zp_ru, zp_rn P _ (show (1 : Nat) ≠ 2 by decide), zp_1]
    rw [← zp_fls] at h1
    exact h1
/-- the class's hour: what is behind it -/
theorem zc_goBy (P Yd : Ob) {n : Nat} (hn : Yd 0 0 = nI n) (h6 : n ≤ 6) : ∃ P' : Ob, F_X1_goBy P Yd = some (zh_d n (Yd 2) (Yd 3) (Yd 4) (Yd 5) (Yd 7) (P 0 1) (P 0 2) (zh_r (P 0 0)) (P 1), P') ∧
    zp_ag n (P' 1) (zh_T n (Yd 2) (Yd 3) (Yd 4) (Yd 5) (Yd 7) (P 0 1) (P 0 2) (zh_r (P 0 0)) (P 1)) ∧ (∀ j, n ≤ j → P' 1 j = P 1 j) ∧ P' 0 0 = P 0 0 + 1 ∧ P' 0 1 = P 0 1 ∧ P' 0 2 = P 0 2 ∧ P' 0 3 = P 0 3 + zh_d n (Yd 2) (Yd 3) (Yd 4) (Yd 5) (Yd 7) (P 0 1) (P 0 2) (zh_r (P 0 0)) (P 1) ∧ P' 0 4 = P 0 4 ∧ P' 3 = P 3 := by
  have hag : zp_ag n (zp_fl (zh_b (zh_r (P 0 0)) (Yd 3) (Yd 4) (Yd 7) (P 1)) (P 2) n) (zh_b (zh_r (P 0 0)) (Yd 3) (Yd 4) (Yd 7) (P 1)) := fun j hj => zp_fli hj
  obtain ⟨g1, g2⟩ := zh_outA (P 0 1) (P 0 2) (Yd 2) (Yd 2) (Yd 5) (Yd 5) (P 1) (P 1) n (fun _ _ => rfl) (fun _ _ _ _ => rfl) (fun _ _ => rfl) _ _ 0 hag n (Nat.le_refl n)
  have h1 := zc_10 P Yd hn h6 (zh_r (P 0 0)) n 0 (by omega) 1000 (by omega)
  rw [zp_fl0, zp_id] at h1
  have h2 := zc_66 P Yd hn h6 (zp_fl (zh_b (zh_r (P 0 0)) (Yd 3) (Yd 4) (Yd 7) (P 1)) (P 2) n, 0) n 0 (by omega) 1000 (by omega)
  generalize hT : zh_out (P 0 1) (P 0 2) (Yd 2) (Yd 5) (P 1) n n (zp_fl (zh_b (zh_r (P 0 0)) (Yd 3) (Yd 4) (Yd 7) (P 1)) (P 2) n, 0) = r at g1 g2 h2
  obtain ⟨T, d⟩ := r
  have h3 := zc_94 (zp_row P 2 T) Yd hn h6 d n 0 (by omega) 1000 (by omega)
  rw [zp_fl0, zp_id] at h3
  have e1 : (zp_row P 2 T) 1 = P 1 := zp_rn P T (by decide)
  have e2 : (zp_row P 2 T) 2 = T := zp_rs P 2 T
  have hF : F_X1_goBy P Yd = F_X1_goBy_123 Yd (zp_row (zp_row P 2 T) 1 (zp_fl T (P 1) n)) d := by
    unfold F_X1_goBy zs_let
    show F_X1_goBy_10 Yd 1000 P (zh_r (P 0 0)) (nI 0) = _
    rw [h1]
    unfold F_X1_goBy_61
    rw [show F_X1_goBy_66 Yd 1000 (zp_row P 2 (zp_fl (zh_b (zh_r (P 0 0)) (Yd 3) (Yd 4) (Yd 7) (P 1)) (P 2) n)) (0 : Int32) (0 : Int32) = _ from h2]
    unfold F_X1_goBy_91
    rw [e1, e2] at h3
    exact h3
  have ed : d = zh_d n (Yd 2) (Yd 3) (Yd 4) (Yd 5) (Yd 7) (P 0 1) (P 0 2) (zh_r (P 0 0)) (P 1) := g2
  rw [hF]
  unfold F_X1_goBy_123 zs_let
  refine ⟨_, by rw [ed], ?_⟩
  refine ⟨?_, ?_, ?_, ?_, ?_, ?_, ?_, ?_⟩
  · intro j hj
    have := g1 j hj
    simp [zs_up, zp_row, upd, zp_fl, hj]
    exact this
  · intro j hj
    have : ¬ j < n := by omega
    simp [zs_up, zp_row, upd, zp_fl, this]
  all_goals simp [zs_up, zp_row, upd, ed]
