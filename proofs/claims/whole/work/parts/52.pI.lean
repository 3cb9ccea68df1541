/-! ===== PURE 9: now, saw, mark, keep, back, type ===== -/
def zo_sum (wm : Nat → Int32) : Nat → Int32
  | 0 => 0
  | i + 1 => zo_sum wm i + wm i
def zo_hot (lim : Int32) (wm : Nat → Int32) : Nat → Int32
  | 0 => 0
  | i + 1 => if wm i ≤ lim then zo_hot lim wm i else zo_hot lim wm i ||| ((1 : Int32) <<< (nI i &&& 31))
def zo_most (wm : Nat → Int32) : Nat → Int32
  | 0 => -9
  | i + 1 => if zo_most wm i = -9 then nI i else if wm i ≤ wm (zo_most wm i).toNatClampNeg then zo_most wm i else nI i
theorem zo_sumA {f g : Nat → Int32} : ∀ {n : Nat}, zp_ag n f g → zo_sum f n = zo_sum g n := by
  intro n
  induction n with
  | zero => intro _; rfl
  | succ n ih => intro h; rw [zo_sum, zo_sum, ih (fun j hj => h j (by omega)), h n (by omega)]
theorem zo_hotA {f g : Nat → Int32} (lim : Int32) : ∀ {n : Nat}, zp_ag n f g → zo_hot lim f n = zo_hot lim g n := by
  intro n
  induction n with
  | zero => intro _; rfl
  | succ n ih => intro h; rw [zo_hot, zo_hot, ih (fun j hj => h j (by omega)), h n (by omega)]
theorem zo_most1 (wm : Nat → Int32) : ∀ i, zo_most wm i = -9 ∨ ∃ j, j < i ∧ zo_most wm i = nI j := by
  intro i
  induction i with
  | zero => exact Or.inl rfl
  | succ i ih =>
    rw [zo_most]
    by_cases h : zo_most wm i = -9
    · rw [if_pos h]; exact Or.inr ⟨i, by omega, rfl⟩
    · rw [if_neg h]
      by_cases h2 : wm i ≤ wm (zo_most wm i).toNatClampNeg
      · rw [if_pos h2]
        rcases ih with q | ⟨j, hj, q⟩
        · exact absurd q h
        · exact Or.inr ⟨j, by omega, q⟩
      · rw [if_neg h2]; exact Or.inr ⟨i, by omega, rfl⟩
theorem zo_mostA {f g : Nat → Int32} : ∀ {n : Nat}, n ≤ 6 → zp_ag n f g → zo_most f n = zo_most g n := by
  intro n
  induction n with
  | zero => intro _ _; rfl
  | succ n ih =>
    intro h6 h
    rw [zo_most, zo_most, ih (by omega) (fun j hj => h j (by omega)), h n (by omega)]
    rcases zo_most1 g n with q | ⟨j, hj, q⟩
    · rw [if_pos q, if_pos q]
    · rw [q, nI_clamp (by omega), h j (by omega)]
theorem zc_warmthOfAll (P : Ob) {n : Nat} (h6 : n ≤ 6) : F_X1_warmthOfAll P (nI n) = some (zo_sum (P 1) n) := by
  have key : ∀ (k i : Nat), i + k = n → ∀ f, k < f → F_X1_warmthOfAll_4 P f (nI n) (zo_sum (P 1) i) (nI i) = some (zo_sum (P 1) n) := by
    intro k
    induction k with
    | zero =>
      intro i hi f hf
      obtain ⟨f, rfl⟩ := zp_f1 hf
      have : i = n := by omega
      subst this
      rw [F_X1_warmthOfAll_4_n]; unfold F_X1_warmthOfAll_4_s
      rw [if_pos (nI_le (Nat.le_refl _) (by omega))]
    | succ k ih =>
      intro i hi f hf
      obtain ⟨f, rfl⟩ := zp_f1 hf
      have h1 := ih (i + 1) (by omega) f (by omega)
      rw [F_X1_warmthOfAll_4_n]; unfold F_X1_warmthOfAll_4_s; simp only [zp_let]
      rw [if_neg (nI_ge (by omega) (by omega)), if_neg (zp_g6 (i := i) (by omega)), zp_ck (by omega) (by decide), nI_clamp (by omega), zp_1]
      exact h1
  exact key n 0 (by omega) 1000 (by omega)
theorem zc_tooWarm (P Yd : Ob) {n : Nat} (hn : Yd 0 0 = nI n) (h6 : n ≤ 6) : F_X1_tooWarm P Yd = some (zo_hot (Yd 0 1) (P 1) n) := by
  have key : ∀ (k i : Nat), i + k = n → ∀ f, k < f → F_X1_tooWarm_4 P Yd f (zo_hot (Yd 0 1) (P 1) i) (nI i) = some (zo_hot (Yd 0 1) (P 1) n) := by
    intro k
    induction k with
    | zero =>
      intro i hi f hf
      obtain ⟨f, rfl⟩ := zp_f1 hf
      have : i = n := by omega
      subst this
      rw [F_X1_tooWarm_4_n]; unfold F_X1_tooWarm_4_s
      rw [hn, if_pos (nI_le (Nat.le_refl _) (by omega))]
    | succ k ih =>
      intro i hi f hf
      obtain ⟨f, rfl⟩ := zp_f1 hf
      have h1 := ih (i + 1) (by omega) f (by omega)
      rw [F_X1_tooWarm_4_n]; unfold F_X1_tooWarm_4_s F_X1_tooWarm_31; simp only [zp_let]
      rw [hn, if_neg (nI_ge (by omega) (by omega)), zp_ck (by omega) (by decide), nI_clamp (by omega), zp_1]
      rw [zo_hot] at h1
      by_cases q : P 1 i ≤ Yd 0 1
      · rw [if_pos q] at h1 ⊢; exact h1
      · rw [if_neg q] at h1 ⊢; exact h1
  exact key n 0 (by omega) 1000 (by omega)
theorem zc_warmest (P : Ob) {n : Nat} (h6 : n ≤ 6) : F_X1_warmest P (nI n) = some (zo_most (P 1) n) := by
  have key : ∀ (k i : Nat), i + k = n → ∀ f, k < f → F_X1_warmest_5 P f (nI n) (zo_most (P 1) i) (nI i) = some (zo_most (P 1) n) := by
    intro k
    induction k with
    | zero =>
      intro i hi f hf
      obtain ⟨f, rfl⟩ := zp_f1 hf
      have : i = n := by omega
      subst this
      rw [F_X1_warmest_5_n]; unfold F_X1_warmest_5_s
      rw [if_pos (nI_le (Nat.le_refl _) (by omega))]
    | succ k ih =>
      intro i hi f hf
      obtain ⟨f, rfl⟩ := zp_f1 hf
      have h1 := ih (i + 1) (by omega) f (by omega)
      rw [F_X1_warmest_5_n]; unfold F_X1_warmest_5_s F_X1_warmest_37 F_X1_warmest_39; simp only [zp_let]
      rw [if_neg (nI_ge (by omega) (by omega)), if_neg (zp_g6 (i := i) (by omega))]
      rw [zo_most] at h1
      by_cases q : zo_most (P 1) i = -9
      · rw [if_pos q] at h1 ⊢; rw [zp_1]; exact h1
      · rw [if_neg q] at h1 ⊢
        rcases zo_most1 (P 1) i with q2 | ⟨j, hj, q2⟩
        · exact absurd q2 q
        · rw [q2] at h1 ⊢
          rw [zp_ck (by omega) (by decide), zp_ck (by omega) (by decide)]
          rw [nI_clamp (show j < 2 ^ 31 by omega)] at h1 ⊢
          rw [nI_clamp (show i < 2 ^ 31 by omega), zp_1]
          by_cases q3 : P 1 i ≤ P 1 j
          · rw [if_pos q3] at h1 ⊢; exact h1
          · rw [if_neg q3] at h1 ⊢; exact h1
  exact key n 0 (by omega) 1000 (by omega)
theorem zo_or0 (x : Int32) : x ||| 0 = x := by simp
theorem zm_now (M : Ob) {n : Nat} (hn : M 0 10 = nI n) (h6 : n ≤ 6) (u : Int32) : F_X8_now M u = F_X8_now_94 M u (zo_sum (M 9) n) (zo_hot (M 0 11) (M 9) n) (zo_most (M 9) n) := by
  have key : ∀ (k i : Nat), i + k = n → ∀ f, k < f → F_X8_now_11 M f u (zo_sum (M 9) i) (zo_hot (M 0 11) (M 9) i) (zo_most (M 9) i) (nI i) = F_X8_now_94 M u (zo_sum (M 9) n) (zo_hot (M 0 11) (M 9) n) (zo_most (M 9) n) := by
    intro k
    induction k with
    | zero =>
      intro i hi f hf
      obtain ⟨f, rfl⟩ := zp_f1 hf
      have : i = n := by omega
      subst this
      rw [F_X8_now_11_n]; unfold F_X8_now_11_s
      rw [hn, if_pos (nI_le (Nat.le_refl _) (by omega))]
    | succ k ih =>
      intro i hi f hf
      obtain ⟨f, rfl⟩ := zp_f1 hf
      have h1 := ih (i + 1) (by omega) f (by omega)
      rw [F_X8_now_11_n]; unfold F_X8_now_11_s; simp only [zp_let]
      have ck : ∀ (y : Option Int32), zs_ck (nI i) 6 y = y := fun y => zp_ck (by omega) (by decide)
      rw [hn, if_neg (nI_ge (by omega) (by omega)), ck, ck, nI_clamp (by omega)]
      have d : ∀ y, F_X8_now_53 M (F_X8_now_11 M f) u (zo_sum (M 9) i + M 9 i) (zo_most (M 9) i) (nI i) y (zo_hot (M 0 11) (M 9) i) = F_X8_now_11 M f u (zo_sum (M 9) (i + 1)) (zo_hot (M 0 11) (M 9) i ||| y) (zo_most (M 9) (i + 1)) (nI (i + 1)) := by
        intro y
        unfold F_X8_now_53 F_X8_now_79 F_X8_now_86; simp only [zp_let]
        rw [zo_sum, zo_most, zp_1]
        by_cases q : zo_most (M 9) i = -9
        · rw [if_pos q, if_pos q]
        · rw [if_neg q, if_neg q, ck]
          rcases zo_most1 (M 9) i with q2 | ⟨j, hj, q2⟩
          · exact absurd q2 q
          · rw [q2, zp_ck (by omega) (by decide), nI_clamp (show j < 2 ^ 31 by omega), nI_clamp (show i < 2 ^ 31 by omega)]
            by_cases q3 : M 9 i ≤ M 9 j
            · rw [if_pos q3, if_pos q3]
            · rw [if_neg q3, if_neg q3]
      rw [d, d, zo_or0]
      rw [show zo_hot (M 0 11) (M 9) (i + 1) = if M 9 i ≤ M 0 11 then zo_hot (M 0 11) (M 9) i else zo_hot (M 0 11) (M 9) i ||| ((1 : Int32) <<< (nI i &&& 31)) from rfl] at h1
      by_cases q : M 9 i ≤ M 0 11
      · rw [if_pos q] at h1 ⊢; exact h1
      · rw [if_neg q] at h1 ⊢; exact h1
  exact key n 0 (by omega) 1000 (by omega)
theorem zo_now {Xm : Ob} {tr : Int64} {Tx Pr Sg Im0 Im1 Yt M : Ob} {mt : Int64} (h : zr Xm tr Tx Pr Sg Im0 Im1 Yt M mt) (u : Int32) : ∃ r, F_X7_now Pr Yt u = some r ∧ F_X8_now M u = some r := by
  obtain ⟨n, ⟨⟨a1, a2, a3, a4⟩, -⟩, ⟨⟨b1, b2, b3, b4, b5⟩, b6, -⟩, -⟩ := h
  rw [zm_now M a2 a3]
  unfold F_X7_now F_X8_now_94
  rw [a1, zc_warmthOfAll Pr a3, zc_tooWarm Pr Yt a1 a3, zc_warmest Pr a3, a4, b1, b4, zo_sumA b6, zo_hotA _ b6, zo_mostA a3 b6]
  simp only [zp_bdS]
  refine zo_ex ?_
  repeat' split
  all_goals exact ⟨_, rfl⟩
theorem zo_saw {Xm : Ob} {tr : Int64} {Tx Pr Sg Im0 Im1 Yt M : Ob} {mt : Int64} (h : zr Xm tr Tx Pr Sg Im0 Im1 Yt M mt) (x y z : Int32) : ∃ r Sg' M', F_X7_saw Yt Sg x y z = some (r, Sg') ∧ F_X8_saw M x y z = some (r, M') ∧ zr Xm tr Tx Pr Sg' Im0 Im1 Yt M' mt := by
  obtain ⟨n, a, b, c, d, e, f⟩ := id h
  obtain ⟨⟨a1, a2, a3, a4⟩, -⟩ := id a
  obtain ⟨k, d1, d2, d3, d4⟩ := id d
  unfold F_X7_saw F_X8_saw
  rcases zq_rng x (N := 20) (by decide) with ⟨hh, l1, rfl, e1, e2⟩ | ⟨e1, e2⟩
  · rw [show F_X7_isWithin (nI hh) 20 = _ from e1, show F_X8_in (nI hh).toInt64 0 20 = _ from e2, zp_bd, zp_bd, zp_i1, zp_i1]
    rcases zq_wall a1 a2 a3 y with ⟨w, hw, rfl, e3, e4⟩ | ⟨e3, e4⟩
    · rw [e3, e4, zp_bd, zp_bd, zp_i1, zp_i1]
      rcases zq_rng z (N := 9999) (by decide) with ⟨t, l2, rfl, e5, e6⟩ | ⟨e5, e6⟩
      · rw [show F_X7_isWithin (nI t) 9999 = _ from e5, show F_X8_in (nI t).toInt64 0 9999 = _ from e6, zp_bd, zp_bd, zp_i1, zp_i1, d2, d3]
        by_cases hk : k = 8
        · subst hk
          rw [if_neg (by decide), if_pos (show nI 8 = (8 : Int32) from rfl)]
          exact ⟨_, _, _, rfl, rfl, h⟩
        · rw [if_pos (zp_l8 (i := k) (by omega)), if_neg (show ¬ nI k = (8 : Int32) from fun q => by have := (nI_eq (a := k) (b := 8) (by omega) (by decide)).mp q; omega)]
          unfold F_X3_add
          have ck : ∀ {α : Type} (y : Option α), zs_ck (nI k) 8 y = y := fun y => zp_ck (by omega) (by decide)
          have kc : (nI k).toNatClampNeg = k := nI_clamp (by omega)
          have s0 : ∀ (Q : Ob) c i v, c ≠ 0 → (zs_up Q c i v) 0 = Q 0 := fun Q c i v hc => by simp[zp_uD, Ne.symm hc]
          rw [d2, if_neg (zp_g8 (i := k) (by omega))]
          simp only [zp_let, ck, kc, s0 _ 1 _ _ (by decide), s0 _ 2 _ _ (by decide), s0 _ 3 _ _ (by decide), s0 _ 14 _ _ (by decide), s0 _ 15 _ _ (by decide), s0 _ 16 _ _ (by decide), d2, d3, zp_bdS, zp_1]
          have v1 : (zs_up (zs_up (zs_up (zs_up Sg 1 k (nI hh)) 2 k (nI w)) 3 k (nI t)) 0 0 (nI (k + 1))) 0 0 = nI (k + 1) := by simp[zp_uD, zp_upR]
          have v2 : (zs_up (zs_up (zs_up (zs_up M 14 k (nI hh)) 15 k (nI w)) 16 k (nI t)) 0 27 (nI (k + 1))) 0 27 = nI (k + 1) := by simp[zp_uD, zp_upR]
          rw [v1, v2]
          refine ⟨_, _, _, rfl, rfl, n, ?_, ?_, ?_, ?_, ?_, f⟩
          · refine zr_Yc a ?_ ?_ ?_ ?_ ?_ ?_ ?_ <;> simp[zp_uD, zp_upR]
          · refine zr_Nc b ?_ ?_ ?_ ?_ ?_ (fun j _ => ?_) ?_ <;> simp[zp_uD, zp_upR]
          · refine zr_Tc c ?_ ?_ <;> simp[zp_uD, zp_upR]
          · refine ⟨k + 1, by omega, v1, v2, ?_⟩
            intro i hi
            by_cases q : i = k
            · subst q
              exact ⟨hh, w, l1, hw, by simp[zp_uD, zp_upR], by simp[zp_uD, zp_upR], by simp[zp_uD, zp_upR], by simp[zp_uD, zp_upR], by simp[zp_uD, zp_upR]⟩
            · obtain ⟨h', w', r1, r2, r3, r4, r5, r6, r7⟩ := d4 i (by omega)
              exact ⟨h', w', r1, r2, by simp[zp_uD, zp_upR, q, r3], by simp[zp_uD, zp_upR, q, r4], by simp[zp_uD, zp_upR, q, r5], by simp[zp_uD, zp_upR, q, r6], by simp[zp_uD, zp_upR, q, r7]⟩
          · refine zr_Ic e ?_; simp[zp_uD]
      · rw [show F_X7_isWithin z 9999 = _ from e5, show F_X8_in z.toInt64 0 9999 = _ from e6, zp_bd, zp_bd, zp_i0, zp_i0]; exact ⟨_, _, _, rfl, rfl, h⟩
    · rw [e3, e4, zp_bd, zp_bd, zp_i0, zp_i0]; exact ⟨_, _, _, rfl, rfl, h⟩
  · rw [show F_X7_isWithin x 20 = _ from e1, show F_X8_in x.toInt64 0 20 = _ from e2, zp_bd, zp_bd, zp_i0, zp_i0]; exact ⟨_, _, _, rfl, rfl, h⟩
theorem zo_mark {Xm : Ob} {tr : Int64} {Tx Pr Sg Im0 Im1 Yt M : Ob} {mt : Int64} (h : zr Xm tr Tx Pr Sg Im0 Im1 Yt M mt) (x y : Int32) : ∃ r tr' mt', F_X7_mark tr Pr Yt x y = some (r, tr') ∧ F_X8_mark M mt x y = some (r, mt') ∧ zr Xm tr' Tx Pr Sg Im0 Im1 Yt M mt' := by
  obtain ⟨n, a, b, c, d, e, f⟩ := id h
  obtain ⟨⟨a1, a2, a3, a4⟩, ⟨s1, s2, s3, s4, s5, s6⟩, vv, rr, kk, p, p1, p2, p3, p4, p5, p6, -⟩ := id a
  obtain ⟨⟨b1, b2, b3, b4, b5⟩, b6, -⟩ := id b
  subst f
  have same : ∀ r t', F_X7_mark tr Pr Yt x y = some (r, t') → F_X8_mark M tr x y = some (r, t') → ∃ r tr' mt', F_X7_mark tr Pr Yt x y = some (r, tr') ∧ F_X8_mark M tr x y = some (r, mt') ∧ zr Xm tr' Tx Pr Sg Im0 Im1 Yt M mt' :=
    fun r t' q1 q2 => ⟨r, t', t', q1, q2, n, a, b, c, d, e, rfl⟩
  unfold F_X7_mark F_X8_mark at same ⊢
  rcases zq_wall a1 a2 a3 y with ⟨w, hw, rfl, e1, e2⟩ | ⟨e1, e2⟩
  · rw [e1, zp_bd, zp_i1] at same ⊢
    rcases zq_rng x (N := 5) (by decide) with ⟨k, l1, rfl, -, e3⟩ | ⟨-, e3⟩
    · rw [show F_X8_in (nI k).toInt64 0 5 = _ from e3, zp_bd, zp_i1, e2, zp_bd, zp_i1] at same ⊢
      have hpq := zm_seenP M p4 w (by omega)
      have hc : ∀ {α : Type} (y : Option α), zs_ck (nI w) 6 y = y := fun y => zp_ck (by omega) (by decide)
      have hi : (nI w).toNatClampNeg = w := nI_clamp (by omega)
      have ta : ∀ a b : Int64, tr + a + b = tr + (a + b) := fun a b => Int64.add_assoc tr a b
      rcases (show k = 0 ∨ k = 1 ∨ k = 2 ∨ k = 3 ∨ k = 4 ∨ k = 5 by omega) with rfl | rfl | rfl | rfl | rfl | rfl
      · rw [if_pos (by decide), if_pos (by decide)] at same ⊢
        unfold F_X7_markOfWall F_X8_mark_83 at same ⊢
        simp only [hc, hi, hpq, zp_let, zp_bdS, zp_b2S] at same ⊢
        exact same _ _ rfl (by rw [if_pos (by decide), b6 w hw])
      · rw [if_neg (by decide), if_pos (by decide), if_neg (by decide), if_pos (by decide)] at same ⊢
        unfold F_X7_markOfFin F_X7_markOfWall F_X8_mark_83 at same ⊢
        simp only [hc, hi, hpq, zp_let, zp_bdS, zp_b2S, ta] at same ⊢
        exact same _ _ rfl (by rw [if_neg (by decide), if_pos (by decide), b6 w hw, s2 w hw]; rfl)
      · rw [if_neg (by decide), if_neg (by decide), if_pos (by decide), if_neg (by decide), if_neg (by decide), if_pos (by decide)] at same ⊢
        unfold F_X7_markOfBrick F_X7_markOfWall F_X6_dark F_X8_mark_83 at same ⊢
        simp only [hc, hi, hpq, zp_let, zp_bdS, zp_b2S, ta] at same ⊢
        exact same _ _ rfl (by rw [if_neg (by decide), if_neg (by decide), if_pos (by decide), b6 w hw, p6 w (by omega)]; rfl)
      · rw [if_neg (by decide), if_neg (by decide), if_neg (by decide), if_pos (by decide), if_neg (by decide), if_neg (by decide), if_neg (by decide), if_pos (by decide)] at same ⊢
        unfold F_X7_markOfFurnace F_X7_markOfFin F_X7_markOfWall F_X8_mark_83 at same ⊢
        simp only [hc, hi, hpq, zp_let, zp_bdS, zp_b2S, ta] at same ⊢
        exact same _ _ rfl (by rw [if_neg (by decide), if_neg (by decide), if_neg (by decide), if_pos (by decide), b6 w hw, s2 w hw, Int32.mul_comm]; rfl)
      · rw [if_neg (by decide), if_neg (by decide), if_neg (by decide), if_neg (by decide), if_pos (by decide), if_neg (by decide), if_neg (by decide), if_neg (by decide), if_neg (by decide), if_pos (by decide)] at same ⊢
        unfold F_X7_markOfWindow F_X7_markOfBrick F_X7_markOfWall F_X6_dark F_X8_mark_83 at same ⊢
        simp only [hc, hi, hpq, zp_let, zp_bdS, zp_b2S, ta] at same ⊢
        exact same _ _ rfl (by rw [if_neg (by decide), if_neg (by decide), if_neg (by decide), if_neg (by decide), if_pos (by decide), b6 w hw, p6 w (by omega)]; rfl)
      · rw [if_neg (by decide), if_neg (by decide), if_neg (by decide), if_neg (by decide), if_neg (by decide), if_pos (by decide), if_neg (by decide), if_neg (by decide), if_neg (by decide), if_neg (by decide), if_neg (by decide)] at same ⊢
        unfold F_X7_markOfHull F_X7_markOfWall F_X8_mark_83 at same ⊢
        simp only [hc, hi, hpq, zp_let, zp_bdS, zp_b2S, ta] at same ⊢
        exact same _ _ rfl (by rw [if_neg (by decide), if_neg (by decide), if_neg (by decide), if_neg (by decide), if_neg (by decide), b6 w hw, b1]; rfl)
    · have ne : ∀ k, k ≤ 5 → ¬ x = nI k := by
        intro k hk q
        subst q
        rw [zq_in, if_pos ⟨(nI_leI (a := 0) (b := k) (by decide) (by omega)).mpr (by omega), (nI_leI (a := k) (b := 5) (by omega) (by decide)).mpr hk⟩] at e3
        exact absurd e3 (by decide)
      rw [show F_X8_in x.toInt64 0 5 = _ from e3, zp_bd, zp_i0, if_neg (show ¬ x = (0 : Int32) from ne 0 (by decide)), if_neg (show ¬ x = (1 : Int32) from ne 1 (by decide)), if_neg (show ¬ x = (2 : Int32) from ne 2 (by decide)), if_neg (show ¬ x = (3 : Int32) from ne 3 (by decide)), if_neg (show ¬ x = (4 : Int32) from ne 4 (by decide)), if_neg (show ¬ x = (5 : Int32) from ne 5 (by decide))] at same ⊢
      exact same _ _ rfl rfl
  · rw [e1, e2, zp_bd, zp_i0] at same ⊢
    rcases zq_rng x (N := 5) (by decide) with ⟨k, l1, rfl, -, e3⟩ | ⟨-, e3⟩
    · rw [show F_X8_in (nI k).toInt64 0 5 = _ from e3, zp_bd, zp_i1, zp_bd, zp_i0] at same ⊢
      exact same _ _ rfl rfl
    · rw [show F_X8_in x.toInt64 0 5 = _ from e3, zp_bd, zp_i0] at same ⊢
      exact same _ _ rfl rfl
