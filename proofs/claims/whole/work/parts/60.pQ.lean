/-! ===== PURE 17: harm ===== -/
theorem zh_inS (sh mi : Int32) (ps : Nat → Int32) (g : Int32) (w a : Nat) (x : Int32) : ∀ (i : Nat) (T : Nat → Int32) (l : Int32), zh_in sh mi ps g w i (upd T a (T a + x), l) = (upd (zh_in sh mi ps g w i (T, l)).1 a ((zh_in sh mi ps g w i (T, l)).1 a + x), (zh_in sh mi ps g w i (T, l)).2) := by
  have sw : ∀ (R : Nat → Int32) (j : Nat) (y : Int32), upd (upd R a (R a + x)) j ((upd R a (R a + x)) j + y) = upd (upd R j (R j + y)) a ((upd R j (R j + y)) a + x) := by
    intro R j y
    by_cases h : j = a
    · subst h
      rw [zp_us, zp_uu, zp_us, zp_uu]
      congr 1
      grind
    · rw [zp_un _ _ h, zp_un _ _ (Ne.symm h), zp_uc _ (Ne.symm h)]
  intro i
  induction i with
  | zero => intro T l; rfl
  | succ i ih =>
    intro T l
    rw [zh_in, ih, zh_in]
    generalize (zh_in sh mi ps g w i (T, l)) = r
    obtain ⟨R, k⟩ := r
    generalize g * ps (6 * w + i) / 10 = y
    dsimp only
    by_cases h1 : zp_bt mi i = 1
    · rw [if_pos h1, if_pos h1]
      dsimp only
      rw [sw]
    · rw [if_neg h1, if_neg h1]
      by_cases h2 : zp_bt sh i = 0
      · rw [if_pos h2, if_pos h2]
        dsimp only
        rw [sw]
      · rw [if_neg h2, if_neg h2]
theorem zh_outS (sh mi : Int32) (rt ps wm : Nat → Int32) (n a : Nat) (x : Int32) (T : Nat → Int32) (d : Int32) : ∀ i, zh_out sh mi rt ps wm n i (upd T a (T a + x), d) = (upd (zh_out sh mi rt ps wm n i (T, d)).1 a ((zh_out sh mi rt ps wm n i (T, d)).1 a + x), (zh_out sh mi rt ps wm n i (T, d)).2) := by
  intro i
  induction i with
  | zero => rfl
  | succ i ih =>
    rw [zh_out, zh_out, ih]
    dsimp only
    generalize zh_out sh mi rt ps wm n i (T, d) = r
    obtain ⟨R, k⟩ := r
    dsimp only
    generalize zh_g sh rt wm i = g
    have sw : upd (upd R a (R a + x)) i ((upd R a (R a + x)) i - g) = upd (upd R i (R i - g)) a ((upd R i (R i - g)) a + x) := by
      by_cases h : i = a
      · subst h
        rw [zp_us, zp_uu, zp_us, zp_uu]
        congr 1
        grind
      · rw [zp_un _ _ h, zp_un _ _ (Ne.symm h), zp_uc _ (Ne.symm h)]
    rw [sw, zh_inS]
theorem zh_TS (n : Nat) (rt wk hs ps : Nat → Int32) (sh mi hr : Int32) (wm : Nat → Int32) (a : Nat) (x : Int32) : zh_T n rt wk hs ps (upd (fun _ => 0) a x) sh mi hr wm = upd (zh_T n rt wk hs ps (fun _ => 0) sh mi hr wm) a (zh_T n rt wk hs ps (fun _ => 0) sh mi hr wm a + x) := by
  unfold zh_T
  have e : zh_b hr wk hs (upd (fun _ => 0) a x) wm = upd (zh_b hr wk hs (fun _ => 0) wm) a (zh_b hr wk hs (fun _ => 0) wm a + x) := by
    funext j
    by_cases h : j = a
    · subst h; rw [zp_us]; unfold zh_b; rw [zp_us]; simp
    · rw [zp_un _ _ h]; unfold zh_b; rw [zp_un _ _ h]
  rw [e, zh_outS]
def zb_h (M : Ob) (w : Nat) (x : Int32) : Ob := zp_row (zQ M) 7 (upd (fun _ => 0) w x)
theorem zm_sum (M : Ob) {n : Nat} (hn : M 0 10 = nI n) (h6 : n ≤ 6) : F_X8_sumWith_55 M = some (zo_sum (M 12) n, M) := by
  have key : ∀ (k i : Nat), i + k = n → ∀ f, k < f → F_X8_sumWith_60 f M (zo_sum (M 12) i) (nI i) = some (zo_sum (M 12) n, M) := by
    intro k
    induction k with
    | zero =>
      intro i hi f hf
      obtain ⟨f, rfl⟩ := zp_f1 hf
      have : i = n := by omega
      subst this
      rw [F_X8_sumWith_60_n]; unfold F_X8_sumWith_60_s
      rw [hn, if_pos (nI_le (Nat.le_refl _) (by omega))]
    | succ k ih =>
      intro i hi f hf
      obtain ⟨f, rfl⟩ := zp_f1 hf
      have h1 := ih (i + 1) (by omega) f (by omega)
      rw [F_X8_sumWith_60_n]; unfold F_X8_sumWith_60_s; simp only [zp_let]
      rw [hn, if_neg (nI_ge (by omega) (by omega)), zp_ck (by omega) (by decide), nI_clamp (by omega), zp_1]
      exact h1
  unfold F_X8_sumWith_55
  exact key n 0 (by omega) 1000 (by omega)
theorem zm_sumW {n : Nat} {M M1 : Ob} (hx : zx n (zQ M) M) (g : zf M M1) {w : Nat} (hw : w < n) (x : Int32) : ∃ M', F_X8_sumWith M1 (nI w) x = some (zo_sum (zj n (zb_h M w x) (M 0 19) (M 0 20) (M 0 18) 8) n, M') ∧ zf M M' := by
  have hq : ∀ k, zj n (zb_h M w x) (M 0 19) (M 0 20) (M 0 18) (k + 1) = upd (zh_T n (M 5) (M 6) (M 7) (M 8) (fun _ => 0) (M 0 19) (M 0 20) (zh_r (M 0 18 + nI k)) (zj n (zb_h M w x) (M 0 19) (M 0 20) (M 0 18) k)) w (zh_T n (M 5) (M 6) (M 7) (M 8) (fun _ => 0) (M 0 19) (M 0 20) (zh_r (M 0 18 + nI k)) (zj n (zb_h M w x) (M 0 19) (M 0 20) (M 0 18) k) w + x) := by
    intro k
    rw [zj, ← zh_TS]
    unfold zb_h
    rw [zp_rs, zp_rn _ _ (show (2 : Nat) ≠ 7 by decide), zp_rn _ _ (show (3 : Nat) ≠ 7 by decide), zp_rn _ _ (show (4 : Nat) ≠ 7 by decide), zp_rn _ _ (show (5 : Nat) ≠ 7 by decide)]
    rfl
  have key : ∀ (k i : Nat), i + k = 8 → ∀ f, k < f → ∀ M1, zf M M1 → zp_ag n (M1 12) (zj n (zb_h M w x) (M 0 19) (M 0 20) (M 0 18) i) → ∃ M', F_X8_sumWith_6 f M1 (nI w) x (nI i) = some (zo_sum (zj n (zb_h M w x) (M 0 19) (M 0 20) (M 0 18) 8) n, M') ∧ zf M M' := by
    intro k
    induction k with
    | zero =>
      intro i hi f hf M1 g1 g2
      obtain ⟨f, rfl⟩ := zp_f1 hf
      have : i = 8 := by omega
      subst this
      rw [F_X8_sumWith_6_n]; unfold F_X8_sumWith_6_s
      rw [if_pos (by decide), zm_sum M1 (zf_x g1 hx).1 hx.2.1, zo_sumA g2]
      exact ⟨_, rfl, g1⟩
    | succ k ih =>
      intro i hi f hf M1 g1 g2
      obtain ⟨f, rfl⟩ := zp_f1 hf
      have hx1 := zf_x g1 hx
      obtain ⟨c1, c2, c3, c4, c5, c6, c7⟩ := hx1
      obtain ⟨M2, m1, m2, m3, m4⟩ := zm_goes_row M1 c1 c2 (M 0 18 + nI i) (M 0 19) (M 0 20)
      rw [F_X8_sumWith_6_n]; unfold F_X8_sumWith_6_s F_X8_sumWith_49
      rw [if_neg (zp_g8 (i := i) (by omega)), g1.1, m1, zp_b2, if_neg (zp_nneg (by omega)), zp_ck (by omega) (by decide), zp_ck (by omega) (by decide), nI_clamp (by omega)]
      simp only [zp_let]
      rw [zp_1]
      have z2 : zf M1 M2 := ⟨m4 0 (by decide) (by decide), fun c _ b d _ => m4 c b d⟩
      have z3 : zf M (zs_up M2 12 w (M2 12 w + x)) := by
        have z4 := zf_t g1 z2
        exact ⟨by rw [← z4.1]; simp [zp_uD], fun c d0 d10 d12 d13 => by rw [← z4.2 c d0 d10 d12 d13]; simp [zp_uD, d12]⟩
      refine ih (i + 1) (by omega) f (by omega) _ z3 ?_
      rw [show (zs_up M2 12 w (M2 12 w + x)) 12 = upd (M2 12) w (M2 12 w + x) from by simp [zp_uD]]
      obtain ⟨q1, -⟩ := zh_TA n (rt1 := M1 5) (rt2 := M 5) (wk1 := M1 6) (wk2 := M 6) (hs1 := M1 7) (hs2 := M 7) (ps1 := M1 8) (ps2 := M 8) (fu1 := fun _ => 0) (fu2 := fun _ => 0) (M 0 19) (M 0 20) (zh_r (M 0 18 + nI i)) (fun j hj => c3 j hj) (fun j hj => c4 j hj) (fun j hj => c5 j hj) (fun a o ha ho => c6 _ (by omega)) (fun _ _ => rfl) g2
      intro j hj
      rw [hq]
      by_cases e : j = w
      · subst e; rw [zp_us, zp_us, m2 j hj, q1 j hj]
      · rw [zp_un _ _ e, zp_un _ _ e, m2 j hj, q1 j hj]
  have hx1 := zf_x g hx
  obtain ⟨M2, m0, m1, m2, -⟩ := zl_begins M1 hx1.1 hx.2.1
  unfold F_X8_sumWith
  rw [m0, zp_bd]
  refine key 8 0 rfl 1000 (by omega) M2 (zf_t g m2) (fun j hj => ?_)
  rw [m1 j hj, g.2 9 (by decide) (by decide) (by decide) (by decide), zj]
  unfold zb_h
  rw [zp_rn _ _ (by decide)]
  rfl
theorem zm_sumN {n : Nat} {M M1 : Ob} (hx : zx n (zQ M) M) (g : zf M M1) (x : Int32) : ∃ M', F_X8_sumWith M1 (-1) x = some (zo_sum (zj n (zQ M) (M 0 19) (M 0 20) (M 0 18) 8) n, M') ∧ zf M M' := by
  have key : ∀ (k i : Nat), i + k = 8 → ∀ f, k < f → ∀ M1, zf M M1 → zp_ag n (M1 12) (zj n (zQ M) (M 0 19) (M 0 20) (M 0 18) i) → ∃ M', F_X8_sumWith_6 f M1 (-1) x (nI i) = some (zo_sum (zj n (zQ M) (M 0 19) (M 0 20) (M 0 18) 8) n, M') ∧ zf M M' := by
    intro k
    induction k with
    | zero =>
      intro i hi f hf M1 g1 g2
      obtain ⟨f, rfl⟩ := zp_f1 hf
      have : i = 8 := by omega
      subst this
      rw [F_X8_sumWith_6_n]; unfold F_X8_sumWith_6_s
      rw [if_pos (by decide), zm_sum M1 (zf_x g1 hx).1 hx.2.1, zo_sumA g2]
      exact ⟨_, rfl, g1⟩
    | succ k ih =>
      intro i hi f hf M1 g1 g2
      obtain ⟨f, rfl⟩ := zp_f1 hf
      obtain ⟨dd, M2, m1, m2, m3, -⟩ := zl_m (zf_x g1 hx) g2
      rw [F_X8_sumWith_6_n]; unfold F_X8_sumWith_6_s F_X8_sumWith_49
      rw [if_neg (zp_g8 (i := i) (by omega)), g1.1, m1, zp_b2, if_pos (by decide)]
      simp only [zp_let]
      rw [zp_1]
      exact ih (i + 1) (by omega) f (by omega) _ (zf_t g1 m3) m2
  have hx1 := zf_x g hx
  obtain ⟨M2, m0, m1, m2, -⟩ := zl_begins M1 hx1.1 hx.2.1
  unfold F_X8_sumWith
  rw [m0, zp_bd]
  refine key 8 0 rfl 1000 (by omega) M2 (zf_t g m2) (fun j hj => ?_)
  rw [m1 j hj, g.2 9 (by decide) (by decide) (by decide) (by decide)]
  rfl
theorem zc_harm {n : Nat} {Pr Yt M : Ob} (hY : zr_Y n Yt M) (hN : zr_N n Pr M) (Ah Tn Yi : Ob) {w : Nat} (hw : w < n) (x : Int32) : ∃ Tn' Yi', F_X7_harmDone Pr Yt Ah Tn Yi (nI w) x = some (zo_sum (zj n (zb_h M w x) (M 0 19) (M 0 20) (M 0 18) 8) n - zo_sum (zj n (zQ M) (M 0 19) (M 0 20) (M 0 18) 8) n, (Tn', Yi')) := by
  obtain ⟨⟨a1, a2, a3, a4⟩, -⟩ := id hY
  obtain ⟨hy, hx⟩ := zQ_y hY
  unfold F_X7_harmDone
  obtain ⟨Y1, k0, k1, k2, k3, k4⟩ := zc_ycopy Yi Yt
  have hy1 := zy_copy hy k1 k3 k4
  obtain ⟨T1, t0, t1, t2, t3, t4⟩ := zl_set Ah Tn Pr
  obtain ⟨T2, u0, u1⟩ := zl_goOn Ah hy (show 8 < 1000 by decide) (zl_t0 a3 hN t1 t2 t3 t4 rfl : zt n (zQ M) (M 0 19) (M 0 20) (M 0 18) 0 T1)
  obtain ⟨T3, s0, s1, s2, s3, s4⟩ := zl_set Ah T2 Pr
  have hy2 : zy n (zb_h M w x) (zs_up Y1 7 w x) := by
    obtain ⟨c1, c2, c3, c4, c5, c6, c7⟩ := hy1
    refine ⟨by simp [zp_uD, c1], c2, by simpa [zp_uD, zb_h, zp_rD] using c3, by simpa [zp_uD, zb_h, zp_rD] using c4, by simpa [zp_uD, zb_h, zp_rD] using c5, by simpa [zp_uD, zb_h, zp_rD] using c6, ?_⟩
    intro j hj
    have := c7 j hj
    unfold zb_h
    rw [zp_rs, show (zs_up Y1 7 w x) 7 = upd (Y1 7) w x from by simp [zp_uD]]
    by_cases e : j = w
    · subst e; rw [zp_us, zp_us]
    · rw [zp_un _ _ e, zp_un _ _ e, this]; rfl
  obtain ⟨T4, v0, v1⟩ := zl_goOn Ah hy2 (show 8 < 1000 by decide) (zl_t0 a3 hN s1 s2 s3 s4 (by unfold zb_h; rw [zp_rn _ _ (by decide)]; rfl) : zt n (zb_h M w x) (M 0 19) (M 0 20) (M 0 18) 0 T3)
  rw [k0, zp_bd, t0, zp_bd, show F_X0_goOn Ah T1 Yt 8 = _ from u0, zp_bd, a1, zc_warmthOfAll T2 a3, zp_bd, zp_ck (by omega) (by decide), nI_clamp (by omega)]
  simp only [zp_let]
  rw [s0, zp_bd, show F_X0_goOn Ah T3 (zs_up Y1 7 w x) 8 = _ from v0, zp_bd, zc_warmthOfAll T4 a3, zp_bd]
  rw [Nat.zero_add] at u1 v1
  exact ⟨_, _, by rw [zo_sumA (f := T2 1) u1.2.2.2, zo_sumA (f := T4 1) v1.2.2.2]⟩
/-! in whole numbers -/
theorem zo_sumN {wm : Nat → Int32} {v : Nat → Nat} : ∀ {n : Nat}, (∀ w, w < n → wm w = nI (v w)) → zo_sum wm n = nI (zp_sm v n) := by
  intro n
  induction n with
  | zero => intro _; rfl
  | succ n ih => intro h; rw [zo_sum, zp_sm, ih (fun w hw => h w (by omega)), h n (by omega), nI_add]
theorem zj_N {n : Nat} (h6 : n ≤ 6) {q : Ob} {r k ff : Nat → Nat} {p : Nat → Nat → Nat} (sh mi h : Int32) (hp : ∀ i o, i < n → o < n → q 5 (6 * i + o) = nI (p i o)) (hp10 : ∀ i, i < n → zp_sm (p i) n ≤ 10) (hr : ∀ w, w < n → q 2 w = nI (r w) ∧ r w ≤ 9) (hk : ∀ w, w < n → q 3 w = nI (k w) ∧ k w ≤ 20) (hf : ∀ w, w < n → q 7 w = nI (ff w)) (hfs : zp_sm ff n ≤ 50) (hv : ∃ v0 : Nat → Nat, (∀ w, w < n → q 1 w = nI (v0 w)) ∧ zp_sm v0 n ≤ 120480) : ∀ K, K ≤ 1000 → ∃ v : Nat → Nat, (∀ w, w < n → zj n q sh mi h K w = nI (v w)) ∧ zp_sm v n ≤ 120480 + 170 * K := by
  intro K
  induction K with
  | zero => intro _; obtain ⟨v0, a, b⟩ := hv; exact ⟨v0, a, by omega⟩
  | succ K ih =>
    intro hK
    obtain ⟨v, v1, v2⟩ := ih (by omega)
    obtain ⟨t, t1, t2⟩ := zh_TN (rt := q 2) (wk := q 3) (hs := q 4) (ps := q 5) (fu := q 7) (wm := zj n q sh mi h K) (f := ff) sh mi (zh_r (h + nI K)) hp hp10 hr (fun w hw => ⟨v1 w hw, by have := zp_sme v hw; omega⟩) (fun w hw => (hk w hw).1) hf
    refine ⟨t, t1, ?_⟩
    have e1 : zp_sm (fun w => v w + k w + ff w) n ≤ zp_sm (fun w => (v w + 20) + ff w) n := zp_sml (fun w hw => by have := (hk w hw).2; omega)
    have e2 := zp_sma (fun w => v w + 20) ff n
    have e3 := zp_sma v (fun _ => 20) n
    rw [zp_smk] at e3
    omega
