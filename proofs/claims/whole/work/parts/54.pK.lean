/-! ===== PURE 11: what comes ===== -/
/-- the warmths behind so many hours -/
def zj (n : Nat) (q : Ob) (sh mi h : Int32) : Nat → Nat → Int32
  | 0 => q 1
  | k + 1 => zh_T n (q 2) (q 3) (q 4) (q 5) (q 7) sh mi (zh_r (h + nI k)) (zj n q sh mi h k)
def zt (n : Nat) (q : Ob) (sh mi h : Int32) (k : Nat) (Tn : Ob) : Prop := Tn 0 0 = h + nI k ∧ Tn 0 1 = sh ∧ Tn 0 2 = mi ∧ zp_ag n (Tn 1) (zj n q sh mi h k)
def zy (n : Nat) (q Y : Ob) : Prop := Y 0 0 = nI n ∧ n ≤ 6 ∧ zp_ag n (Y 2) (q 2) ∧ zp_ag n (Y 3) (q 3) ∧ zp_ag n (Y 4) (q 4) ∧ zp_ag 36 (Y 5) (q 5) ∧ zp_ag n (Y 7) (q 7)
def zx (n : Nat) (q M : Ob) : Prop := M 0 10 = nI n ∧ n ≤ 6 ∧ zp_ag n (M 5) (q 2) ∧ zp_ag n (M 6) (q 3) ∧ zp_ag n (M 7) (q 4) ∧ zp_ag 36 (M 8) (q 5) ∧ zp_ag n (fun _ => 0) (q 7)
def zf (M M' : Ob) : Prop := M' 0 = M 0 ∧ ∀ c, c ≠ 0 → c ≠ 10 → c ≠ 12 → c ≠ 13 → M' c = M c
theorem zf_r (M : Ob) : zf M M := ⟨rfl, fun _ _ _ _ _ => rfl⟩
theorem zf_t {M M' M'' : Ob} (h : zf M M') (k : zf M' M'') : zf M M'' := ⟨by rw [k.1, h.1], fun c a b d e => by rw [k.2 c a b d e, h.2 c a b d e]⟩
theorem zf_x {n : Nat} {q M M' : Ob} (h : zf M M') (k : zx n q M) : zx n q M' := by
  unfold zx at k ⊢
  rw [h.1, h.2 5 (by decide) (by decide) (by decide) (by decide), h.2 6 (by decide) (by decide) (by decide) (by decide), h.2 7 (by decide) (by decide) (by decide) (by decide), h.2 8 (by decide) (by decide) (by decide) (by decide)]
  exact k
theorem zf_zr {Xm : Ob} {tr : Int64} {Tx Pr Sg Im0 Im1 Yt M M' : Ob} {mt : Int64} (h : zr Xm tr Tx Pr Sg Im0 Im1 Yt M mt) (k : zf M M') : zr Xm tr Tx Pr Sg Im0 Im1 Yt M' mt :=
  zr_scr h (fun j _ => by rw [k.1]) (fun c a b d e _ _ => k.2 c a b d e)
theorem zl_h (h : Int32) (k : Nat) : h + nI k + 1 = h + nI (k + 1) := by
  rw [Int32.add_assoc, show nI k + (1 : Int32) = nI (k + 1) from nI_1 k]
theorem zl_c {n : Nat} {q Y : Ob} (hY : zy n q Y) {sh mi h : Int32} {k : Nat} {Tn : Ob} (hT : zt n q sh mi h k Tn) : ∃ d Tn', F_X1_goBy Tn Y = some (d, Tn') ∧ zt n q sh mi h (k + 1) Tn' := by
  obtain ⟨a1, a2, a3, a4, a5, a6, a7⟩ := hY
  obtain ⟨t1, t2, t3, t4⟩ := hT
  obtain ⟨P', p1, p2, p3, p4, p5, p6, p7, p8, p9⟩ := zc_goBy Tn Y a1 a2
  rw [t1, t2, t3] at p2
  refine ⟨_, P', p1, by rw [p4, t1, zl_h], by rw [p5, t2], by rw [p6, t3], ?_⟩
  obtain ⟨g1, -⟩ := zh_TA n sh mi (zh_r (h + nI k)) a3 a4 a5 (fun w o hw ho => a6 _ (by omega)) a7 t4
  intro j hj
  rw [p2 j hj, g1 j hj]
  rfl
theorem zl_m {n : Nat} {q M : Ob} (hM : zx n q M) {sh mi h : Int32} {k : Nat} (hT : zp_ag n (M 12) (zj n q sh mi h k)) : ∃ d M', F_X8_goes_row M (h + nI k) sh mi = some (d, M') ∧ zp_ag n (M' 12) (zj n q sh mi h (k + 1)) ∧ zf M M' ∧ M' 13 = M 13 := by
  obtain ⟨a1, a2, a3, a4, a5, a6, a7⟩ := hM
  obtain ⟨M', m1, m2, m3, m4⟩ := zm_goes_row M a1 a2 (h + nI k) sh mi
  obtain ⟨g1, -⟩ := zh_TA n sh mi (zh_r (h + nI k)) a3 a4 a5 (fun w o hw ho => a6 _ (by omega)) a7 hT
  refine ⟨_, M', m1, fun j hj => by rw [m2 j hj, g1 j hj]; rfl, ⟨m4 0 (by decide) (by decide), fun c _ b d _ => m4 c b d⟩, m4 13 (by decide) (by decide)⟩
theorem zl_goOn (Ah : Ob) {n : Nat} {q Y : Ob} (hY : zy n q Y) {sh mi h : Int32} {k0 K : Nat} (hK : K < 1000) {Tn : Ob} (hT : zt n q sh mi h k0 Tn) : ∃ Tn', F_X0_goOn Ah Tn Y (nI K) = some Tn' ∧ zt n q sh mi h (k0 + K) Tn' := by
  have key : ∀ (k i : Nat), i + k = K → ∀ f, k < f → ∀ Tn, zt n q sh mi h (k0 + i) Tn → ∃ Tn', F_X0_goOn_2 Ah Y f Tn (nI K) (nI i) = some Tn' ∧ zt n q sh mi h (k0 + K) Tn' := by
    intro k
    induction k with
    | zero =>
      intro i hi f hf Tn hT
      obtain ⟨f, rfl⟩ := zp_f1 hf
      have : i = K := by omega
      subst this
      rw [F_X0_goOn_2_n]; unfold F_X0_goOn_2_s
      rw [if_pos (nI_le (Nat.le_refl _) (by omega))]
      exact ⟨Tn, rfl, hT⟩
    | succ k ih =>
      intro i hi f hf Tn hT
      obtain ⟨f, rfl⟩ := zp_f1 hf
      obtain ⟨d, Tn', t1, t2⟩ := zl_c hY hT
      obtain ⟨Tn'', u1, u2⟩ := ih (i + 1) (by omega) f (by omega) Tn' t2
      refine ⟨Tn'', ?_, u2⟩
      rw [F_X0_goOn_2_n]; unfold F_X0_goOn_2_s
      rw [if_neg (nI_ge (by omega) (by omega)), t1, zp_b2]
      simp only [zp_let]
      rw [zp_1]
      exact u1
  exact key K 0 (by omega) 1000 (by omega) Tn hT
theorem zl_passes {n : Nat} {q M : Ob} (hM : zx n q M) {sh mi h : Int32} (hh : M 0 18 = h) {K : Nat} (hK : K < 1000) (hT : zp_ag n (M 12) (zj n q sh mi h 0)) : ∃ M', F_X8_passes M (nI K) sh mi = some M' ∧ zp_ag n (M' 12) (zj n q sh mi h K) ∧ zf M M' := by
  have key : ∀ (k i : Nat), i + k = K → ∀ f, k < f → ∀ M, zx n q M → M 0 18 = h → zp_ag n (M 12) (zj n q sh mi h i) → ∃ M', F_X8_passes_3 f M (nI K) sh mi (nI i) = some M' ∧ zp_ag n (M' 12) (zj n q sh mi h K) ∧ zf M M' := by
    intro k
    induction k with
    | zero =>
      intro i hi f hf M hM hh hT
      obtain ⟨f, rfl⟩ := zp_f1 hf
      have : i = K := by omega
      subst this
      rw [F_X8_passes_3_n]; unfold F_X8_passes_3_s
      rw [if_pos (nI_le (Nat.le_refl _) (by omega))]
      exact ⟨M, rfl, hT, zf_r M⟩
    | succ k ih =>
      intro i hi f hf M hM hh hT
      obtain ⟨f, rfl⟩ := zp_f1 hf
      obtain ⟨d, M', t1, t2, t3, -⟩ := zl_m hM hT
      obtain ⟨M'', u1, u2, u3⟩ := ih (i + 1) (by omega) f (by omega) M' (zf_x t3 hM) (by rw [t3.1]; exact hh) t2
      refine ⟨M'', ?_, u2, zf_t t3 u3⟩
      rw [F_X8_passes_3_n]; unfold F_X8_passes_3_s
      rw [if_neg (nI_ge (by omega) (by omega)), hh, t1, zp_b2]
      simp only [zp_let]
      rw [zp_1]
      exact u1
  exact key K 0 (by omega) 1000 (by omega) M hM hh hT
theorem zl_begins (M : Ob) {n : Nat} (hn : M 0 10 = nI n) (h6 : n ≤ 6) : ∃ M', F_X8_begins M = some M' ∧ zp_ag n (M' 12) (M 9) ∧ zf M M' ∧ M' 13 = M 13 := by
  have key : ∀ (k i : Nat), i + k = n → ∀ f, k < f → F_X8_begins_2 f (zp_row M 12 (zp_fl (M 9) (M 12) i)) (nI i) = some (zp_row M 12 (zp_fl (M 9) (M 12) n)) := by
    intro k
    induction k with
    | zero =>
      intro i hi f hf
      obtain ⟨f, rfl⟩ := zp_f1 hf
      have : i = n := by omega
      subst this
      rw [F_X8_begins_2_n]; unfold F_X8_begins_2_s
      rw [zp_rn _ _ (show (0 : Nat) ≠ 12 by decide), hn, if_pos (nI_le (Nat.le_refl _) (by omega))]
    | succ k ih =>
      intro i hi f hf
      obtain ⟨f, rfl⟩ := zp_f1 hf
      have h1 := ih (i + 1) (by omega) f (by omega)
      rw [F_X8_begins_2_n]; unfold F_X8_begins_2_s; simp only [zp_let]
      rw [zp_rn _ _ (show (0 : Nat) ≠ 12 by decide), zp_rn _ _ (show (9 : Nat) ≠ 12 by decide), hn, if_neg (nI_ge (by omega) (by omega)), zp_ck (by omega) (by decide), zp_ck (by omega) (by decide), nI_clamp (by omega), zp_ru, zp_fls, zp_1]
      exact h1
  have h := key n 0 (by omega) 1000 (by omega)
  rw [zp_fl0, zp_id] at h
  refine ⟨_, h, fun j hj => by rw [zp_rs, zp_fli hj], ⟨zp_rn _ _ (by decide), fun c _ _ h2 _ => zp_rn _ _ h2⟩, zp_rn _ _ (by decide)⟩
theorem zl_set (Ah Tn Pr : Ob) : ∃ Tn', F_X0_setOut Ah Tn Pr = some Tn' ∧ Tn' 0 0 = Pr 0 0 ∧ Tn' 0 1 = Pr 0 1 ∧ Tn' 0 2 = Pr 0 2 ∧ (∀ j, j < 6 → Tn' 1 j = Pr 1 j) := by
  obtain ⟨P', p0, p1, p2, p3, p4, p5, p6, p7⟩ := zc_copy Tn Pr
  refine ⟨P', ?_, p1, p2, p3, p6⟩
  unfold F_X0_setOut
  rw [p0, zp_bd]
/-- the yard of the reference -/
def zQ (M : Ob) : Ob := fun c => if c = 1 then M 9 else if c = 2 then M 5 else if c = 3 then M 6 else if c = 4 then M 7 else if c = 5 then M 8 else fun _ => 0
theorem zQ_y {n : Nat} {Y M : Ob} (h : zr_Y n Y M) : zy n (zQ M) Y ∧ zx n (zQ M) M := by
  obtain ⟨⟨a1, a2, a3, a4⟩, ⟨s1, s2, s3, s4, s5, s6⟩, -⟩ := h
  exact ⟨⟨a1, a3, s2, s3, s4, s5, fun j hj => s6 j (by omega)⟩, ⟨a2, a3, fun _ _ => rfl, fun _ _ => rfl, fun _ _ => rfl, fun _ _ => rfl, fun _ _ => rfl⟩⟩
theorem zQ_f {M M' : Ob} (h : zf M M') : zQ M' = zQ M := by
  unfold zQ
  rw [h.2 9 (by decide) (by decide) (by decide) (by decide), h.2 5 (by decide) (by decide) (by decide) (by decide), h.2 6 (by decide) (by decide) (by decide) (by decide), h.2 7 (by decide) (by decide) (by decide) (by decide), h.2 8 (by decide) (by decide) (by decide) (by decide)]
theorem zl_t0 {n : Nat} {Pr M Tn : Ob} {q : Ob} (h6 : n ≤ 6) (b : zr_N n Pr M) (t1 : Tn 0 0 = Pr 0 0) (t2 : Tn 0 1 = Pr 0 1) (t3 : Tn 0 2 = Pr 0 2) (t4 : ∀ j, j < 6 → Tn 1 j = Pr 1 j) (hq : q 1 = M 9) : zt n q (M 0 19) (M 0 20) (M 0 18) 0 Tn := by
  obtain ⟨⟨b1, b2, b3, b4, b5⟩, b6, -⟩ := b
  refine ⟨by rw [t1, b1, show nI 0 = (0 : Int32) from rfl]; simp, by rw [t2, b2], by rw [t3, b3], fun j hj => ?_⟩
  rw [t4 j (by omega), b6 j hj, zj, hq]
theorem zo_behind {Xm : Ob} {tr : Int64} {Tx Pr Sg Im0 Im1 Yt M : Ob} {mt : Int64} (h : zr Xm tr Tx Pr Sg Im0 Im1 Yt M mt) (Ah Tn : Ob) (x y : Int32) : ∃ r Tn' M', F_X7_behind Pr Yt Ah Tn x y = some (r, Tn') ∧ F_X8_behind M x y = some (r, M') ∧ zr Xm tr Tx Pr Sg Im0 Im1 Yt M' mt := by
  obtain ⟨n, a, b, c, d, e, f⟩ := id h
  obtain ⟨⟨a1, a2, a3, a4⟩, -⟩ := id a
  obtain ⟨hy, hx⟩ := zQ_y a
  unfold F_X7_behind F_X8_behind
  rcases zq_rng x (N := 50) (by decide) with ⟨k, hk, rfl, e1, e2⟩ | ⟨e1, e2⟩
  · rw [show F_X7_isWithin (nI k) 50 = _ from e1, show F_X8_in (nI k).toInt64 0 50 = _ from e2, zp_bd, zp_bd, zp_i1, zp_i1]
    rcases zq_wall a1 a2 a3 y with ⟨w, hw, rfl, e3, e4⟩ | ⟨e3, e4⟩
    · rw [e3, e4, zp_bd, zp_bd, zp_i1, zp_i1]
      obtain ⟨T1, t0, t1, t2, t3, t4⟩ := zl_set Ah Tn Pr
      have z0 : zt n (zQ M) (M 0 19) (M 0 20) (M 0 18) 0 T1 := zl_t0 a3 b t1 t2 t3 t4 rfl
      obtain ⟨T2, u0, u1⟩ := zl_goOn Ah hy (show k < 1000 by omega) z0
      obtain ⟨M1, m0, m1, m2, -⟩ := zl_begins M a2 a3
      obtain ⟨M2, v0, v1, v2⟩ := zl_passes (zf_x m2 hx) (sh := M 0 19) (mi := M 0 20) (h := M 0 18) (by rw [m2.1]) (show k < 1000 by omega) m1
      rw [t0, zp_bd, u0, zp_bd, m0, zp_bd, m2.1, v0, zp_bd, zp_ck (by omega) (by decide), zp_ck (by omega) (by decide), nI_clamp (by omega)]
      rw [Nat.zero_add] at u1
      exact ⟨_, _, _, rfl, by rw [v1 w hw, u1.2.2.2 w hw], zf_zr h (zf_t m2 v2)⟩
    · rw [e3, e4, zp_bd, zp_bd, zp_i0, zp_i0]; exact ⟨_, _, _, rfl, rfl, h⟩
  · rw [show F_X7_isWithin x 50 = _ from e1, show F_X8_in x.toInt64 0 50 = _ from e2, zp_bd, zp_bd, zp_i0, zp_i0]; exact ⟨_, _, _, rfl, rfl, h⟩
