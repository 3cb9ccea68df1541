/-! ===== PURE 16: busy, the reference ===== -/
/-- all but the row of hours, and there all but one place -/
def zg (w : Nat) (M M1 : Ob) : Prop := M1 0 = M 0 ∧ (∀ c, c ≠ 0 → c ≠ 7 → c ≠ 10 → c ≠ 12 → c ≠ 13 → M1 c = M c) ∧ ∃ u, M1 7 = upd (M 7) w u
theorem zg_f {w : Nat} {M M1 M2 : Ob} (h : zg w M M1) (k : zf M1 M2) : zg w M M2 := by
  obtain ⟨a, b, u, c⟩ := h
  exact ⟨by rw [k.1, a], fun d d0 d7 d10 d12 d13 => by rw [k.2 d d0 d10 d12 d13, b d d0 d7 d10 d12 d13], u, by rw [k.2 7 (by decide) (by decide) (by decide) (by decide), c]⟩
theorem zg_u {w : Nat} {M M1 : Ob} (h : zg w M M1) (v : Int32) : zg w M (zs_up M1 7 w v) ∧ (zs_up M1 7 w v) 7 = upd (M 7) w v := by
  obtain ⟨a, b, u, c⟩ := h
  have e : (zs_up M1 7 w v) 7 = upd (M 7) w v := by
    rw [show (zs_up M1 7 w v) 7 = upd (M1 7) w v from by simp [zp_uD], c, zp_uu]
  exact ⟨⟨by rw [← a]; simp [zp_uD], fun d d0 d7 d10 d12 d13 => by rw [← b d d0 d7 d10 d12 d13]; simp [zp_uD, d7], v, e⟩, e⟩
theorem zg_x {n w : Nat} {M M1 : Ob} {u : Int32} (h : zg w M M1) (h7 : M1 7 = upd (M 7) w u) (hx : zx n (zQ M) M) : zx n (zb_q M w u) M1 := by
  obtain ⟨a1, a2, a3, a4, a5, a6, a7⟩ := hx
  refine ⟨by rw [h.1, a1], a2, ?_, ?_, ?_, ?_, ?_⟩
  · rw [h.2.1 5 (by decide) (by decide) (by decide) (by decide) (by decide)]; simpa [zb_q, zp_rD] using a3
  · rw [h.2.1 6 (by decide) (by decide) (by decide) (by decide) (by decide)]; simpa [zb_q, zp_rD] using a4
  · rw [h7]; unfold zb_q; rw [zp_rs]; exact fun _ _ => rfl
  · rw [h.2.1 8 (by decide) (by decide) (by decide) (by decide) (by decide)]; simpa [zb_q, zp_rD] using a6
  · simpa [zb_q, zp_rD] using a7
theorem zm_84 {n w : Nat} {M : Ob} (hx : zx n (zQ M) M) {s : Nat} (r34 : Ob → Int32 → Int32 → Int32 → Int32 → Int32 → Option (Int32 × Ob)) (x1 x2 x3 x4 x5 : Int32) (M1 : Ob) (g1 : zg w M M1) (g2 : M1 7 = upd (M 7) w (nI s)) (g3 : zp_ag n (M1 12) (zj n (zb_q M w (nI s)) (M 0 19) (M 0 20) (M 0 18) 0)) : ∃ M2, zg w M M2 ∧ M2 7 = upd (M 7) w (nI s) ∧ ((zb_B n M w s ∧ F_X8_busy_84 r34 1000 M1 x1 x2 x3 x4 x5 1 0 = r34 M2 x1 x2 x3 x5 (x5 + 1)) ∨ (¬ zb_B n M w s ∧ F_X8_busy_84 r34 1000 M1 x1 x2 x3 x4 x5 1 0 = r34 M2 x1 x2 x3 x4 (x5 + 1))) := by
  have key : ∀ (k i : Nat), i + k = 16 → ∀ f, k + 1 < f → ∀ M1, zg w M M1 → M1 7 = upd (M 7) w (nI s) → zp_ag n (M1 12) (zj n (zb_q M w (nI s)) (M 0 19) (M 0 20) (M 0 18) i) → zb_C n (zb_q M w (nI s)) (M 0 19) (M 0 20) (M 0 18) (M 0 11) i → ∃ M2, zg w M M2 ∧ M2 7 = upd (M 7) w (nI s) ∧ ((zb_B n M w s ∧ F_X8_busy_84 r34 f M1 x1 x2 x3 x4 x5 1 (nI i) = r34 M2 x1 x2 x3 x5 (x5 + 1)) ∨ (¬ zb_B n M w s ∧ F_X8_busy_84 r34 f M1 x1 x2 x3 x4 x5 1 (nI i) = r34 M2 x1 x2 x3 x4 (x5 + 1))) := by
    intro k
    induction k with
    | zero =>
      intro i hi f hf M1 g1 g2 g3 g4
      obtain ⟨f, rfl⟩ := zp_f1 hf
      have : i = 16 := by omega
      subst this
      rw [F_X8_busy_84_n]; unfold F_X8_busy_84_s F_X8_busy_142 F_X8_busy_154
      rw [if_pos (by decide), zp_i1]
      simp only [zp_let]
      exact ⟨M1, g1, g2, Or.inl ⟨g4, rfl⟩⟩
    | succ k ih =>
      intro i hi f hf M1 g1 g2 g3 g4
      obtain ⟨f, rfl⟩ := zp_f1 hf
      have hx1 := zg_x g1 g2 hx
      obtain ⟨dd, M2, t1, t2, t3, -⟩ := zl_m hx1 g3
      have g5 := zg_f g1 t3
      have g6 : M2 7 = upd (M 7) w (nI s) := by rw [t3.2 7 (by decide) (by decide) (by decide) (by decide), g2]
      rw [F_X8_busy_84_n]; unfold F_X8_busy_84_s F_X8_busy_134
      rw [if_neg (show ¬ (16 : Int32) ≤ nI i from nI_ge (a := i) (b := 16) (by omega) (by decide)), zp_i1, g1.1, t1, zp_b2]
      simp only [zp_let]
      rw [zp_1]
      have hb : ∀ j, j < n → M2 12 j = zj n (zb_q M w (nI s)) (M 0 19) (M 0 20) (M 0 18) (i + 1) j := t2
      rcases zm_tw M2 (by rw [g5.1]; exact hx.1) hx.2.1 with ⟨c1, c2⟩ | ⟨w', c1, c2, c3, c4⟩
      · rw [c2, zp_bd, if_pos rfl]
        refine ih (i + 1) (by omega) f (by omega) M2 g5 g6 t2 (fun i' hi' j hj => ?_)
        rcases (show i' = i ∨ i' < i by omega) with e | e
        · rw [e, ← hb j hj, ← g5.1]; exact c1 j hj
        · exact g4 i' e j hj
      · rw [c4, zp_bd, if_neg (zp_n9 (i := w') (by have := hx.2.1; omega))]
        obtain ⟨f, rfl⟩ := zp_f1 (show 0 < f by omega)
        refine ⟨M2, g5, g6, Or.inr ⟨fun hall => c2 ?_, ?_⟩⟩
        · rw [hb w' c1, g5.1]; exact hall i (by omega) w' c1
        · rw [F_X8_busy_84_n]; unfold F_X8_busy_84_s F_X8_busy_142 F_X8_busy_154
          simp only [zp_i0, zp_let]
          split <;> rfl
  exact key 16 0 (by omega) 1000 (by omega) M1 g1 g2 g3 (fun i hi => absurd hi (by omega))
theorem zm_84n (r34 : Ob → Int32 → Int32 → Int32 → Int32 → Int32 → Option (Int32 × Ob)) (x1 x2 x3 x4 x5 : Int32) (M1 : Ob) : F_X8_busy_84 r34 1000 M1 x1 x2 x3 x4 x5 0 0 = r34 M1 x1 x2 x3 x4 (x5 + 1) := by
  rw [F_X8_busy_84_n r34 999]; unfold F_X8_busy_84_s F_X8_busy_142 F_X8_busy_154
  simp only [zp_i0, zp_let]
  split <;> rfl
theorem zm_busy {n w : Nat} {M : Ob} (hx : zx n (zQ M) M) (hw : w < n) (x2 : Int32) : ∃ res M', zb_most 256 (zb_B n M w) res ∧ zf M M' ∧ ((res = -9 ∧ F_X8_busy_34 1000 M (nI w) x2 (M 7 w) (-9) 0 = some (-9, M')) ∨ ∃ s0, s0 < 256 ∧ res = nI s0 ∧ F_X8_busy_34 1000 M (nI w) x2 (M 7 w) (-9) 0 = some (if x2 = 0 then nI (zq_pc s0) else nI s0, M')) := by
  have h6 := hx.2.1
  have key : ∀ (k i : Nat), i + k = 256 → ∀ f, k < f → ∀ M1 best, zg w M M1 → zb_most i (zb_B n M w) best → ∃ res M', zb_most 256 (zb_B n M w) res ∧ zf M M' ∧ ((res = -9 ∧ F_X8_busy_34 f M1 (nI w) x2 (M 7 w) best (nI i) = some (-9, M')) ∨ ∃ s0, s0 < 256 ∧ res = nI s0 ∧ F_X8_busy_34 f M1 (nI w) x2 (M 7 w) best (nI i) = some (if x2 = 0 then nI (zq_pc s0) else nI s0, M')) := by
    intro k
    induction k with
    | zero =>
      intro i hi f hf M1 best g1 g2
      obtain ⟨f, rfl⟩ := zp_f1 hf
      have : i = 256 := by omega
      subst this
      rw [F_X8_busy_34_n]; unfold F_X8_busy_34_s F_X8_busy_162
      rw [if_pos (by decide), zp_ck (by omega) (by decide), nI_clamp (by omega)]
      simp only [zp_let]
      obtain ⟨u1, u2⟩ := zg_u g1 (M 7 w)
      rw [zp_ui] at u2
      have hz : zf M (zs_up M1 7 w (M 7 w)) := ⟨u1.1, fun c c0 c10 c12 c13 => by
        by_cases e : c = 7
        · rw [e]; exact u2
        · exact u1.2.1 c c0 e c10 c12 c13⟩
      rcases id g2 with ⟨r1, r2⟩ | ⟨s0, r1, r2, r3, r4⟩
      · refine ⟨best, _, g2, hz, Or.inl ⟨r1, ?_⟩⟩
        rw [if_pos r1]
      · refine ⟨best, _, g2, hz, Or.inr ⟨s0, r2, r1, ?_⟩⟩
        rw [r1, if_neg (zp_n9 (by omega))]
        by_cases q : x2 = 0
        · rw [if_pos q, if_pos q, zq_pcB s0 r2, zp_bd]
        · rw [if_neg q, if_neg q]
    | succ k ih =>
      intro i hi f hf M1 best g1 g2
      obtain ⟨f, rfl⟩ := zp_f1 hf
      obtain ⟨u1, u2⟩ := zg_u g1 (nI i)
      rw [F_X8_busy_34_n]; unfold F_X8_busy_34_s
      rw [if_neg (show ¬ (256 : Int32) ≤ nI i from nI_ge (a := i) (b := 256) (by omega) (by decide)), zp_ck (by omega) (by decide), nI_clamp (by omega)]
      simp only [zp_let]
      obtain ⟨M2, m0, m1, m2, -⟩ := zl_begins (zs_up M1 7 w (nI i)) (by rw [u1.1]; exact hx.1) h6
      rw [m0, zp_bd]
      have g3 := zg_f u1 m2
      have g4 : M2 7 = upd (M 7) w (nI i) := by rw [m2.2 7 (by decide) (by decide) (by decide) (by decide), u2]
      have g5 : zp_ag n (M2 12) (zj n (zb_q M w (nI i)) (M 0 19) (M 0 20) (M 0 18) 0) := fun j hj => by
        rw [m1 j hj, u1.2.1 9 (by decide) (by decide) (by decide) (by decide) (by decide)]
        rw [zj]; unfold zb_q; rw [zp_rn _ _ (by decide)]; rfl
      have skip : ∀ M3, zg w M M3 → (zb_B n M w i → ∃ s0, best = nI s0 ∧ s0 < i ∧ zb_B n M w s0 ∧ zq_pc i ≤ zq_pc s0) → ∃ res M', zb_most 256 (zb_B n M w) res ∧ zf M M' ∧ ((res = -9 ∧ F_X8_busy_34 f M3 (nI w) x2 (M 7 w) best (nI (i + 1)) = some (-9, M')) ∨ ∃ s0, s0 < 256 ∧ res = nI s0 ∧ F_X8_busy_34 f M3 (nI w) x2 (M 7 w) best (nI (i + 1)) = some (if x2 = 0 then nI (zq_pc s0) else nI s0, M')) := by
        intro M3 h3 hs
        refine ih (i + 1) (by omega) f (by omega) M3 best h3 ?_
        rcases g2 with ⟨r1, r2⟩ | ⟨s0, r1, r2, r3, r4⟩
        · refine Or.inl ⟨r1, fun s hs' hP => ?_⟩
          rcases (show s = i ∨ s < i by omega) with e | e
          · rw [e] at hP
            obtain ⟨s0, c1, c2, c3, -⟩ := hs hP
            exact r2 s0 c2 c3
          · exact r2 s e hP
        · refine Or.inr ⟨s0, r1, by omega, r3, fun s hs' hP => ?_⟩
          rcases (show s = i ∨ s < i by omega) with e | e
          · rw [e] at hP ⊢
            obtain ⟨s1, c1, c2, c3, c4⟩ := hs hP
            have : s1 = s0 := (nI_eq (by omega) (by omega)).mp (by rw [← c1, ← r1])
            rw [this] at c4
            exact ⟨c4, fun _ => by omega⟩
          · exact r4 s e hP
      have take : ∀ M3, zg w M M3 → zb_B n M w i → (∀ s0, best = nI s0 → s0 < i → zq_pc s0 < zq_pc i) → ∃ res M', zb_most 256 (zb_B n M w) res ∧ zf M M' ∧ ((res = -9 ∧ F_X8_busy_34 f M3 (nI w) x2 (M 7 w) (nI i) (nI (i + 1)) = some (-9, M')) ∨ ∃ s0, s0 < 256 ∧ res = nI s0 ∧ F_X8_busy_34 f M3 (nI w) x2 (M 7 w) (nI i) (nI (i + 1)) = some (if x2 = 0 then nI (zq_pc s0) else nI s0, M')) := by
        intro M3 h3 hP hs
        refine ih (i + 1) (by omega) f (by omega) M3 (nI i) h3 (Or.inr ⟨i, rfl, by omega, hP, fun s hs' hPs => ?_⟩)
        rcases (show s = i ∨ s < i by omega) with e | e
        · rw [e]; exact ⟨Nat.le_refl _, fun _ => Nat.le_refl _⟩
        · rcases g2 with ⟨r1, r2⟩ | ⟨s0, r1, r2, r3, r4⟩
          · exact absurd hPs (r2 s e)
          · have c1 := hs s0 r1 r2
            have c2 := (r4 s e hPs).1
            exact ⟨by omega, fun q => by omega⟩
      have chk : (∀ s0, best = nI s0 → s0 < i → zq_pc s0 < zq_pc i) → ∃ res M', zb_most 256 (zb_B n M w) res ∧ zf M M' ∧ ((res = -9 ∧ F_X8_busy_74 (F_X8_busy_34 f) M2 (nI w) x2 (M 7 w) best (nI i) = some (-9, M')) ∨ ∃ s0, s0 < 256 ∧ res = nI s0 ∧ F_X8_busy_74 (F_X8_busy_34 f) M2 (nI w) x2 (M 7 w) best (nI i) = some (if x2 = 0 then nI (zq_pc s0) else nI s0, M')) := by
        intro hs
        unfold F_X8_busy_74 F_X8_busy_79
        obtain ⟨M3, v1, v2, v3⟩ := zm_84 hx (s := i) (F_X8_busy_34 f) (nI w) x2 (M 7 w) best (nI i) M2 g3 g4 g5
        rcases v3 with ⟨p1, p2⟩ | ⟨p1, p2⟩
        · rw [p2, zp_1]; exact take M3 v1 p1 hs
        · rw [p2, zp_1]; exact skip M3 v1 (fun q => absurd q p1)
      rcases id g2 with ⟨r1, r2⟩ | ⟨s0, r1, r2, r3, r4⟩
      · rw [if_pos r1]
        exact chk (fun s0 e hs0 => absurd (e.symm.trans r1) (zp_n9 (by omega)))
      · rw [if_neg (show ¬ best = -9 from fun q => zp_n9 (i := s0) (by omega) (r1.symm.trans q)), zq_pcB i (by omega), zp_bd]
        rw [show F_X8_many best = some (nI (zq_pc s0)) from by rw [r1]; exact zq_pcB s0 (by omega), zp_bd]
        have p1 := zq_pc8 i
        have p2 := zq_pc8 s0
        by_cases q2 : zq_pc i ≤ zq_pc s0
        · rw [if_pos (nI_le q2 (by omega))]
          unfold F_X8_busy_79
          rw [zm_84n, zp_1]
          exact skip M2 g3 (fun _ => ⟨s0, r1, r2, r3, q2⟩)
        · rw [if_neg (nI_ge (by omega) (by omega))]
          refine chk (fun s1 e hs1 => ?_)
          have : s1 = s0 := (nI_eq (by omega) (by omega)).mp (by rw [← e, ← r1])
          rw [this]; omega
  exact key 256 0 (by omega) 1000 (by omega) M (-9) ⟨rfl, fun _ _ _ _ _ _ => rfl, M 7 w, (zp_ui _ _).symm⟩ (Or.inl ⟨rfl, fun s hs => absurd hs (by omega)⟩)
theorem zo_busy {Xm : Ob} {tr : Int64} {Tx Pr Sg Im0 Im1 Yt M : Ob} {mt : Int64} (h : zr Xm tr Tx Pr Sg Im0 Im1 Yt M mt) (Ah Tn Yi : Ob) (x y : Int32) : ∃ r Tn' Yi' M', F_X7_busy Pr Yt Ah Tn Yi x y = some (r, (Tn', Yi')) ∧ F_X8_busy M x y = some (r, M') ∧ zr Xm tr Tx Pr Sg Im0 Im1 Yt M' mt := by
  obtain ⟨n, a, b, c, d, e, f⟩ := id h
  obtain ⟨⟨a1, a2, a3, a4⟩, -⟩ := id a
  obtain ⟨hy, hx⟩ := zQ_y a
  unfold F_X7_busy F_X8_busy
  rcases zq_wall a1 a2 a3 x with ⟨w, hw, rfl, e3, e4⟩ | ⟨e3, e4⟩
  · rw [e3, e4, zp_bd, zp_bd, zp_i1, zp_i1]
    rcases zq_bit y with ⟨j, hj, rfl, e5, e6⟩ | ⟨e5, e6⟩
    · rw [e5, show (F_X8_in (nI j).toInt64 0 1) = _ from e6, zp_bd, zp_bd, zp_i1, zp_i1, zp_ck (by omega) (by decide), nI_clamp (by omega)]
      simp only [zp_let]
      obtain ⟨Y', k0, k1, k2, k3, k4⟩ := zc_ycopy Yi Yt
      have hy2 := zy_copy hy k1 k3 k4
      have hy3 : zy n (zb_q M w (M 7 w)) Y' := by
        have : zb_q M w (M 7 w) = zQ M := by
          unfold zb_q
          rw [zp_ui]
          exact zp_id (zQ M) 4
        rw [this]; exact hy2
      obtain ⟨res, M', m1, m2, m3⟩ := zm_busy hx hw (nI j)
      obtain ⟨Tn', Yi', n1⟩ := zc_busy (Yt := Yt) a3 b Ah hw (nI j) m1 Tn Y' hy3 (by rw [k2, a4])
      rw [k0, zp_bd]
      rcases n1 with ⟨p1, p2⟩ | ⟨s0, p0, p1, p2⟩
      · rcases m3 with ⟨q1, q2⟩ | ⟨s1, q0, q1, q2⟩
        · exact ⟨_, Tn', Yi', M', p2, q2, zf_zr h m2⟩
        · exact absurd (q1.symm.trans p1) (zp_n9 (by omega))
      · rcases m3 with ⟨q1, q2⟩ | ⟨s1, q0, q1, q2⟩
        · exact absurd (p1.symm.trans q1) (zp_n9 (by omega))
        · have : s1 = s0 := (nI_eq (by omega) (by omega)).mp (by rw [← q1, ← p1])
          subst this
          exact ⟨_, Tn', Yi', M', p2, q2, zf_zr h m2⟩
    · rw [e5, show (F_X8_in y.toInt64 0 1) = _ from e6, zp_bd, zp_bd, zp_i0, zp_i0]; exact ⟨_, _, _, _, rfl, rfl, h⟩
  · rw [e3, e4, zp_bd, zp_bd, zp_i0, zp_i0]; exact ⟨_, _, _, _, rfl, rfl, h⟩
