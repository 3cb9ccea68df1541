/-! ===== PURE 19: rest, holes ===== -/
theorem zm_13 (r2 : Ob → Int32 → Option (Int32 × Ob)) (M : Ob) {n : Nat} (hn : M 0 10 = nI n) (h6 : n ≤ 6) (x1 : Int32) : ∃ M', F_X8_rest_28 r2 1000 M x1 0 = F_X8_rest_54 r2 M' x1 ∧ M' 12 = M 12 ∧ zp_ag n (M' 13) (M 12) ∧ zf M M' := by
  have key : ∀ (k i : Nat), i + k = n → ∀ f, k < f → F_X8_rest_28 r2 f (zp_row M 13 (zp_fl (M 12) (M 13) i)) x1 (nI i) = F_X8_rest_54 r2 (zp_row M 13 (zp_fl (M 12) (M 13) n)) x1 := by
    intro k
    induction k with
    | zero =>
      intro i hi f hf
      obtain ⟨f, rfl⟩ := zp_f1 hf
      have : i = n := by omega
      subst this
      rw [F_X8_rest_28_n]; unfold F_X8_rest_28_s
      rw [zp_rn _ _ (show (0 : Nat) ≠ 13 by decide), hn, if_pos (nI_le (Nat.le_refl _) (by omega))]
    | succ k ih =>
      intro i hi f hf
      obtain ⟨f, rfl⟩ := zp_f1 hf
      have h1 := ih (i + 1) (by omega) f (by omega)
      rw [F_X8_rest_28_n]; unfold F_X8_rest_28_s; simp only [zp_let]
      rw [zp_rn _ _ (show (0 : Nat) ≠ 13 by decide), zp_rn _ _ (show (12 : Nat) ≠ 13 by decide), hn, if_neg (nI_ge (by omega) (by omega)), zp_ck (by omega) (by decide), zp_ck (by omega) (by decide), nI_clamp (by omega), zp_ru, zp_fls, zp_1]
      exact h1
  have h := key n 0 (by omega) 1000 (by omega)
  rw [zp_fl0, zp_id] at h
  exact ⟨_, h, zp_rn _ _ (by decide), fun j hj => by rw [zp_rs, zp_fli hj], zp_rn _ _ (by decide), fun c _ _ _ h2 => zp_rn _ _ h2⟩
theorem zm_56 (r2 : Ob → Int32 → Option (Int32 × Ob)) {n : Nat} {q M : Ob} (hx : zx n q M) {sh mi h : Int32} (hh : M 0 18 = h) (h1 : M 0 19 = sh) (h2 : M 0 20 = mi) {x1 : Nat} (hT : zp_ag n (M 12) (zj n q sh mi h x1)) : ∃ M', F_X8_rest_54 r2 M (nI x1) = F_X8_rest_97 r2 1000 M' (nI x1) 1 0 ∧ zp_ag n (M' 12) (zj n q sh mi h (x1 + 8)) ∧ M' 13 = M 13 ∧ zf M M' := by
  have key : ∀ (k i : Nat), i + k = 8 → ∀ f, k < f → ∀ M1, zf M M1 → M1 13 = M 13 → zp_ag n (M1 12) (zj n q sh mi h (x1 + i)) → ∃ M', F_X8_rest_56 r2 f M1 (nI x1) (nI i) = F_X8_rest_97 r2 1000 M' (nI x1) 1 0 ∧ zp_ag n (M' 12) (zj n q sh mi h (x1 + 8)) ∧ M' 13 = M 13 ∧ zf M M' := by
    intro k
    induction k with
    | zero =>
      intro i hi f hf M1 g1 g2 g3
      obtain ⟨f, rfl⟩ := zp_f1 hf
      have : i = 8 := by omega
      subst this
      rw [F_X8_rest_56_n]; unfold F_X8_rest_56_s F_X8_rest_93
      rw [if_pos (by decide)]
      exact ⟨M1, rfl, g3, g2, g1⟩
    | succ k ih =>
      intro i hi f hf M1 g1 g2 g3
      obtain ⟨f, rfl⟩ := zp_f1 hf
      obtain ⟨dd, M2, m1, m2, m3, m4⟩ := zl_m (zf_x g1 hx) g3
      rw [F_X8_rest_56_n]; unfold F_X8_rest_56_s
      rw [if_neg (zp_g8 (i := i) (by omega)), g1.1, hh, h1, h2, Int32.add_assoc, nI_add, m1, zp_b2]
      simp only [zp_let]
      rw [zp_1]
      exact ih (i + 1) (by omega) f (by omega) M2 (zf_t g1 m3) (by rw [m4, g2]) m2
  unfold F_X8_rest_54
  exact key 8 0 rfl 1000 (by omega) M (zf_r M) rfl hT
theorem zm_rest {n : Nat} {M : Ob} (hx : zx n (zQ M) M) : ∃ M', zf M M' ∧ ((∃ p, p ≤ 200 ∧ zb_R n (zQ M) (M 0 19) (M 0 20) (M 0 18) p ∧ (∀ p', p' < p → ¬ zb_R n (zQ M) (M 0 19) (M 0 20) (M 0 18) p') ∧ F_X8_rest M = some (nI p, M')) ∨ ((∀ p, p ≤ 200 → ¬ zb_R n (zQ M) (M 0 19) (M 0 20) (M 0 18) p) ∧ F_X8_rest M = some (-9, M'))) := by
  have key : ∀ (k x1 : Nat), x1 + k = 201 → ∀ f, k < f → ∀ M1, zf M M1 → (∀ p, p < x1 → ¬ zb_R n (zQ M) (M 0 19) (M 0 20) (M 0 18) p) → ∃ M', zf M M' ∧ ((∃ p, p ≤ 200 ∧ zb_R n (zQ M) (M 0 19) (M 0 20) (M 0 18) p ∧ (∀ p', p' < p → ¬ zb_R n (zQ M) (M 0 19) (M 0 20) (M 0 18) p') ∧ F_X8_rest_2 f M1 (nI x1) = some (nI p, M')) ∨ ((∀ p, p ≤ 200 → ¬ zb_R n (zQ M) (M 0 19) (M 0 20) (M 0 18) p) ∧ F_X8_rest_2 f M1 (nI x1) = some (-9, M'))) := by
    intro k
    induction k with
    | zero =>
      intro x1 hi f hf M1 g1 g2
      obtain ⟨f, rfl⟩ := zp_f1 hf
      have : x1 = 201 := by omega
      subst this
      rw [F_X8_rest_2_n]; unfold F_X8_rest_2_s
      rw [if_pos (by decide)]
      exact ⟨M1, g1, Or.inr ⟨fun p hp => g2 p (by omega), rfl⟩⟩
    | succ k ih =>
      intro x1 hi f hf M1 g1 g2
      obtain ⟨f, rfl⟩ := zp_f1 hf
      have hx1 := zf_x g1 hx
      rw [F_X8_rest_2_n]; unfold F_X8_rest_2_s
      rw [if_neg (show ¬ (200 : Int32) < nI x1 from fun q => by have := (nI_ltI (a := 200) (b := x1) (by decide) (by omega)).mp q; omega)]
      obtain ⟨M2, m0, m1, m2, -⟩ := zl_begins M1 hx1.1 hx1.2.1
      have m1' : zp_ag n (M2 12) (zj n (zQ M) (M 0 19) (M 0 20) (M 0 18) 0) := fun j hj => by rw [m1 j hj, g1.2 9 (by decide) (by decide) (by decide) (by decide)]; rfl
      obtain ⟨M3, v0, v1, v2⟩ := zl_passes (zf_x m2 hx1) (sh := M 0 19) (mi := M 0 20) (h := M 0 18) (by rw [m2.1, g1.1]) (show x1 < 1000 by omega) m1'
      have g3 : zf M M3 := zf_t (zf_t g1 m2) v2
      rw [m0, zp_bd, m2.1, g1.1, v0, zp_bd]
      obtain ⟨M4, w0, w1, w2, w3⟩ := zm_13 (F_X8_rest_2 f) M3 (zf_x g3 hx).1 hx.2.1 (nI x1)
      have g4 := zf_t g3 w3
      obtain ⟨M5, y0, y1, y2, y3⟩ := zm_56 (F_X8_rest_2 f) (zf_x g4 hx) (sh := M 0 19) (mi := M 0 20) (h := M 0 18) (x1 := x1) (by rw [g4.1]) (by rw [g4.1]) (by rw [g4.1]) (fun j hj => by rw [w1, v1 j hj])
      have g5 := zf_t g4 y3
      have hR : (∀ w, w < n → M5 12 w = M5 13 w) ↔ zb_R n (zQ M) (M 0 19) (M 0 20) (M 0 18) x1 := by
        constructor
        · intro hh j hj
          rw [← y1 j hj, hh j hj, y2, w2 j hj, v1 j hj]
        · intro hh j hj
          rw [y1 j hj, y2, w2 j hj, v1 j hj, hh j hj]
      rw [w0, y0]
      rcases zm_97 (F_X8_rest_2 f) M5 (zf_x g5 hx).1 hx.2.1 (nI x1) with ⟨z1, z2⟩ | ⟨z1, z2⟩
      · exact ⟨M5, g5, Or.inl ⟨x1, by omega, hR.mp z1, g2, z2⟩⟩
      · rw [z2, zp_1]
        refine ih (x1 + 1) (by omega) f (by omega) M5 g5 (fun p hp => ?_)
        rcases (show p = x1 ∨ p < x1 by omega) with e | e
        · rw [e]; exact fun hh => z1 (hR.mpr hh)
        · exact g2 p e
  exact key 201 0 rfl 1000 (by omega) M (zf_r M) (fun p hp => absurd hp (by omega))
theorem zo_rest {Xm : Ob} {tr : Int64} {Tx Pr Sg Im0 Im1 Yt M : Ob} {mt : Int64} (h : zr Xm tr Tx Pr Sg Im0 Im1 Yt M mt) (Ah Tn : Ob) : ∃ r Ah' Tn' M', F_X7_rest Pr Yt Ah Tn = some (r, (Ah', Tn')) ∧ F_X8_rest M = some (r, M') ∧ zr Xm tr Tx Pr Sg Im0 Im1 Yt M' mt := by
  obtain ⟨n, a, b, c, d, e, f⟩ := id h
  obtain ⟨⟨a1, a2, a3, a4⟩, -⟩ := id a
  obtain ⟨hy, hx⟩ := zQ_y a
  obtain ⟨T1, t0, t1, t2, t3, t4⟩ := zl_set Ah Tn Pr
  have z0 : zt n (zQ M) (M 0 19) (M 0 20) (M 0 18) 0 T1 := zl_t0 a3 b t1 t2 t3 t4 rfl
  obtain ⟨A', T', hc⟩ := zc_rest hy Ah T1 z0
  obtain ⟨M', g, hm⟩ := zm_rest hx
  unfold F_X7_rest
  rw [t0, zp_bd]
  rcases hc with ⟨p, c1, c2, c3, c4⟩ | ⟨c1, c2⟩
  · rcases hm with ⟨p', m1, m2, m3, m4⟩ | ⟨m1, m2⟩
    · have : p' = p := by
        rcases Nat.lt_trichotomy p' p with q | q | q
        · exact absurd m2 (c3 p' q)
        · exact q
        · exact absurd c2 (m3 p q)
      subst this
      rw [c4, zp_b3]
      exact ⟨_, _, _, _, rfl, m4, zf_zr h g⟩
    · exact absurd c2 (m1 p c1)
  · rcases hm with ⟨p', m1, m2, m3, m4⟩ | ⟨m1, m2⟩
    · exact absurd m2 (c1 p' m1)
    · rw [c2, zp_b3]
      exact ⟨_, _, _, _, rfl, m2, zf_zr h g⟩
/-! holes -/
def zb_S (n : Nat) (q M : Ob) (k t : Nat) : Prop := ∀ i, i < k → M 14 i = nI t → zj n q 0 0 0 t (M 15 i).toNatClampNeg = M 16 i
theorem zc_areSo {n : Nat} {q Sg M Tn : Ob} (h6 : n ≤ 6) {k : Nat} (k8 : k ≤ 8) (hk : Sg 0 0 = nI k) (hs : ∀ i, i < k → ∃ h w : Nat, h ≤ 20 ∧ w < n ∧ Sg 1 i = nI h ∧ M 14 i = nI h ∧ Sg 2 i = nI w ∧ M 15 i = nI w ∧ Sg 3 i = M 16 i) {t : Nat} (hT : zp_ag n (Tn 1) (zj n q 0 0 0 t)) : ∃ r, F_X3_areSo Sg Tn (nI t) = some r ∧ ((r = 1 ∧ zb_S n q M k t) ∨ (r = 0 ∧ ¬ zb_S n q M k t)) := by
  have key : ∀ (j i : Nat), i + j = k → ∀ f, j < f → zb_S n q M i t → ∃ r, F_X3_areSo_2 Sg Tn f (nI t) (nI i) = some r ∧ ((r = 1 ∧ zb_S n q M k t) ∨ (r = 0 ∧ ¬ zb_S n q M k t)) := by
    intro j
    induction j with
    | zero =>
      intro i hi f hf hw
      obtain ⟨f, rfl⟩ := zp_f1 hf
      have : i = k := by omega
      subst this
      rw [F_X3_areSo_2_n]; unfold F_X3_areSo_2_s
      rw [hk, if_pos (nI_le (Nat.le_refl _) (by omega))]
      exact ⟨_, rfl, Or.inl ⟨rfl, hw⟩⟩
    | succ j ih =>
      intro i hi f hf hw
      obtain ⟨f, rfl⟩ := zp_f1 hf
      obtain ⟨h, w, s1, s2, s3, s4, s5, s6, s7⟩ := hs i (by omega)
      have nx : (M 14 i = nI t → zj n q 0 0 0 t (M 15 i).toNatClampNeg = M 16 i) → ∃ r, F_X3_areSo_2 Sg Tn f (nI t) (nI (i + 1)) = some r ∧ ((r = 1 ∧ zb_S n q M k t) ∨ (r = 0 ∧ ¬ zb_S n q M k t)) := by
        intro hq
        refine ih (i + 1) (by omega) f (by omega) (fun i' hi' e => ?_)
        rcases (show i' = i ∨ i' < i by omega) with q2 | q2
        · subst q2; exact hq e
        · exact hw i' q2 e
      have ck : ∀ {α : Type} (y : Option α), zs_ck (nI i) 8 y = y := fun y => zp_ck (by omega) (by decide)
      rw [F_X3_areSo_2_n]; unfold F_X3_areSo_2_s F_X3_areSo_42
      simp only [zp_let, ck]
      rw [hk, if_neg (nI_ge (by omega) (by omega)), nI_clamp (show i < 2 ^ 31 by omega), s3, s5, zp_ck (by omega) (by decide), nI_clamp (show w < 2 ^ 31 by omega), s7, hT w s2, zp_1]
      by_cases e1 : nI h = nI t
      · rw [if_pos e1]
        have e14 : M 14 i = nI t := by rw [s4, e1]
        have e15 : (M 15 i).toNatClampNeg = w := by rw [s6]; exact nI_clamp (by omega)
        by_cases e2 : zj n q 0 0 0 t w = M 16 i
        · rw [if_pos e2]
          exact nx (fun _ => by rw [e15]; exact e2)
        · rw [if_neg e2]
          exact ⟨_, rfl, Or.inr ⟨rfl, fun hall => e2 (by have := hall i (by omega) e14; rw [e15] at this; exact this)⟩⟩
      · rw [if_neg e1]
        exact nx (fun e => absurd (by rw [← s4]; exact e) e1)
  unfold F_X3_areSo
  exact key k 0 (by omega) 1000 (by omega) (fun i hi => absurd hi (by omega))
theorem zc_latest {Sg : Ob} {k : Nat} (k8 : k ≤ 8) (hk : Sg 0 0 = nI k) (hs : ∀ i, i < k → ∃ h : Nat, h ≤ 20 ∧ Sg 1 i = nI h) : (k = 0 ∧ F_X3_latest Sg = some (-9)) ∨ ∃ L, L ≤ 20 ∧ F_X3_latest Sg = some (nI L) ∧ ∀ i h, i < k → Sg 1 i = nI h → h < 2 ^ 31 → h ≤ L := by
  have key : ∀ (j i : Nat), i + j = k → ∀ f, j < f → ∀ x, (i = 0 ∧ x = -9 ∨ ∃ L, L ≤ 20 ∧ x = nI L ∧ ∀ i' h, i' < i → Sg 1 i' = nI h → h < 2 ^ 31 → h ≤ L) → (k = 0 ∧ F_X3_latest_5 Sg f x (nI i) = some (-9)) ∨ ∃ L, L ≤ 20 ∧ F_X3_latest_5 Sg f x (nI i) = some (nI L) ∧ ∀ i h, i < k → Sg 1 i = nI h → h < 2 ^ 31 → h ≤ L := by
    intro j
    induction j with
    | zero =>
      intro i hi f hf x hx
      obtain ⟨f, rfl⟩ := zp_f1 hf
      have : i = k := by omega
      subst this
      rw [F_X3_latest_5_n]; unfold F_X3_latest_5_s
      rw [hk, if_pos (nI_le (Nat.le_refl _) (by omega))]
      rcases hx with ⟨a, b⟩ | ⟨L, a, b, c⟩
      · exact Or.inl ⟨a, by rw [b]⟩
      · exact Or.inr ⟨L, a, by rw [b], c⟩
    | succ j ih =>
      intro i hi f hf x hx
      obtain ⟨f, rfl⟩ := zp_f1 hf
      obtain ⟨h, s1, s2⟩ := hs i (by omega)
      rw [F_X3_latest_5_n]; unfold F_X3_latest_5_s
      simp only [zp_let]
      rw [hk, if_neg (nI_ge (by omega) (by omega)), zp_ck (by omega) (by decide), nI_clamp (by omega), s2, zp_1]
      refine ih (i + 1) (by omega) f (by omega) _ (Or.inr ?_)
      rcases hx with ⟨a, b⟩ | ⟨L, a, b, c⟩
      · refine ⟨h, s1, ?_, fun i' h' hi' e hh => ?_⟩
        · rw [b, if_pos]
          rw [Int32.lt_iff_toInt_lt, nI_toInt (by omega)]
          have : (-9 : Int32).toInt = -9 := rfl
          omega
        · have : i' = i := by omega
          subst this
          have := (nI_eq (by omega) hh).mp (s2.symm.trans e)
          omega
      · by_cases q : L < h
        · refine ⟨h, s1, by rw [b, if_pos ((nI_ltI (by omega) (by omega)).mpr q)], fun i' h' hi' e hh => ?_⟩
          rcases (show i' = i ∨ i' < i by omega) with q2 | q2
          · subst q2
            have := (nI_eq (by omega) hh).mp (s2.symm.trans e)
            omega
          · have := c i' h' q2 e hh; omega
        · refine ⟨L, a, by rw [b, if_neg (fun q2 => q ((nI_ltI (by omega) (by omega)).mp q2))], fun i' h' hi' e hh => ?_⟩
          rcases (show i' = i ∨ i' < i by omega) with q2 | q2
          · subst q2
            have := (nI_eq (by omega) hh).mp (s2.symm.trans e)
            omega
          · exact c i' h' q2 e hh
  exact key k 0 (by omega) 1000 (by omega) (-9) (Or.inl ⟨rfl, rfl⟩)
