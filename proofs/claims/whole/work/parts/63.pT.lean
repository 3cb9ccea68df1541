/-! ===== PURE 20: holes ===== -/
theorem zc_begin (P Yd : Ob) : ∃ P', F_X1_begin P Yd = some P' ∧ (∀ k, k < 5 → P' 0 k = 0) ∧ (∀ j, j < 6 → P' 1 j = Yd 1 j) ∧ P' 3 = P 3 := by
  have h := fun Q => zp_cpl0 (N := 6) (b := 0) (c := 1) (S := fun _ => Yd 1) (fun _ _ => rfl) (K := fun P => some P) (F := F_X1_begin_27 Yd)
    (fun f P => by rw [F_X1_begin_27_n]; unfold F_X1_begin_27_s; rw [if_pos (by decide)])
    (fun f P i hi => by rw [F_X1_begin_27_n]; unfold F_X1_begin_27_s; simp only [zp_let]; rw [if_neg (zp_g6 hi), zp_ck (by omega) (by decide), zp_ck (by omega) (by decide), nI_clamp (by omega), zp_1, Nat.zero_add]) Q (f := 1000) (by decide)
  unfold F_X1_begin
  simp only [zp_let]
  rw [h]
  refine ⟨_, rfl, ?_, ?_, ?_⟩
  · intro k hk
    rcases (show k = 0 ∨ k = 1 ∨ k = 2 ∨ k = 3 ∨ k = 4 by omega) with rfl | rfl | rfl | rfl | rfl <;> simp [zp_rD, zp_uD, zp_upR]
  · intro j hj
    rw [zp_rs]
    have := zp_fbi (b := 0) (f := Yd 1) (g := (zs_up (zs_up (zs_up (zs_up (zs_up P 0 0 0) 0 1 0) 0 2 0) 0 3 0) 0 4 0) 1) hj
    rw [Nat.zero_add] at this
    exact this
  · simp [zp_rD, zp_uD]
def zb_A (n : Nat) (q M : Ob) (k : Nat) : Prop := ∀ t, t ≤ 20 → zb_S n q M k t
theorem zc_all (Ah Tn : Ob) {n : Nat} {q Yi Sg M : Ob} (hY : zy n q Yi) (h1 : zp_ag n (Yi 1) (q 1)) {k : Nat} (k8 : k ≤ 8) (hk : Sg 0 0 = nI k) (hs : ∀ i, i < k → ∃ h w : Nat, h ≤ 20 ∧ w < n ∧ Sg 1 i = nI h ∧ M 14 i = nI h ∧ Sg 2 i = nI w ∧ M 15 i = nI w ∧ Sg 3 i = M 16 i) : ∃ r Tn', F_X0_allSeenIsSo Ah Tn Yi Sg = some (r, Tn') ∧ ((r = 1 ∧ zb_A n q M k) ∨ (r = 0 ∧ ¬ zb_A n q M k)) := by
  obtain ⟨P1, p0, p1, p2, -⟩ := zc_begin Tn Yi
  have z0 : zt n q 0 0 0 0 P1 := ⟨by rw [p1 0 (by decide)]; rfl, p1 1 (by decide), p1 2 (by decide), fun j hj => by rw [p2 j (by have := hY.2.1; omega), h1 j hj]; rfl⟩
  unfold F_X0_allSeenIsSo
  rw [p0, zp_bd]
  rcases zc_latest k8 hk (fun i hi => by obtain ⟨h, w, s1, s2, s3, -⟩ := hs i hi; exact ⟨h, s1, s3⟩) with ⟨k0, l1⟩ | ⟨L, l0, l1, l2⟩
  · rw [l1, zp_bd, F_X0_allSeenIsSo_18_n Ah Yi Sg 999]; unfold F_X0_allSeenIsSo_18_s
    rw [if_pos (by decide)]
    exact ⟨_, _, rfl, Or.inl ⟨rfl, fun t _ i hi => absurd hi (by omega)⟩⟩
  · rw [l1, zp_bd]
    have key : ∀ (j t : Nat), t + j = L + 1 → ∀ f, j < f → ∀ Tn, zt n q 0 0 0 t Tn → (∀ t', t' < t → zb_S n q M k t') → ∃ r Tn', F_X0_allSeenIsSo_18 Ah Yi Sg f Tn (nI L) (nI t) = some (r, Tn') ∧ ((r = 1 ∧ zb_A n q M k) ∨ (r = 0 ∧ ¬ zb_A n q M k)) := by
      intro j
      induction j with
      | zero =>
        intro t ht f hf Tn hT hn
        obtain ⟨f, rfl⟩ := zp_f1 hf
        rw [F_X0_allSeenIsSo_18_n]; unfold F_X0_allSeenIsSo_18_s
        rw [if_pos ((nI_ltI (by omega) (by omega)).mpr (by omega))]
        refine ⟨_, _, rfl, Or.inl ⟨rfl, fun t' ht' i hi e => ?_⟩⟩
        by_cases q2 : t' < t
        · exact hn t' q2 i hi e
        · obtain ⟨h, w, s1, s2, s3, s4, -⟩ := hs i hi
          have e2 := l2 i h hi s3 (by omega)
          have e3 := (nI_eq (a := h) (b := t') (by omega) (by omega)).mp (s4.symm.trans e)
          omega
      | succ j ih =>
        intro t ht f hf Tn hT hn
        obtain ⟨f, rfl⟩ := zp_f1 hf
        rw [F_X0_allSeenIsSo_18_n]; unfold F_X0_allSeenIsSo_18_s
        rw [if_neg (fun q2 => by have := (nI_ltI (by omega) (by omega)).mp q2; omega)]
        obtain ⟨r, r1, r2⟩ := zc_areSo (q := q) (M := M) hY.2.1 k8 hk hs hT.2.2.2
        rw [r1, zp_bd]
        rcases r2 with ⟨q1, q2⟩ | ⟨q1, q2⟩
        · rw [q1, zp_i1]
          obtain ⟨dd, T1, t1, t2⟩ := zl_c hY hT
          rw [t1, zp_b2]
          simp only [zp_let]
          rw [zp_1]
          refine ih (t + 1) (by omega) f (by omega) T1 t2 (fun t' ht' => ?_)
          rcases (show t' = t ∨ t' < t by omega) with e | e
          · rw [e]; exact q2
          · exact hn t' e
        · rw [q1, zp_i0]
          exact ⟨_, _, rfl, Or.inr ⟨rfl, fun hall => q2 (hall t (by omega))⟩⟩
    exact key (L + 1) 0 (by omega) 1000 (by omega) P1 z0 (fun t' ht' => absurd ht' (by omega))
/-! the reference's -/
def zk (w : Nat) (M M1 : Ob) : Prop := M1 0 = M 0 ∧ (∀ c, c ≠ 0 → c ≠ 5 → c ≠ 10 → c ≠ 12 → c ≠ 13 → M1 c = M c) ∧ ∃ u, M1 5 = upd (M 5) w u
theorem zk_f {w : Nat} {M M1 M2 : Ob} (h : zk w M M1) (k : zf M1 M2) : zk w M M2 := by
  obtain ⟨a, b, u, c⟩ := h
  exact ⟨by rw [k.1, a], fun d d0 d7 d10 d12 d13 => by rw [k.2 d d0 d10 d12 d13, b d d0 d7 d10 d12 d13], u, by rw [k.2 5 (by decide) (by decide) (by decide) (by decide), c]⟩
theorem zk_u {w : Nat} {M M1 : Ob} (h : zk w M M1) (v : Int32) : zk w M (zs_up M1 5 w v) ∧ (zs_up M1 5 w v) 5 = upd (M 5) w v := by
  obtain ⟨a, b, u, c⟩ := h
  have e : (zs_up M1 5 w v) 5 = upd (M 5) w v := by
    rw [show (zs_up M1 5 w v) 5 = upd (M1 5) w v from by simp [zp_uD], c, zp_uu]
  exact ⟨⟨by rw [← a]; simp [zp_uD], fun d d0 d7 d10 d12 d13 => by rw [← b d d0 d7 d10 d12 d13]; simp [zp_uD, d7], v, e⟩, e⟩
def zQ4 (M : Ob) : Ob := zp_row (zQ M) 1 (M 4)
def zb_k (M : Ob) (w : Nat) (u : Int32) : Ob := zp_row (zQ4 M) 2 (upd (M 5) w u)
theorem zb_k0 (M : Ob) (w : Nat) : zb_k M w (M 5 w) = zQ4 M := by
  unfold zb_k
  rw [zp_ui]
  exact zp_id (zQ4 M) 2
theorem zk_x {n w : Nat} {M M1 : Ob} {u : Int32} (h : zk w M M1) (h5 : M1 5 = upd (M 5) w u) (hx : zx n (zQ M) M) : zx n (zb_k M w u) M1 := by
  obtain ⟨a1, a2, a3, a4, a5, a6, a7⟩ := hx
  refine ⟨by rw [h.1, a1], a2, ?_, ?_, ?_, ?_, ?_⟩
  · rw [h5]; unfold zb_k; rw [zp_rs]; exact fun _ _ => rfl
  · rw [h.2.1 6 (by decide) (by decide) (by decide) (by decide) (by decide)]; simpa [zb_k, zQ4, zp_rD] using a4
  · rw [h.2.1 7 (by decide) (by decide) (by decide) (by decide) (by decide)]; simpa [zb_k, zQ4, zp_rD] using a5
  · rw [h.2.1 8 (by decide) (by decide) (by decide) (by decide) (by decide)]; simpa [zb_k, zQ4, zp_rD] using a6
  · simpa [zb_k, zQ4, zp_rD] using a7
theorem zm_38 {n w : Nat} {q M M1 : Ob} (h6 : n ≤ 6) (h : zk w M M1) {k : Nat} (k8 : k ≤ 8) (hk : M 0 27 = nI k) (hs : ∀ i, i < k → ∃ h w : Nat, h ≤ 20 ∧ w < n ∧ M 14 i = nI h ∧ M 15 i = nI w) (r30 : Ob → Int32 → Option (Int32 × Ob)) {t : Nat} (hT : zp_ag n (M1 12) (zj n q 0 0 0 t)) : (zb_S n q M k t ∧ F_X8_isSo_38 r30 1000 M1 (nI t) 0 = F_X8_isSo_84 r30 M1 (nI t)) ∨ (¬ zb_S n q M k t ∧ F_X8_isSo_38 r30 1000 M1 (nI t) 0 = some (0, M1)) := by
  have e14 := h.2.1 14 (by decide) (by decide) (by decide) (by decide) (by decide)
  have e15 := h.2.1 15 (by decide) (by decide) (by decide) (by decide) (by decide)
  have e16 := h.2.1 16 (by decide) (by decide) (by decide) (by decide) (by decide)
  have key : ∀ (j i : Nat), i + j = k → ∀ f, j < f → zb_S n q M i t → (zb_S n q M k t ∧ F_X8_isSo_38 r30 f M1 (nI t) (nI i) = F_X8_isSo_84 r30 M1 (nI t)) ∨ (¬ zb_S n q M k t ∧ F_X8_isSo_38 r30 f M1 (nI t) (nI i) = some (0, M1)) := by
    intro j
    induction j with
    | zero =>
      intro i hi f hf hw
      obtain ⟨f, rfl⟩ := zp_f1 hf
      have : i = k := by omega
      subst this
      rw [F_X8_isSo_38_n]; unfold F_X8_isSo_38_s
      rw [h.1, hk, if_pos (nI_le (Nat.le_refl _) (by omega))]
      exact Or.inl ⟨hw, rfl⟩
    | succ j ih =>
      intro i hi f hf hw
      obtain ⟨f, rfl⟩ := zp_f1 hf
      obtain ⟨hh, w', s1, s2, s4, s6⟩ := hs i (by omega)
      have nx : (M 14 i = nI t → zj n q 0 0 0 t (M 15 i).toNatClampNeg = M 16 i) → (zb_S n q M k t ∧ F_X8_isSo_38 r30 f M1 (nI t) (nI (i + 1)) = F_X8_isSo_84 r30 M1 (nI t)) ∨ (¬ zb_S n q M k t ∧ F_X8_isSo_38 r30 f M1 (nI t) (nI (i + 1)) = some (0, M1)) := by
        intro hq
        refine ih (i + 1) (by omega) f (by omega) (fun i' hi' e => ?_)
        rcases (show i' = i ∨ i' < i by omega) with q2 | q2
        · subst q2; exact hq e
        · exact hw i' q2 e
      have ck : ∀ {α : Type} (y : Option α), zs_ck (nI i) 8 y = y := fun y => zp_ck (by omega) (by decide)
      rw [F_X8_isSo_38_n]; unfold F_X8_isSo_38_s F_X8_isSo_78
      simp only [zp_let, ck]
      rw [h.1, hk, if_neg (nI_ge (by omega) (by omega)), nI_clamp (show i < 2 ^ 31 by omega), e14, e15, e16, s6, zp_ck (by omega) (by decide), nI_clamp (show w' < 2 ^ 31 by omega), hT w' s2, zp_1]
      have ew : (M 15 i).toNatClampNeg = w' := by rw [s6]; exact nI_clamp (by omega)
      by_cases e1 : M 14 i = nI t
      · rw [if_pos e1]
        by_cases e2 : zj n q 0 0 0 t w' = M 16 i
        · rw [if_pos e2]
          exact nx (fun _ => by rw [ew]; exact e2)
        · rw [if_neg e2]
          exact Or.inr ⟨fun hall => e2 (by have := hall i (by omega) e1; rw [ew] at this; exact this), rfl⟩
      · rw [if_neg e1]
        exact nx (fun e => absurd e e1)
  exact key k 0 (by omega) 1000 (by omega) (fun i hi => absurd hi (by omega))
theorem zm_isSo {n w : Nat} {M M1 : Ob} (hx : zx n (zQ M) M) {u : Int32} (h : zk w M M1) (h5 : M1 5 = upd (M 5) w u) {k : Nat} (k8 : k ≤ 8) (hk : M 0 27 = nI k) (hs : ∀ i, i < k → ∃ h w : Nat, h ≤ 20 ∧ w < n ∧ M 14 i = nI h ∧ M 15 i = nI w) : ∃ r M', F_X8_isSo M1 = some (r, M') ∧ zf M1 M' ∧ ((r = 1 ∧ zb_A n (zb_k M w u) M k) ∨ (r = 0 ∧ ¬ zb_A n (zb_k M w u) M k)) := by
  have h6 := hx.2.1
  have hn1 : M1 0 10 = nI n := by rw [h.1]; exact hx.1
  have st : ∀ (k i : Nat), i + k = n → ∀ f, k < f → F_X8_isSo_2 f (zp_row M1 12 (zp_fl (M1 4) (M1 12) i)) (nI i) = F_X8_isSo_28 (zp_row M1 12 (zp_fl (M1 4) (M1 12) n)) := by
    intro k
    induction k with
    | zero =>
      intro i hi f hf
      obtain ⟨f, rfl⟩ := zp_f1 hf
      have : i = n := by omega
      subst this
      rw [F_X8_isSo_2_n]; unfold F_X8_isSo_2_s
      rw [zp_rn _ _ (show (0 : Nat) ≠ 12 by decide), hn1, if_pos (nI_le (Nat.le_refl _) (by omega))]
    | succ k ih =>
      intro i hi f hf
      obtain ⟨f, rfl⟩ := zp_f1 hf
      have h1 := ih (i + 1) (by omega) f (by omega)
      rw [F_X8_isSo_2_n]; unfold F_X8_isSo_2_s; simp only [zp_let]
      rw [zp_rn _ _ (show (0 : Nat) ≠ 12 by decide), zp_rn _ _ (show (4 : Nat) ≠ 12 by decide), hn1, if_neg (nI_ge (by omega) (by omega)), zp_ck (by omega) (by decide), zp_ck (by omega) (by decide), nI_clamp (by omega), zp_ru, zp_fls, zp_1]
      exact h1
  have s0 := st n 0 (by omega) 1000 (by omega)
  rw [zp_fl0, zp_id] at s0
  have z1 : zf M1 (zp_row M1 12 (zp_fl (M1 4) (M1 12) n)) := ⟨zp_rn _ _ (by decide), fun c _ _ h2 _ => zp_rn _ _ h2⟩
  have key : ∀ (j t : Nat), t + j = 21 → ∀ f, j < f → ∀ M2, zf M1 M2 → zp_ag n (M2 12) (zj n (zb_k M w u) 0 0 0 t) → (∀ t', t' < t → zb_S n (zb_k M w u) M k t') → ∃ r M', F_X8_isSo_30 f M2 (nI t) = some (r, M') ∧ zf M1 M' ∧ ((r = 1 ∧ zb_A n (zb_k M w u) M k) ∨ (r = 0 ∧ ¬ zb_A n (zb_k M w u) M k)) := by
    intro j
    induction j with
    | zero =>
      intro t ht f hf M2 g1 g2 g3
      obtain ⟨f, rfl⟩ := zp_f1 hf
      have : t = 21 := by omega
      subst this
      rw [F_X8_isSo_30_n]; unfold F_X8_isSo_30_s
      rw [if_pos (by decide)]
      exact ⟨_, _, rfl, g1, Or.inl ⟨rfl, fun t' ht' => g3 t' (by omega)⟩⟩
    | succ j ih =>
      intro t ht f hf M2 g1 g2 g3
      obtain ⟨f, rfl⟩ := zp_f1 hf
      have hk2 := zk_f h g1
      have h52 : M2 5 = upd (M 5) w u := by rw [g1.2 5 (by decide) (by decide) (by decide) (by decide), h5]
      rw [F_X8_isSo_30_n]; unfold F_X8_isSo_30_s
      rw [if_neg (show ¬ (20 : Int32) < nI t from fun q => by have := (nI_ltI (a := 20) (b := t) (by decide) (by omega)).mp q; omega)]
      rcases zm_38 h6 hk2 k8 hk hs (F_X8_isSo_30 f) g2 with ⟨q1, q2⟩ | ⟨q1, q2⟩
      · rw [q2]
        unfold F_X8_isSo_84
        obtain ⟨dd, M3, m1, m2, m3, -⟩ := zl_m (zk_x hk2 h52 hx) g2
        rw [show (0 : Int32) + nI t = nI t by simp] at m1
        rw [m1, zp_b2]
        simp only [zp_let]
        rw [zp_1]
        refine ih (t + 1) (by omega) f (by omega) M3 (zf_t g1 m3) m2 (fun t' ht' => ?_)
        rcases (show t' = t ∨ t' < t by omega) with e | e
        · rw [e]; exact q1
        · exact g3 t' e
      · rw [q2]
        exact ⟨_, _, rfl, g1, Or.inr ⟨rfl, fun hall => q1 (hall t (by omega))⟩⟩
  unfold F_X8_isSo
  rw [show F_X8_isSo_2 1000 M1 0 = _ from s0]
  unfold F_X8_isSo_28
  refine key 21 0 rfl 1000 (by omega) _ z1 (fun j hj => ?_) (fun t' ht' => absurd ht' (by omega))
  rw [zp_rs, zp_fli hj, h.2.1 4 (by decide) (by decide) (by decide) (by decide) (by decide), zj]
  unfold zb_k zQ4
  rw [zp_rn _ _ (by decide), zp_rs]
theorem zb_ku {n : Nat} {M Y : Ob} {w : Nat} {u : Int32} (hy : zy n (zb_k M w u) Y) (v : Int32) : zy n (zb_k M w v) (zs_up Y 2 w v) := by
  obtain ⟨a1, a2, a3, a4, a5, a6, a7⟩ := hy
  refine ⟨by simp [zp_uD, a1], a2, ?_, by simpa [zp_uD, zb_k, zQ4, zp_rD] using a4, by simpa [zp_uD, zb_k, zQ4, zp_rD] using a5, by simpa [zp_uD, zb_k, zQ4, zp_rD] using a6, by simpa [zp_uD, zb_k, zQ4, zp_rD] using a7⟩
  intro j hj
  have := a3 j hj
  unfold zb_k at this ⊢
  rw [zp_rs] at this ⊢
  rw [show (zs_up Y 2 w v) 2 = upd (Y 2) w v from by simp [zp_uD]]
  by_cases e : j = w
  · subst e; rw [zp_us, zp_us]
  · rw [zp_un _ _ e] at this ⊢; rw [zp_un _ _ e]; exact this
