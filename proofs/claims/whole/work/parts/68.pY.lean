/-! ===== PURE 25: all tokens, cut and read ===== -/
theorem zw_Toth {z : Nat} {t : Nat → Nat} (hz : z ≤ 250) {b : Nat} (hb : b < z) (hl : zw_L (t b) = false) (hd : zw_D (t b) = false) : ∃ e S V W, zw_T z t b e S V W := by
  have ite1 : ∀ S, S = (if t b = 59 then 3 else 4) → S = 3 ∨ S = 4 := by intro S h; split at h <;> omega
  refine ⟨b + 1, if t b = 59 then 3 else 4, 0, 0, by omega, by omega, by split <;> omega, by split <;> omega, fun q => ?_, fun q => ?_, fun Tk Tx hx => ?_, fun M hM h2 => ?_⟩
  · split at q <;> exact absurd q (by decide)
  · split at q <;> exact absurd q (by decide)
  · unfold F_X5_cutOne
    obtain ⟨b1, b2⟩ := hx.2.2 b hb
    rw [zc_let hx (by omega), zp_bd, if_neg (show ¬ (b < z ∧ zw_L (t b) = true) from fun k => by rw [hl] at k; exact absurd k.2 (by decide)), zp_i0, zc_dig hx (by omega), zp_bd, if_neg (show ¬ (b < z ∧ zw_D (t b) = true) from fun k => by rw [hd] at k; exact absurd k.2 (by decide)), zp_i0, zp_ck (by omega) (by decide), nI_clamp (by omega), b2]
    unfold F_X5_cutOne_48
    rw [zp_1]
    by_cases q : t b = 59
    · rw [if_pos ((zb_bl _ b1).2.2.1.mpr q), if_pos q]; rfl
    · rw [if_neg (fun k => q ((zb_bl _ b1).2.2.1.mp k)), if_neg q]; rfl
  · obtain ⟨m0, m1, m2⟩ := id hM
    obtain ⟨b1, b2⟩ := m2 b hb
    unfold F_X8_reads_38; simp only [zp_let]
    rw [zp_u4 _ _ (by decide), zp_u4 _ _ (by decide), zp_u5 _ _ (by decide), h2, m1, if_neg (fun k => by have := (nI_eq (a := b) (b := z) (by omega) (by omega)).mp k; omega), zp_ck (by omega) (by decide), nI_clamp (by omega), b2, zm_let _ b1, zp_bd, if_neg (show ¬ zw_L (t b) = true from by rw [hl]; decide), zp_i0, zp_ck (by omega) (by decide), zm_dig _ b1, zp_bd, if_neg (show ¬ zw_D (t b) = true from by rw [hd]; decide), zp_i0, zp_ck (by omega) (by decide)]
    unfold F_X8_reads_129 F_X8_reads_150; simp only [zp_let]
    rw [zp_u3, zp_u3, zp_u4 _ _ (show (2 : Nat) ≠ 4 by decide), zp_u4 _ _ (show (2 : Nat) ≠ 4 by decide), zp_u4 _ _ (show (2 : Nat) ≠ 3 by decide), h2]
    by_cases q : t b = 59
    · rw [if_pos ((zb_bl _ b1).2.2.2.1.mpr q), if_pos rfl, if_pos q, zp_1]
      refine ⟨_, rfl, ?_, ?_, ?_, ?_, ?_, ?_⟩
      · intro _; simp [zp_uD, zp_upR]
      · simp [zp_uD, zp_upR]
      · simp [zp_uD, zp_upR]; rfl
      · intro k; rcases k with k | k <;> exact absurd k (by decide)
      · intro k k2 k3 k4 k5; simp [zp_uD, zp_upR, k2, k3, k4, k5]
      · intro c hc; simp [zp_uD, hc]
    · rw [if_neg (fun k => q ((zb_bl _ b1).2.2.2.1.mp k)), if_neg (show ¬ (4 : Int32) = 3 by decide), if_neg q]
      refine ⟨_, rfl, ?_, ?_, ?_, ?_, ?_, ?_⟩
      · intro k; exact absurd rfl k
      · simp [zp_uD, zp_upR]
      · simp [zp_uD, zp_upR]; rfl
      · intro k; rcases k with k | k <;> exact absurd k (by decide)
      · intro k k2 k3 k4 k5; simp [zp_uD, zp_upR, k2, k3, k4, k5]
      · intro c hc; simp [zp_uD, hc]
theorem zw_tok {z : Nat} {t : Nat → Nat} (hz : z ≤ 250) {b : Nat} (hb : b < z) : ∃ e S V W, zw_T z t b e S V W := by
  cases hl : zw_L (t b) with
  | true => exact zw_Tword hz hb hl
  | false =>
    cases hd : zw_D (t b) with
    | true => exact zw_Tnum hz hb hl hd
    | false => exact zw_Toth hz hb hl hd
/-- the class's tokens from the k-th on are those from place p on -/
def zw_K (z : Nat) (t : Nat → Nat) (Tk : Ob) (N : Nat) : Nat → Nat → Nat → Prop
  | 0, _, _ => False
  | m + 1, k, p => p ≤ z ∧ k < N ∧ ((zw_to zw_B t z p = z ∧ Tk 1 k = nI z ∧ Tk 2 k = nI 0) ∨ (zw_to zw_B t z p < z ∧ ∃ e S V W, zw_T z t (zw_to zw_B t z p) e S V W ∧ Tk 1 k = nI (zw_to zw_B t z p) ∧ Tk 2 k = nI S ∧ Tk 3 k = nI V ∧ zw_K z t Tk N m (k + 1) e))
theorem zc_add (Tk : Ob) {k : Nat} (hk : Tk 0 3 = nI k) (h : k < 251) (a s v : Int32) : ∃ Tk', F_X5_add Tk a s v = some Tk' ∧ Tk' 0 3 = nI (k + 1) ∧ Tk' 1 k = a ∧ Tk' 2 k = s ∧ Tk' 3 k = v ∧ (∀ c j, (c = 1 ∨ c = 2 ∨ c = 3) → j ≠ k → Tk' c j = Tk c j) := by
  unfold F_X5_add
  have s0 : ∀ (Q : Ob) c i v, c ≠ 0 → (zs_up Q c i v) 0 = Q 0 := fun Q c i v hc => by simp [zp_uD, Ne.symm hc]
  have ck : ∀ {α : Type} (y : Option α), zs_ck (nI k) 251 y = y := fun y => zp_ck h (by decide)
  have kc : (nI k).toNatClampNeg = k := nI_clamp (by omega)
  rw [hk, if_neg (show ¬ (251 : Int32) ≤ nI k from nI_ge (a := k) (b := 251) h (by decide))]
  simp only [zp_let, s0 _ 1 _ _ (by decide), s0 _ 2 _ _ (by decide), s0 _ 3 _ _ (by decide), hk, ck, kc, zp_1]
  refine ⟨_, rfl, ?_, ?_, ?_, ?_, ?_⟩
  · simp [zp_uD, zp_upR]
  · simp [zp_uD, zp_upR]
  · simp [zp_uD, zp_upR]
  · simp [zp_uD, zp_upR]
  · intro c j hc hj
    rcases hc with rfl | rfl | rfl <;> simp [zp_uD, zp_upR, hj]
theorem zw_Kc {z : Nat} {t : Nat → Nat} {Tk Tk' : Ob} {N : Nat} : ∀ m k p, zw_K z t Tk N m k p → (∀ c j, (c = 1 ∨ c = 2 ∨ c = 3) → k ≤ j → Tk' c j = Tk c j) → zw_K z t Tk' N m k p := by
  intro m
  induction m with
  | zero => intro k p h _; exact h
  | succ m ih =>
    intro k p h hc
    rw [zw_K] at h ⊢
    obtain ⟨h1, h2, h3⟩ := h
    refine ⟨h1, h2, ?_⟩
    rw [hc 1 k (Or.inl rfl) (Nat.le_refl _), hc 2 k (Or.inr (Or.inl rfl)) (Nat.le_refl _), hc 3 k (Or.inr (Or.inr rfl)) (Nat.le_refl _)]
    rcases h3 with q | ⟨q1, e, S, V, W, q2, q3, q4, q5, q6⟩
    · exact Or.inl q
    · exact Or.inr ⟨q1, e, S, V, W, q2, q3, q4, q5, ih (k + 1) e q6 (fun c j hcc hj => hc c j hcc (by omega))⟩
theorem zc_cut {z : Nat} {t : Nat → Nat} {Tx : Ob} (h : zwc z t Tx) (Tk : Ob) : ∃ Tk' N, F_X5_cut Tk Tx = some Tk' ∧ Tk' 0 3 = nI N ∧ N ≤ 251 ∧ zw_K z t Tk' N (z + 1) 0 0 := by
  have hz := h.1
  have key : ∀ (m k p : Nat), z + 1 ≤ p + m → p ≤ z → k ≤ p → ∀ f, m < f → ∀ Tk, Tk 0 3 = nI k → ∃ Tk' N, F_X5_cut_14 Tx f Tk (nI (zw_to zw_B t z p)) (nI k) = some Tk' ∧ Tk' 0 3 = nI N ∧ N ≤ 251 ∧ zw_K z t Tk' N m k p ∧ (∀ c j, (c = 1 ∨ c = 2 ∨ c = 3) → j < k → Tk' c j = Tk c j) := by
    intro m
    induction m with
    | zero => intro k p hm hp hk; omega
    | succ m ih =>
      intro k p hm hp hk f hf Tk hT
      obtain ⟨f, rfl⟩ := zp_f1 hf
      obtain ⟨s1, s2, s3, s4⟩ := zw_sp (p := zw_B) (t := t) (z := z) (i := p) hp
      rw [F_X5_cut_14_n]; unfold F_X5_cut_14_s
      by_cases hb : zw_to zw_B t z p < z
      · have hk250 : k < 250 := by omega
        obtain ⟨e, S, V, W, hTok⟩ := zw_tok (t := t) hz hb
        obtain ⟨g1, g2, g3, g4, g5, g6, g7, g8⟩ := id hTok
        rw [if_neg (show ¬ (250 : Int32) ≤ nI k from nI_ge (a := k) (b := 250) hk250 (by decide)), h.2.1, if_neg (nI_ge hb (by omega)), g7 Tk Tx h]
        obtain ⟨T1, t1, t2, t3, t4, t5, t6⟩ := zc_add Tk hT (by omega) (nI (zw_to zw_B t z p)) (nI S) (nI V)
        rw [t1, zp_bd, zp_b2, zc_skip h T1 g2, zp_bd]
        simp only [zp_let]
        rw [zp_1]
        obtain ⟨T2, N, u1, u2, u3, u4, u5⟩ := ih (k + 1) e (by omega) g2 (by omega) f (by omega) T1 t2
        refine ⟨T2, N, u1, u2, u3, ?_, fun c j hc hj => by rw [u5 c j hc (by omega), t6 c j hc (by omega)]⟩
        rw [zw_K]
        have hkN : k < N := by
          cases m with
          | zero => rw [zw_K] at u4; exact u4.elim
          | succ m => rw [zw_K] at u4; have := u4.2.1; omega
        refine ⟨hp, hkN, Or.inr ⟨hb, e, S, V, W, hTok, by rw [u5 1 k (Or.inl rfl) (by omega), t3], by rw [u5 2 k (Or.inr (Or.inl rfl)) (by omega), t4], by rw [u5 3 k (Or.inr (Or.inr rfl)) (by omega), t5], u4⟩⟩
      · have hbz : zw_to zw_B t z p = z := by omega
        obtain ⟨T1, t1, t2, t3, t4, t5, t6⟩ := zc_add Tk hT (by omega) (nI z) 0 0
        have e47 : F_X5_cut_47 Tx Tk = some T1 := by
          unfold F_X5_cut_47
          rw [h.2.1, t1, zp_bd]
        refine ⟨T1, k + 1, ?_, t2, by omega, ?_, fun c j hc hj => t6 c j hc (by omega)⟩
        · rw [e47, h.2.1, hbz, if_pos (nI_le (Nat.le_refl _) (by omega)), ite_self]
        · rw [zw_K]
          exact ⟨hp, by omega, Or.inl ⟨hbz, t3, t4⟩⟩
  unfold F_X5_cut
  simp only [zp_let]
  rw [show F_X5_skipBlanks (zs_up Tk 0 3 0) Tx 0 = _ from zc_skip h (zs_up Tk 0 3 0) (Nat.zero_le z), zp_bd]
  obtain ⟨T2, N, u1, u2, u3, u4, -⟩ := key (z + 1) 0 0 (by omega) (by omega) (by omega) 1000 (by omega) (zs_up Tk 0 3 0) (zp_u3 _ _ _)
  exact ⟨T2, N, u1, u2, u3, u4⟩
/-- a token read on both sides -/
theorem zw_read {z : Nat} {t : Nat → Nat} {Tk Rd M : Ob} {N m k p : Nat} (hN : N ≤ 251) (h3 : Tk 0 3 = nI N) (hK : zw_K z t Tk N m k p) (hR : Rd 0 4 = nI k) (hM : zwm z t M) (h2 : M 0 2 = nI p) : ∃ Rd' M' b S V W, F_X2_readToken Rd Tk = some Rd' ∧ F_X8_reads M = some M' ∧ b ≤ z ∧ S ≤ 4 ∧ Rd' 0 1 = nI b ∧ Rd' 0 2 = nI S ∧ Rd' 0 4 = nI (k + 1) ∧ Rd' 0 5 = Rd 0 5 ∧ M' 0 3 = nI b ∧ M' 0 4 = nI S ∧ (S = 1 → Rd' 0 3 = nI V ∧ M' 0 5 = nI W ∧ 1 ≤ V ∧ V ≤ 4 ∧ W + 1 = V) ∧ (S = 2 → Rd' 0 3 = nI V ∧ M' 0 5 = nI V ∧ V ≤ 99) ∧ ((S = 1 ∨ S = 2 ∨ S = 3) → ∃ m' e, zw_K z t Tk N m' (k + 1) e ∧ M' 0 2 = nI e) ∧ zwm z t M' ∧ (∀ j, j ≠ 2 → j ≠ 3 → j ≠ 4 → j ≠ 5 → M' 0 j = M 0 j) ∧ (∀ c, c ≠ 0 → M' c = M c) := by
  cases m with
  | zero => exact hK.elim
  | succ m =>
    rw [zw_K] at hK
    obtain ⟨hp, hkN, hK⟩ := hK
    have hz := hM.1
    have rd : ∃ Rd', F_X2_readToken Rd Tk = some Rd' ∧ Rd' 0 1 = Tk 1 k ∧ Rd' 0 2 = Tk 2 k ∧ Rd' 0 3 = Tk 3 k ∧ Rd' 0 4 = nI (k + 1) ∧ Rd' 0 5 = Rd 0 5 := by
      unfold F_X2_readToken
      simp only [zp_let]
      rw [h3, hR, if_neg (nI_ge hkN (by omega))]
      rw [zp_u4 _ _ (show (4 : Nat) ≠ 1 by decide), zp_u4 _ _ (show (4 : Nat) ≠ 2 by decide), zp_u4 _ _ (show (4 : Nat) ≠ 1 by decide), zp_u4 _ _ (show (4 : Nat) ≠ 3 by decide), zp_u4 _ _ (show (4 : Nat) ≠ 2 by decide), zp_u4 _ _ (show (4 : Nat) ≠ 1 by decide), hR, zp_ck (by omega) (by decide), zp_ck (by omega) (by decide), zp_ck (by omega) (by decide), nI_clamp (by omega), zp_1]
      refine ⟨_, rfl, ?_, ?_, ?_, ?_, ?_⟩ <;> simp [zp_uD, zp_upR]
    obtain ⟨Rd', r0, r1, r2, r3, r4, r5⟩ := rd
    have hM2 : zwm z t (zs_up M 0 2 (nI (zw_to zw_B t z p))) := ⟨hM.1, by rw [zp_u4 _ _ (by decide), hM.2.1], fun i hi => by rw [zp_u5 _ _ (by decide)]; exact hM.2.2 i hi⟩
    rcases hK with ⟨q1, q2, q3⟩ | ⟨q1, e, S, V, W, q2, q3, q4, q5, q6⟩
    · have e38 : F_X8_reads M = some (zs_up (zs_up (zs_up M 0 2 (nI z)) 0 3 (nI z)) 0 4 0) := by
        rw [zm_skip hM hp h2, q1]
        unfold F_X8_reads_38; simp only [zp_let]
        rw [zp_u3, zp_u4 _ _ (by decide), zp_u3, zp_u4 _ _ (by decide), zp_u4 _ _ (by decide), hM.2.1, if_pos rfl]
      refine ⟨Rd', _, z, 0, 0, 0, r0, e38, Nat.le_refl _, by omega, by rw [r1, q2], by rw [r2, q3], r4, r5, ?_, ?_, fun k => absurd k (by decide), fun k => absurd k (by decide), fun k => by omega, ?_, ?_, ?_⟩
      · simp [zp_uD, zp_upR]
      · simp [zp_uD, zp_upR]; rfl
      · exact ⟨hM.1, by rw [← hM.2.1]; simp [zp_uD, zp_upR], fun i hi => by simpa [zp_uD] using hM.2.2 i hi⟩
      · intro j j2 j3 j4 j5; simp [zp_uD, zp_upR, j2, j3, j4]
      · intro c hc; simp [zp_uD, hc]
    · obtain ⟨g1, g2, g3, g4, g5, g6, g7, g8⟩ := id q2
      obtain ⟨M', m0, m1, m2, m3, m4, m5, m6⟩ := g8 _ hM2 (zp_u3 _ _ _)
      refine ⟨Rd', M', zw_to zw_B t z p, S, V, W, r0, by rw [zm_skip hM hp h2, m0], by omega, g4, by rw [r1, q3], by rw [r2, q4], r4, r5, m2, m3, fun k => ⟨by rw [r3, q5], m4 (Or.inl k), g5 k⟩, fun k => ⟨by rw [r3, q5], by rw [m4 (Or.inr k), (g6 k).1], (g6 k).2⟩, fun k => ⟨m, e, q6, m1 (by omega)⟩, ?_, ?_, ?_⟩
      · exact ⟨hM.1, by rw [m5 1 (by decide) (by decide) (by decide) (by decide)]; exact hM2.2.1, fun i hi => by rw [m6 1 (by decide)]; exact hM2.2.2 i hi⟩
      · intro j j2 j3 j4 j5; rw [m5 j j2 j3 j4 j5, zp_u4 _ _ j2]
      · intro c hc; rw [m6 c hc, zp_u5 _ _ hc]
