/-! ===== PURE 12: type, first, coolest ===== -/
theorem zq_shr (v D : Int64) {k : Nat} (hD : (D.toBitVec.smod 64).toNat = k) (hk : k + 8 ≤ 64) : ((v >>> D) &&& 255).toInt32 = nI (v.toBitVec.toNat / 2 ^ k % 256) := by
  apply Int32.toBitVec_inj.mp
  have e : ((v >>> D) &&& 255).toBitVec = v.toBitVec.sshiftRight k &&& 255#64 := by
    rw [Int64.toBitVec_and, Int64.toBitVec_shiftRight, BitVec.sshiftRight', hD]
    rfl
  rw [Int64.toBitVec_toInt32, e]
  show _ = BitVec.ofNat 32 _
  apply BitVec.eq_of_getLsbD_eq
  intro j hj
  rw [BitVec.signExtend_eq_setWidth_of_le _ (by decide), BitVec.getLsbD_setWidth, BitVec.getLsbD_and, BitVec.getLsbD_sshiftRight, BitVec.getLsbD_ofNat, BitVec.getLsbD_ofNat, show (255 : Nat) = 2 ^ 8 - 1 from rfl, Nat.testBit_two_pow_sub_one, show (256 : Nat) = 2 ^ 8 from rfl, Nat.testBit_mod_two_pow, Nat.testBit_div_two_pow]
  by_cases h8 : j < 8
  · have h1 : j < 64 := by omega
    have h2 : ¬ 64 ≤ j := by omega
    have h3 : k + j < 64 := by omega
    simp [h8, hj, h1, h2, h3, BitVec.getLsbD, Nat.add_comm]
  · simp [h8]
theorem zq_D : ∀ i, i < 8 → ((((8 : Int32) * nI i).toInt64 &&& 63).toBitVec.smod 64).toNat = 8 * i ∧ (((8 : Int32) * nI i).toInt64.toUInt64 &&& Int64.toUInt64 63).toNat = 8 * i := by decide +kernel
theorem zq_byte (v : Int64) {i : Nat} (hi : i < 8) : ∃ t, t < 256 ∧ vp_nar .byte (((((((v).toUInt64 >>> ((((8 : Int32) * nI i)).toInt64.toUInt64 &&& Int64.toUInt64 63)).toInt64)).toInt32)).toInt8.toInt32) = zb_s t ∧ (((v >>> ((((8 : Int32) * nI i)).toInt64 &&& 63)) &&& (255 : Int64))).toInt32 = nI t := by
  obtain ⟨d1, d2⟩ := zq_D i hi
  refine ⟨v.toBitVec.toNat / 2 ^ (8 * i) % 256, Nat.mod_lt _ (by decide), ?_, zq_shr v _ d1 (by omega)⟩
  rw [pk_vb]
  unfold zb_s
  congr 1
  apply Int8.toBitVec_inj.mp
  apply BitVec.eq_of_toNat_eq
  have e : ((v.toUInt64 >>> (((8 : Int32) * nI i).toInt64.toUInt64 &&& Int64.toUInt64 63)).toInt64).toBitVec.toNat = v.toBitVec.toNat / 2 ^ (8 * i) := by
    show (v.toUInt64 >>> (((8 : Int32) * nI i).toInt64.toUInt64 &&& Int64.toUInt64 63)).toNat = _
    rw [UInt64.toNat_shiftRight, d2, Nat.shiftRight_eq_div_pow, Nat.mod_eq_of_lt (show 8 * i < 64 by omega)]
    rfl
  rw [Int32.toBitVec_toInt8, Int32.toBitVec_toInt8, Int64.toBitVec_toInt32, BitVec.signExtend_eq_setWidth_of_le _ (by decide), BitVec.signExtend_eq_setWidth_of_le _ (by decide), BitVec.signExtend_eq_setWidth_of_le _ (by decide), BitVec.toNat_setWidth, BitVec.toNat_setWidth, BitVec.toNat_setWidth, e]
  show _ = (BitVec.ofNat 32 _).toNat % 2 ^ 8
  rw [BitVec.toNat_ofNat]
  omega
theorem zp_nneg {i : Nat} (hi : i < 2 ^ 31) : ¬ nI i < 0 := fun q => by have := (nI_ltI (a := i) (b := 0) hi (by decide)).mp q; omega
theorem zp_m1 (i : Nat) : nI (i + 1) + (-1 : Int32) = nI i := by
  rw [← zp_1, Int32.add_assoc, show (1 : Int32) + -1 = 0 from rfl]; simp
theorem zl_type (v : Int64) : ∀ (i : Nat), i < 8 → ∀ f f', i + 1 < f → i + 1 < f' → ∀ (Tx M : Ob) (z : Nat) (t : Nat → Nat), z + i + 1 ≤ 250 → Tx 0 1 = nI z → M 0 1 = nI z → (∀ j, j < z → t j < 256 ∧ Tx 1 j = zb_s (t j) ∧ M 1 j = nI (t j)) → ∃ Tx' M', F_X4_append_5 f Tx v (nI i) = some Tx' ∧ F_X8_type_34 f' M v (nI i) = some (Tx' 0 1, M') ∧ zr_T Tx' M' ∧ (∀ k, k ≠ 1 → M' 0 k = M 0 k) ∧ (∀ c, c ≠ 0 → c ≠ 1 → M' c = M c) := by
  have step : ∀ (i : Nat), i < 8 → ∀ f f', ∀ (Tx M : Ob) (z : Nat) (t : Nat → Nat), z + 1 ≤ 250 → Tx 0 1 = nI z → M 0 1 = nI z → (∀ j, j < z → t j < 256 ∧ Tx 1 j = zb_s (t j) ∧ M 1 j = nI (t j)) → ∃ (Tx1 M1 : Ob) (t1 : Nat → Nat), F_X4_append_5 (f + 1) Tx v (nI i) = F_X4_append_5 f Tx1 v (nI i + -1) ∧ F_X8_type_34 (f' + 1) M v (nI i) = F_X8_type_34 f' M1 v (nI i + -1) ∧ Tx1 0 1 = nI (z + 1) ∧ M1 0 1 = nI (z + 1) ∧ (∀ j, j < z + 1 → t1 j < 256 ∧ Tx1 1 j = zb_s (t1 j) ∧ M1 1 j = nI (t1 j)) ∧ (∀ k, k ≠ 1 → M1 0 k = M 0 k) ∧ (∀ c, c ≠ 0 → c ≠ 1 → M1 c = M c) := by
    intro i hi f f' Tx M z t hz h1 h2 h3
    obtain ⟨b, b1, b2, b3⟩ := zq_byte v hi
    rw [F_X4_append_5_n, F_X8_type_34_n]
    unfold F_X4_append_5_s F_X8_type_34_s
    rw [if_neg (zp_nneg (by omega)), if_neg (zp_nneg (by omega)), h1, h2, b2, b3, if_neg (show ¬ (250 : Int32) ≤ nI z from nI_ge (a := z) (b := 250) (by omega) (by decide)), zp_ck (by omega) (by decide), zp_ck (by omega) (by decide), nI_clamp (by omega)]
    simp only [zp_let]
    refine ⟨_, _, fun j => if j = z then b else t j, rfl, rfl, ?_, ?_, ?_, ?_, ?_⟩
    · simp [zp_uD, zp_upR, h1, zp_1]
    · simp [zp_uD, zp_upR, h2, zp_1]
    · intro j hj
      by_cases q : j = z
      · subst q; simp [zp_uD, zp_upR, b1]
      · have := h3 j (by omega); simp [zp_uD, zp_upR, q]; exact this
    · intro k hk; simp [zp_uD, zp_upR, hk]
    · intro c h0 h1; simp [zp_uD, h0, h1]
  intro i
  induction i with
  | zero =>
    intro hi f f' hf hf' Tx M z t hz h1 h2 h3
    obtain ⟨f, rfl⟩ := zp_f1 hf
    obtain ⟨f', rfl⟩ := zp_f1 hf'
    obtain ⟨f, rfl⟩ := zp_f1 (show 0 < f by omega)
    obtain ⟨f', rfl⟩ := zp_f1 (show 0 < f' by omega)
    obtain ⟨Tx1, M1, t1, e1, e2, e3, e4, e5, e6, e7⟩ := step 0 hi (f + 1) (f' + 1) Tx M z t (by omega) h1 h2 h3
    refine ⟨Tx1, M1, ?_, ?_, ⟨z + 1, t1, by omega, e3, e4, e5⟩, e6, e7⟩
    · rw [e1, F_X4_append_5_n]; unfold F_X4_append_5_s; rw [if_pos (by decide)]
    · rw [e2, F_X8_type_34_n]; unfold F_X8_type_34_s F_X8_type_76; rw [if_pos (by decide), e3, e4]
  | succ i ih =>
    intro hi f f' hf hf' Tx M z t hz h1 h2 h3
    obtain ⟨f, rfl⟩ := zp_f1 hf
    obtain ⟨f', rfl⟩ := zp_f1 hf'
    obtain ⟨Tx1, M1, t1, e1, e2, e3, e4, e5, e6, e7⟩ := step (i + 1) hi f f' Tx M z t (by omega) h1 h2 h3
    rw [zp_m1] at e1 e2
    obtain ⟨Tx', M', g1, g2, g3, g4, g5⟩ := ih (by omega) f f' (by omega) (by omega) Tx1 M1 (z + 1) t1 (by omega) e3 e4 e5
    exact ⟨Tx', M', by rw [e1, g1], by rw [e2, g2], g3, fun k hk => by rw [g4 k hk, e6 k hk], fun c a b => by rw [g5 c a b, e7 c a b]⟩
theorem zo_type {Xm : Ob} {tr : Int64} {Tx Pr Sg Im0 Im1 Yt M : Ob} {mt : Int64} (h : zr Xm tr Tx Pr Sg Im0 Im1 Yt M mt) (v : Int64) (x : Int32) : ∃ r Tx' M', F_X7_type Tx v x = some (r, Tx') ∧ F_X8_type M v x = some (r, M') ∧ zr Xm tr Tx' Pr Sg Im0 Im1 Yt M' mt := by
  obtain ⟨n, a, b, c, d, e, f⟩ := id h
  obtain ⟨z, t, c1, c2, c3, c4⟩ := id c
  unfold F_X7_type F_X8_type
  have hin : F_X8_in x.toInt64 1 8 = some (if (1 : Int32) ≤ x ∧ x ≤ 8 then 1 else 0) := zq_in x 1 8
  rw [hin, zp_bd]
  by_cases h1 : x < 1
  · have h1' : ¬ ((1 : Int32) ≤ x ∧ x ≤ 8) := by
      rintro ⟨q, -⟩
      rw [Int32.lt_iff_toInt_lt] at h1; rw [Int32.le_iff_toInt_le] at q; omega
    rw [if_pos h1, if_neg h1', zp_i0]
    exact ⟨_, _, _, rfl, rfl, h⟩
  · rw [if_neg h1]
    by_cases h8 : x ≤ 8
    · obtain ⟨k, hk, rfl⟩ := zq_nIle x (n := 8) (by decide) (by rw [Int32.lt_iff_toInt_lt] at h1; rw [Int32.le_iff_toInt_le]; have : (1 : Int32).toInt = 1 := rfl; have : (0 : Int32).toInt = 0 := rfl; omega) h8
      have hk1 : 1 ≤ k := by
        rcases Nat.eq_zero_or_pos k with q | q
        · subst q; exact absurd (by decide) h1
        · exact q
      obtain ⟨i, rfl⟩ : ∃ i, k = i + 1 := ⟨k - 1, by omega⟩
      rw [if_pos h8, if_pos (show (1 : Int32) ≤ nI (i + 1) ∧ nI (i + 1) ≤ 8 from ⟨nI_le (a := 1) (b := i + 1) (by omega) (by omega), h8⟩), zp_i1]
      unfold F_X4_hasRoomFor
      rw [c2, c3, nI_add, show (250 : Int32) - nI z = nI (250 - z) from by rw [show (250 : Int32) = nI 250 from rfl, pk_sub (by omega)]]
      by_cases hr : z + (i + 1) ≤ 250
      · rw [if_neg (show ¬ nI (250 - z) < nI (i + 1) from fun q => by have := (nI_ltI (by omega) (by omega)).mp q; omega), zp_bd, zp_i1, if_pos (show nI (z + (i + 1)) ≤ (250 : Int32) from nI_le (a := z + (i + 1)) (b := 250) (by omega) (by decide))]
        unfold F_X4_append
        simp only [zp_let]
        rw [show nI (i + 1) - (1 : Int32) = nI i from by rw [show (1 : Int32) = nI 1 from rfl, pk_sub (by omega), Nat.add_sub_cancel]]
        obtain ⟨Tx', M', g1, g2, g3, g4, g5⟩ := zl_type v i (by omega) 1000 1000 (by omega) (by omega) Tx M z t (by omega) c2 c3 c4
        rw [g1, g2, zp_bd]
        refine ⟨_, _, _, rfl, rfl, n, ?_, ?_, g3, ?_, ?_, f⟩
        · exact zr_Yc a (g4 _ (by decide)) (g4 _ (by decide)) (g5 _ (by decide) (by decide)) (g5 _ (by decide) (by decide)) (g5 _ (by decide) (by decide)) (g5 _ (by decide) (by decide)) (g5 _ (by decide) (by decide))
        · exact zr_Nc b (g4 _ (by decide)) (g4 _ (by decide)) (g4 _ (by decide)) (g4 _ (by decide)) (g4 _ (by decide)) (fun j _ => by rw [g5 9 (by decide) (by decide)]) (g5 _ (by decide) (by decide))
        · exact zr_Sc d (g4 _ (by decide)) (g5 _ (by decide) (by decide)) (g5 _ (by decide) (by decide)) (g5 _ (by decide) (by decide))
        · exact zr_Ic e (g5 _ (by decide) (by decide))
      · rw [if_pos ((nI_ltI (a := 250 - z) (b := i + 1) (by omega) (by omega)).mpr (by omega)), zp_bd, zp_i0, if_neg (show ¬ nI (z + (i + 1)) ≤ (250 : Int32) from nI_ge (a := 250) (b := z + (i + 1)) (by omega) (by omega))]
        exact ⟨_, _, _, rfl, rfl, h⟩
    · rw [if_neg h8, if_neg (show ¬ ((1 : Int32) ≤ x ∧ x ≤ 8) from fun q => h8 q.2), zp_i0]
      exact ⟨_, _, _, rfl, rfl, h⟩
/-! too warm -/
theorem zo_orb : ∀ b, b < 64 → ∀ i, i < 6 → nI b ||| ((1 : Int32) <<< (nI i &&& 31)) = nI (b ||| 2 ^ i) := by decide +kernel
theorem zo_least : ∀ b, b < 64 → ∀ w, w < 6 → b.testBit w = true → (∀ j, j < w → b.testBit j = false) → F_X7_leastOf (nI b) = some (nI w) := by decide +kernel
theorem zo_hotN (lim : Int32) (wm : Nat → Int32) : ∀ n, n ≤ 6 → ∃ b, zo_hot lim wm n = nI b ∧ b < 2 ^ n ∧ ∀ i, i < n → b.testBit i = !(decide (wm i ≤ lim)) := by
  intro n
  induction n with
  | zero => intro _; exact ⟨0, rfl, by decide, fun i hi => absurd hi (by omega)⟩
  | succ n ih =>
    intro h6
    obtain ⟨b, b1, b2, b3⟩ := ih (by omega)
    have h32 : 2 ^ n ≤ 64 := zq_2n (by omega)
    have h2 : 2 ^ (n + 1) = 2 * 2 ^ n := by rw [Nat.pow_succ]; omega
    rw [zo_hot, b1]
    by_cases q : wm n ≤ lim
    · rw [if_pos q]
      refine ⟨b, rfl, by omega, fun i hi => ?_⟩
      by_cases e : i = n
      · subst e; rw [Nat.testBit_lt_two_pow b2]; simp [q]
      · exact b3 i (by omega)
    · rw [if_neg q, zo_orb b (by omega) n (by omega)]
      refine ⟨b ||| 2 ^ n, rfl, Nat.or_lt_two_pow (by omega) (Nat.pow_lt_pow_right (by decide) (by omega)), fun i hi => ?_⟩
      rw [Nat.testBit_or, Nat.testBit_two_pow]
      by_cases e : i = n
      · subst e; simp [q]
      · rw [b3 i (by omega)]; simp [show ¬ n = i from fun h => e h.symm]
theorem zm_tw (M : Ob) {n : Nat} (hn : M 0 10 = nI n) (h6 : n ≤ 6) : ((∀ j, j < n → M 12 j ≤ M 0 11) ∧ F_X8_tooWarm M = some (-9)) ∨ (∃ w, w < n ∧ ¬ M 12 w ≤ M 0 11 ∧ (∀ j, j < w → M 12 j ≤ M 0 11) ∧ F_X8_tooWarm M = some (nI w)) := by
  have key : ∀ (k i : Nat), i + k = n → ∀ f, k < f → (∀ j, j < i → M 12 j ≤ M 0 11) → ((∀ j, j < n → M 12 j ≤ M 0 11) ∧ F_X8_tooWarm_2 M f (nI i) = some (-9)) ∨ (∃ w, w < n ∧ ¬ M 12 w ≤ M 0 11 ∧ (∀ j, j < w → M 12 j ≤ M 0 11) ∧ F_X8_tooWarm_2 M f (nI i) = some (nI w)) := by
    intro k
    induction k with
    | zero =>
      intro i hi f hf hj
      obtain ⟨f, rfl⟩ := zp_f1 hf
      have : i = n := by omega
      subst this
      rw [F_X8_tooWarm_2_n]; unfold F_X8_tooWarm_2_s
      rw [hn, if_pos (nI_le (Nat.le_refl _) (by omega))]
      exact Or.inl ⟨hj, rfl⟩
    | succ k ih =>
      intro i hi f hf hj
      obtain ⟨f, rfl⟩ := zp_f1 hf
      rw [F_X8_tooWarm_2_n]; unfold F_X8_tooWarm_2_s
      simp only [zp_let]
      rw [hn, if_neg (nI_ge (by omega) (by omega)), zp_ck (by omega) (by decide), nI_clamp (by omega), zp_1]
      by_cases q : M 12 i ≤ M 0 11
      · rw [if_pos q]
        refine ih (i + 1) (by omega) f (by omega) (fun j hj' => ?_)
        by_cases e : j = i
        · rw [e]; exact q
        · exact hj j (by omega)
      · rw [if_neg q]
        exact Or.inr ⟨i, by omega, q, hj, rfl⟩
  exact key n 0 (by omega) 1000 (by omega) (fun j hj => absurd hj (by omega))
theorem zl_hot {n : Nat} {Y Tn M : Ob} (hY : Y 0 0 = nI n) (hM : M 0 10 = nI n) (h6 : n ≤ 6) (hl : Y 0 1 = M 0 11) (ha : zp_ag n (Tn 1) (M 12)) : (F_X1_tooWarm Tn Y = some 0 ∧ F_X8_tooWarm M = some (-9)) ∨ ∃ b w, F_X1_tooWarm Tn Y = some b ∧ ¬ b = 0 ∧ w < n ∧ F_X7_leastOf b = some (nI w) ∧ F_X8_tooWarm M = some (nI w) := by
  obtain ⟨b, b1, b2, b3⟩ := zo_hotN (M 0 11) (M 12) n h6
  have h64 := zq_2n h6
  rw [zc_tooWarm Tn Y hY h6, hl, zo_hotA _ ha, b1]
  rcases zm_tw M hM h6 with ⟨c1, c2⟩ | ⟨w, c1, c2, c3, c4⟩
  · refine Or.inl ⟨?_, c2⟩
    have : b = 0 := by
      apply Nat.eq_of_testBit_eq
      intro i
      rw [Nat.zero_testBit]
      by_cases hi : i < n
      · rw [b3 i hi]; simp [c1 i hi]
      · exact Nat.testBit_lt_two_pow (Nat.lt_of_lt_of_le b2 (Nat.pow_le_pow_right (by decide) (by omega)))
    subst this
    rfl
  · refine Or.inr ⟨nI b, w, rfl, ?_, c1, ?_, c4⟩
    · intro q
      have hb := (nI_eq (a := b) (b := 0) (by omega) (by decide)).mp q
      have := b3 w c1
      rw [hb, Nat.zero_testBit] at this
      simp [c2] at this
    · refine zo_least b (by omega) w (by omega) (by rw [b3 w c1]; simp [c2]) (fun j hj => by rw [b3 j (by omega)]; simp [c3 j hj])
theorem zl_t1 {n : Nat} {Pr M Tn : Ob} {q : Ob} {sh mi h : Int32} (h6 : n ≤ 6) (b : zp_ag n (Pr 1) (M 9)) (t1 : Tn 0 0 = h) (t2 : Tn 0 1 = sh) (t3 : Tn 0 2 = mi) (t4 : ∀ j, j < 6 → Tn 1 j = Pr 1 j) (hq : q 1 = M 9) : zt n q sh mi h 0 Tn := by
  refine ⟨by rw [t1, show nI 0 = (0 : Int32) from rfl]; simp, t2, t3, fun j hj => ?_⟩
  rw [t4 j (by omega), b j hj, zj, hq]
theorem zo_first {Xm : Ob} {tr : Int64} {Tx Pr Sg Im0 Im1 Yt M : Ob} {mt : Int64} (h : zr Xm tr Tx Pr Sg Im0 Im1 Yt M mt) (Ah Tn : Ob) (x : Int32) : ∃ r Tn' M', F_X7_first Pr Yt Ah Tn x = some (r, Tn') ∧ F_X8_first M x = some (r, M') ∧ zr Xm tr Tx Pr Sg Im0 Im1 Yt M' mt := by
  obtain ⟨n, a, b, c, d, e, f⟩ := id h
  obtain ⟨⟨a1, a2, a3, a4⟩, -⟩ := id a
  obtain ⟨hy, hx⟩ := zQ_y a
  have key : ∀ (k i : Nat), i + k = 51 → ∀ f f', k < f → k < f' → ∀ Tn M1, zf M M1 → zt n (zQ M) (M 0 19) (M 0 20) (M 0 18) i Tn → zp_ag n (M1 12) (zj n (zQ M) (M 0 19) (M 0 20) (M 0 18) i) → ∃ r Tn' M', F_X7_first_22 Pr Yt Ah f Tn x (nI i) = some (r, Tn') ∧ F_X8_first_18 f' M1 x (nI i) = some (r, M') ∧ zf M M' := by
    intro k
    induction k with
    | zero =>
      intro i hi f f' hf hf' Tn M1 g1 g2 g3
      obtain ⟨f, rfl⟩ := zp_f1 hf
      obtain ⟨f', rfl⟩ := zp_f1 hf'
      have : i = 51 := by omega
      subst this
      rw [F_X7_first_22_n, F_X8_first_18_n]; unfold F_X7_first_22_s F_X8_first_18_s
      rw [if_pos (by decide), if_pos (by decide)]
      exact ⟨_, _, _, rfl, rfl, g1⟩
    | succ k ih =>
      intro i hi f f' hf hf' Tn M1 g1 g2 g3
      obtain ⟨f, rfl⟩ := zp_f1 hf
      obtain ⟨f', rfl⟩ := zp_f1 hf'
      have hx1 := zf_x g1 hx
      have n50 : ¬ (50 : Int32) < nI i := fun q => by have := (nI_ltI (a := 50) (b := i) (by decide) (by omega)).mp q; omega
      rw [F_X7_first_22_n, F_X8_first_18_n]; unfold F_X7_first_22_s F_X8_first_18_s
      rw [if_neg n50, if_neg n50]
      rcases zl_hot (Y := Yt) (Tn := Tn) (M := M1) a1 hx1.1 a3 (by rw [a4, g1.1]) (fun j hj => by rw [g2.2.2.2 j hj, g3 j hj]) with ⟨q1, q2⟩ | ⟨bb, w, q1, q2, q3, q4, q5⟩
      · rw [q1, q2, zp_bd, zp_bd, if_pos rfl, if_pos rfl]
        obtain ⟨T2, u0, u1⟩ := zl_goOn Ah hy (show 1 < 1000 by decide) g2
        obtain ⟨dd, M2, v0, v1, v2, -⟩ := zl_m hx1 g3
        rw [show F_X0_goOn Ah Tn Yt 1 = _ from u0, zp_bd, g1.1, v0, zp_b2]
        simp only [zp_let]
        rw [zp_1]
        exact ih (i + 1) (by omega) f f' (by omega) (by omega) T2 M2 (zf_t g1 v2) u1 v1
      · rw [q1, q5, zp_bd, zp_bd, if_neg q2, if_neg (show ¬ nI w = -9 from fun q => by have h1 := nI_toInt (n := w) (by omega); rw [q] at h1; have : (-9 : Int32).toInt = -9 := rfl; omega)]
        unfold F_X7_first_47 F_X8_first_35
        by_cases hx0 : x = 0
        · rw [if_pos hx0, if_pos hx0]; exact ⟨_, _, _, rfl, rfl, g1⟩
        · rw [if_neg hx0, if_neg hx0, q4, zp_bd]; exact ⟨_, _, _, rfl, rfl, g1⟩
  unfold F_X7_first F_X8_first
  rcases zq_bit x with ⟨j, hj, rfl, e3, e4⟩ | ⟨e3, e4⟩
  · rw [e3, show (F_X8_in (nI j).toInt64 0 1) = _ from e4, zp_bd, zp_bd, zp_i1, zp_i1]
    obtain ⟨T1, t0, t1, t2, t3, t4⟩ := zl_set Ah Tn Pr
    obtain ⟨M1, m0, m1, m2, -⟩ := zl_begins M a2 a3
    rw [t0, m0, zp_bd, zp_bd]
    obtain ⟨r, Tn', M', k1, k2, k3⟩ := key 51 0 rfl 1000 1000 (by omega) (by omega) T1 M1 m2 (zl_t0 a3 b t1 t2 t3 t4 rfl) m1
    exact ⟨r, Tn', M', k1, k2, zf_zr h k3⟩
  · rw [e3, show (F_X8_in x.toInt64 0 1) = _ from e4, zp_bd, zp_bd, zp_i0, zp_i0]; exact ⟨_, _, _, rfl, rfl, h⟩
