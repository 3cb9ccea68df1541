/-! ===== PURE 5: what a number may be ===== -/
theorem zq_cmplt (a b : Int64) : (lg_cmp a b < 0) ↔ a < b := by
  unfold lg_cmp
  by_cases h1 : a > b
  · rw [if_pos h1]
    have : ¬ a < b := fun h => by rw [Int64.lt_iff_toInt_lt] at h; have := Int64.lt_iff_toInt_lt.mp h1; omega
    simp [this]
  · rw [if_neg h1]
    by_cases h2 : a = b
    · rw [if_pos h2]; subst h2; simp [h1]
    · rw [if_neg h2]
      have : a < b := by
        rw [Int64.lt_iff_toInt_lt]
        have h3 : ¬ b.toInt < a.toInt := fun h => h1 (Int64.lt_iff_toInt_lt.mpr h)
        have h4 : a.toInt ≠ b.toInt := fun h => h2 (Int64.toInt_inj.mp h)
        omega
      simp [this]
theorem zq_cmpgt (a b : Int64) : (0 < lg_cmp a b) ↔ b < a := by
  unfold lg_cmp
  by_cases h1 : a > b
  · rw [if_pos h1]; simp [show b < a from h1]
  · rw [if_neg h1]
    have h3 : ¬ b < a := h1
    by_cases h2 : a = b
    · rw [if_pos h2]; simp [h3]
    · rw [if_neg h2]; simp [h3]
theorem zq_in (a lo hi : Int32) : F_X8_in a.toInt64 lo.toInt64 hi.toInt64 = some (if lo ≤ a ∧ a ≤ hi then 1 else 0) := by
  have w : ∀ x y : Int32, x.toInt64 < y.toInt64 ↔ x.toInt < y.toInt := fun x y => by rw [Int64.lt_iff_toInt_lt, Int32.toInt_toInt64, Int32.toInt_toInt64]
  unfold F_X8_in
  simp only [zq_cmplt, zq_cmpgt, w, Int32.le_iff_toInt_le]
  by_cases h1 : a.toInt < lo.toInt
  · rw [if_pos h1, if_neg (by omega)]
  · rw [if_neg h1]
    by_cases h2 : hi.toInt < a.toInt
    · rw [if_pos h2, if_neg (by omega)]
    · rw [if_neg h2, if_pos (by omega)]
theorem zq_nIle (u : Int32) {n : Nat} (hn : n < 2 ^ 31) (h0 : 0 ≤ u) (h1 : u ≤ nI n) : ∃ k, k ≤ n ∧ u = nI k := by
  obtain ⟨j, hj, rfl⟩ := nI_of (x := u) (fun h => by rw [Int32.lt_iff_toInt_lt] at h; rw [Int32.le_iff_toInt_le] at h0; have : (0 : Int32).toInt = 0 := rfl; omega)
  exact ⟨j, (nI_leI hj hn).mp h1, rfl⟩
/-- a number 0 .. N, on both sides -/
theorem zq_rng (u : Int32) {N : Nat} (hN : N < 2 ^ 31) : (∃ k, k ≤ N ∧ u = nI k ∧ F_X7_isWithin u (nI N) = some 1 ∧ F_X8_in u.toInt64 (nI 0).toInt64 (nI N).toInt64 = some 1) ∨ (F_X7_isWithin u (nI N) = some 0 ∧ F_X8_in u.toInt64 (nI 0).toInt64 (nI N).toInt64 = some 0) := by
  rw [zq_in]
  unfold F_X7_isWithin
  by_cases h0 : u < 0
  · refine Or.inr ⟨by rw [if_pos h0], ?_⟩
    rw [if_neg]
    rintro ⟨h, -⟩
    rw [Int32.lt_iff_toInt_lt] at h0; rw [Int32.le_iff_toInt_le] at h
    have e1 : (0 : Int32).toInt = 0 := rfl
    have e2 : (nI 0).toInt = 0 := rfl
    omega
  · rw [if_neg h0]
    by_cases h1 : nI N < u
    · refine Or.inr ⟨by rw [if_pos h1], ?_⟩
      rw [if_neg]
      rintro ⟨-, h⟩
      rw [Int32.lt_iff_toInt_lt] at h1; rw [Int32.le_iff_toInt_le] at h
      omega
    · obtain ⟨j, hj, rfl⟩ := nI_of h0
      have hjN : j ≤ N := by
        rcases Nat.lt_or_ge N j with q | q
        · exact absurd (nI_lt q hj) h1
        · exact q
      refine Or.inl ⟨j, hjN, rfl, by rw [if_neg h1], ?_⟩
      rw [if_pos ⟨nI_le (Nat.zero_le _) hj, nI_le hjN hN⟩]
/-- a truth value, on both sides -/
theorem zq_bit (u : Int32) : (∃ k, k ≤ 1 ∧ u = nI k ∧ F_X7_isBit u = some 1 ∧ F_X8_in u.toInt64 (nI 0).toInt64 (nI 1).toInt64 = some 1) ∨ (F_X7_isBit u = some 0 ∧ F_X8_in u.toInt64 (nI 0).toInt64 (nI 1).toInt64 = some 0) := by
  rcases zq_rng u (N := 1) (by decide) with ⟨k, hk, rfl, -, h⟩ | ⟨h1, h2⟩
  · refine Or.inl ⟨k, hk, rfl, ?_, h⟩
    unfold F_X7_isBit F_X7_isBit_9
    rcases (show k = 0 ∨ k = 1 by omega) with rfl | rfl <;> rfl
  · refine Or.inr ⟨?_, h2⟩
    unfold F_X7_isWithin at h1
    unfold F_X7_isBit F_X7_isBit_9
    by_cases e0 : u = 0
    · subst e0; exact absurd h1 (by decide)
    · by_cases e1 : u = 1
      · subst e1; exact absurd h1 (by decide)
      · rw [if_neg e0, if_neg e1]
/-- one of two images, on both sides -/
theorem zq_img (u : Int32) : (∃ k, k ≤ 1 ∧ u = nI k ∧ F_X7_isImage u = some 1 ∧ F_X8_in u.toInt64 (nI 0).toInt64 (nI 1).toInt64 = some 1) ∨ (F_X7_isImage u = some 0 ∧ F_X8_in u.toInt64 (nI 0).toInt64 (nI 1).toInt64 = some 0) := by
  rcases zq_rng u (N := 1) (by decide) with ⟨k, hk, rfl, -, h⟩ | ⟨h1, h2⟩
  · refine Or.inl ⟨k, hk, rfl, ?_, h⟩
    unfold F_X7_isImage
    rcases (show k = 0 ∨ k = 1 by omega) with rfl | rfl <;> rfl
  · refine Or.inr ⟨?_, h2⟩
    unfold F_X7_isWithin at h1
    unfold F_X7_isImage
    by_cases e0 : u < 0
    · rw [if_pos e0]
    · rw [if_neg e0] at h1 ⊢
      by_cases e1 : nI 1 < u
      · rw [if_pos]
        rw [Int32.lt_iff_toInt_lt] at e1; rw [Int32.le_iff_toInt_le]
        have a1 : (nI 1).toInt = 1 := rfl
        have a2 : (2 : Int32).toInt = 2 := rfl
        omega
      · rw [if_neg e1] at h1; exact absurd h1 (by decide)
/-- a wall, on both sides -/
theorem zq_wall {Y M : Ob} {n : Nat} (hY : Y 0 0 = nI n) (hM : M 0 10 = nI n) (h6 : n ≤ 6) (u : Int32) : (∃ w, w < n ∧ u = nI w ∧ F_X7_isWall Y u = some 1 ∧ F_X8_isWall M u = some 1) ∨ (F_X7_isWall Y u = some 0 ∧ F_X8_isWall M u = some 0) := by
  have e : F_X8_isWall M u = some (if 0 ≤ u ∧ u ≤ nI n - 1 then 1 else 0) := by
    unfold F_X8_isWall
    rw [hM, show (0 : Int64) = (0 : Int32).toInt64 from rfl, zq_in, zp_bd, zp_bl (by split <;> simp)]
  rw [e]
  unfold F_X7_isWall
  rw [hY]
  have a1 : (0 : Int32).toInt = 0 := rfl
  have a2 : (nI n).toInt = n := nI_toInt (by omega)
  have a3 : (nI n - 1).toInt = (n : Int) - 1 := pk_sub_toInt (a := n) (b := 1) (by omega) (by decide)
  by_cases h0 : u < 0
  · refine Or.inr ⟨by rw [if_pos h0], ?_⟩
    rw [if_neg]
    rintro ⟨h, -⟩
    rw [Int32.lt_iff_toInt_lt] at h0; rw [Int32.le_iff_toInt_le] at h
    omega
  · obtain ⟨j, hj, rfl⟩ := nI_of h0
    rw [if_neg h0]
    have a4 : (nI j).toInt = j := nI_toInt hj
    by_cases h1 : nI n ≤ nI j
    · refine Or.inr ⟨by rw [if_pos h1], ?_⟩
      rw [if_neg]
      rintro ⟨-, h⟩
      rw [Int32.le_iff_toInt_le] at h h1
      omega
    · refine Or.inl ⟨j, ?_, rfl, by rw [if_neg h1], ?_⟩
      · rw [Int32.le_iff_toInt_le] at h1; omega
      · rw [if_pos]
        simp only [Int32.le_iff_toInt_le] at h1 ⊢
        omega
