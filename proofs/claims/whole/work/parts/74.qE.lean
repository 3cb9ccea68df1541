/-! ===== PURE 31: the reference takes what it read ===== -/
theorem zm_takes (M : Ob) {n : Nat} (h6 : n ≤ 6) (hM : M 0 6 = nI n) : ∃ M', F_X8_takes M = some M' ∧ M' 0 10 = nI n ∧ M' 0 11 = (if 0 ≤ M 0 7 then (10 : Int32) * M 0 7 + 9 else 99) ∧ (∀ w, w < n → M' 4 w = M 2 w ∧ M' 5 w = M 2 (6 + w) ∧ M' 6 w = M 2 (12 + w) ∧ M' 7 w = M 2 (18 + w) ∧ M' 9 w = M 2 w) ∧ (∀ j, j < 36 → M' 8 j = M 3 j) ∧ M' 0 18 = 0 ∧ M' 0 19 = 0 ∧ M' 0 20 = 0 ∧ M' 0 21 = 0 ∧ M' 0 24 = 0 ∧ M' 0 27 = 0 ∧ M' 17 0 = -1 ∧ M' 17 21 = -1 := by
  have l8 := fun Q => zp_cpl0 (N := 36) (b := 0) (c := 8) (S := fun P => P 3) (fun P g => zp_rn P g (by decide)) (K := fun P => F_X8_takes_145 P) (F := F_X8_takes_121)
    (fun f P => by rw [F_X8_takes_121_n]; unfold F_X8_takes_121_s; rw [if_pos (by decide)])
    (fun f P i hi => by rw [F_X8_takes_121_n]; unfold F_X8_takes_121_s; simp only [zp_let]; rw [if_neg (zp_g36 hi), zp_ck hi (by decide), zp_ck hi (by decide), nI_clamp (by omega), zp_1, Nat.zero_add]) Q (f := 1000) (by decide)
  have key : ∀ (k i : Nat), i + k = n → ∀ f, k < f → ∀ Q : Ob, Q 0 10 = nI n → Q 2 = M 2 → Q 3 = M 3 → (∀ w, w < i → Q 4 w = M 2 w ∧ Q 5 w = M 2 (6 + w) ∧ Q 6 w = M 2 (12 + w) ∧ Q 7 w = M 2 (18 + w) ∧ Q 9 w = M 2 w) → ∃ M', F_X8_takes_36 f Q (nI i) = some M' ∧ M' 0 10 = nI n ∧ M' 0 11 = Q 0 11 ∧ (∀ w, w < n → M' 4 w = M 2 w ∧ M' 5 w = M 2 (6 + w) ∧ M' 6 w = M 2 (12 + w) ∧ M' 7 w = M 2 (18 + w) ∧ M' 9 w = M 2 w) ∧ (∀ j, j < 36 → M' 8 j = M 3 j) ∧ M' 0 18 = 0 ∧ M' 0 19 = 0 ∧ M' 0 20 = 0 ∧ M' 0 21 = 0 ∧ M' 0 24 = 0 ∧ M' 0 27 = 0 ∧ M' 17 0 = -1 ∧ M' 17 21 = -1 := by
    intro k
    induction k with
    | zero =>
      intro i hi f hf Q q0 q2 q3 q4
      obtain ⟨f, rfl⟩ := zp_f1 hf
      have : i = n := by omega
      subst this
      rw [F_X8_takes_36_n]; unfold F_X8_takes_36_s F_X8_takes_119
      rw [q0, if_pos (nI_le (Nat.le_refl _) (by omega)), l8]
      unfold F_X8_takes_145
      simp only [zp_let]
      rw [show (0 : Int32) = nI 0 from rfl, zp_ck (show 0 < 42 by decide) (by decide), show (21 : Int32) = nI 21 from rfl, zp_ck (show 21 < 42 by decide) (by decide), nI_clamp (by decide), nI_clamp (by decide)]
      refine ⟨_, rfl, ?_, ?_, ?_, ?_, ?_, ?_, ?_, ?_, ?_, ?_, ?_, ?_⟩
      · simp [zp_uD, zp_rD, zp_upR, q0]
      · simp [zp_uD, zp_rD, zp_upR]
      · intro w hw; simpa [zp_uD, zp_rD] using q4 w hw
      · intro j hj
        have := zp_fbi (b := 0) (f := Q 3) (g := Q 8) hj
        rw [Nat.zero_add, q3] at this
        simp [zp_uD, zp_rD, q3, this]
      all_goals simp [zp_uD, zp_rD, zp_upR]
      all_goals rfl
    | succ k ih =>
      intro i hi f hf Q q0 q2 q3 q4
      obtain ⟨f, rfl⟩ := zp_f1 hf
      have c6 : ∀ {α : Type} (y : Option α), zs_ck (nI i) 6 y = y := fun y => zp_ck (by omega) (by decide)
      have e0 : (nI i).toNatClampNeg = i := nI_clamp (by omega)
      have e6 : (nI (6 + i)).toNatClampNeg = 6 + i := nI_clamp (by omega)
      have e12 : (nI (12 + i)).toNatClampNeg = 12 + i := nI_clamp (by omega)
      have e18 : (nI (18 + i)).toNatClampNeg = 18 + i := nI_clamp (by omega)
      have k24 : ∀ {α : Type} (j : Nat) (y : Option α), j < 24 → zs_ck (nI j) 24 y = y := fun j y h => zp_ck h (by decide)
      rw [F_X8_takes_36_n]; unfold F_X8_takes_36_s
      rw [q0, if_neg (nI_ge (by omega) (by omega)), show (6 : Int32) + nI i = nI (6 + i) from nI_add 6 i, show (12 : Int32) + nI i = nI (12 + i) from nI_add 12 i, show (18 : Int32) + nI i = nI (18 + i) from nI_add 18 i]
      simp only [zp_let, c6, e0, e6, e12, e18, k24 i _ (by omega), k24 (6 + i) _ (by omega), k24 (12 + i) _ (by omega), k24 (18 + i) _ (by omega), zp_1]
      have hm := ih (i + 1) (by omega) f (by omega) (zs_up (zs_up (zs_up (zs_up (zs_up Q 4 i (M 2 i)) 5 i (M 2 (6 + i))) 6 i (M 2 (12 + i))) 7 i (M 2 (18 + i))) 9 i (M 2 i)) (by simp [zp_uD, q0]) (by simp [zp_uD, q2]) (by simp [zp_uD, q3]) (fun w hw => by
        by_cases e : w = i
        · subst e; simp [zp_uD, zp_upR]
        · have := q4 w (by omega); simpa [zp_uD, zp_upR, e] using this)
      have ea : (zs_up (zs_up (zs_up (zs_up (zs_up Q 4 i (M 2 i)) 5 i (M 2 (6 + i))) 6 i (M 2 (12 + i))) 7 i (M 2 (18 + i))) 9 i (M 2 i)) 0 11 = Q 0 11 := by simp [zp_uD]
      rw [ea] at hm
      have r2 : ∀ (P : Ob) c v, c ≠ 2 → (zs_up P c i v) 2 = P 2 := fun P c v hc => by simp [zp_uD, Ne.symm hc]
      simp only [r2 _ 4 _ (by decide), r2 _ 5 _ (by decide), r2 _ 6 _ (by decide), r2 _ 7 _ (by decide), q2]
      have r4 : (zs_up (zs_up (zs_up (zs_up Q 4 i (M 2 i)) 5 i (M 2 (6 + i))) 6 i (M 2 (12 + i))) 7 i (M 2 (18 + i))) 4 i = M 2 i := by simp [zp_uD, zp_upR]
      rw [r4]
      exact hm
  unfold F_X8_takes F_X8_takes_31
  simp only [zp_let]
  rw [zp_u4 _ _ (show (7 : Nat) ≠ 10 by decide), hM]
  have fin : ∀ v, ∃ M', F_X8_takes_36 1000 (zs_up (zs_up M 0 10 (nI n)) 0 11 v) 0 = some M' ∧ M' 0 10 = nI n ∧ M' 0 11 = v ∧ (∀ w, w < n → M' 4 w = M 2 w ∧ M' 5 w = M 2 (6 + w) ∧ M' 6 w = M 2 (12 + w) ∧ M' 7 w = M 2 (18 + w) ∧ M' 9 w = M 2 w) ∧ (∀ j, j < 36 → M' 8 j = M 3 j) ∧ M' 0 18 = 0 ∧ M' 0 19 = 0 ∧ M' 0 20 = 0 ∧ M' 0 21 = 0 ∧ M' 0 24 = 0 ∧ M' 0 27 = 0 ∧ M' 17 0 = -1 ∧ M' 17 21 = -1 := by
    intro v
    have := key n 0 (by omega) 1000 (by omega) (zs_up (zs_up M 0 10 (nI n)) 0 11 v) (by simp [zp_uD, zp_upR]) (by simp [zp_uD]) (by simp [zp_uD]) (fun w hw => absurd hw (by omega))
    rw [show (zs_up (zs_up M 0 10 (nI n)) 0 11 v) 0 11 = v from zp_u3 _ _ _] at this
    exact this
  by_cases q : 0 ≤ M 0 7
  · rw [if_pos q, if_pos q]; exact fin _
  · rw [if_neg q, if_neg q]; exact fin _
