/-! ===== PURE 24: numbers, the other tokens ===== -/
def zn_s (t : Nat → Nat) (b : Nat) : Nat → Nat
  | 0 => 0
  | 1 => t b - 48
  | _ + 2 => 10 * (t b - 48) + (t (b + 1) - 48)
theorem zb_asc : ∀ c, c < 128 → zb_s c = nI c := by decide +kernel
theorem zn_step {s d : Nat} (hd : 48 ≤ d) : (10 : Int32) * nI s + nI d - 48 = nI (10 * s + (d - 48)) := by
  rw [show (10 : Int32) = nI 10 from rfl, pk_mul, nI_add, show (48 : Int32) = nI 48 from rfl, pk_sub (by omega), show 10 * s + d - 48 = 10 * s + (d - 48) by omega]
def zn_S (t : Nat → Nat) (b c : Nat) : Nat := if 2 < c ∨ (1 < c ∧ t b = 48) then 4 else 2
theorem zc_num {z : Nat} {t : Nat → Nat} {Tx : Ob} (h : zwc z t Tx) (Tk : Ob) {b : Nat} (hb : b ≤ z) : F_X5_cutNumber Tk Tx (nI b) = F_X5_cutNumber_56 Tx Tk (nI b) (nI (zw_to zw_D t z b)) (nI (zw_to zw_D t z b - b)) (nI (zn_s t b (zw_to zw_D t z b - b))) := by
  obtain ⟨g0, g1, g2⟩ := id h
  have key : ∀ (k c : Nat), b + c + k = z → ∀ f, k < f → F_X5_cutNumber_8 Tx f Tk (nI b) (nI (b + c)) (nI c) (nI (zn_s t b c)) = F_X5_cutNumber_56 Tx Tk (nI b) (nI (zw_to zw_D t z (b + c))) (nI (zw_to zw_D t z (b + c) - b)) (nI (zn_s t b (zw_to zw_D t z (b + c) - b))) := by
    intro k
    induction k with
    | zero =>
      intro c hc f hf
      obtain ⟨f, rfl⟩ := zp_f1 hf
      rw [F_X5_cutNumber_8_n]; unfold F_X5_cutNumber_8_s
      rw [g1, if_pos (nI_le (by omega) (by omega)), zw_to0 (by omega), show b + c - b = c by omega]
    | succ k ih =>
      intro c hc f hf
      obtain ⟨f, rfl⟩ := zp_f1 hf
      obtain ⟨b1, b2⟩ := g2 (b + c) (by omega)
      have h1 := ih (c + 1) (by omega) f (by omega)
      rw [← Nat.add_assoc] at h1
      rw [F_X5_cutNumber_8_n]; unfold F_X5_cutNumber_8_s F_X5_cutNumber_50; simp only [zp_let]
      rw [g1, if_neg (nI_ge (by omega) (by omega)), zc_dig h (by omega), zp_bd, zp_1, zp_1]
      by_cases q : zw_D (t (b + c)) = true
      · have hd : 48 ≤ t (b + c) ∧ t (b + c) ≤ 57 := by unfold zw_D at q; simpa using q
        rw [if_pos (show b + c < z ∧ zw_D (t (b + c)) = true from ⟨by omega, q⟩), zp_i1, zw_to1 (by omega) q, ← h1]
        by_cases q2 : c < 2
        · rw [if_neg (show ¬ (2 : Int32) < nI (c + 1) from fun k => by have := (nI_ltI (a := 2) (b := c + 1) (by decide) (by omega)).mp k; omega), zp_ck (by omega) (by decide), nI_clamp (by omega), b2, zb_asc _ (by omega), zn_step hd.1]
          rcases (show c = 0 ∨ c = 1 by omega) with rfl | rfl
          · simp only [zn_s, Nat.add_zero, Nat.zero_add, Nat.mul_zero]
          · simp only [zn_s]
        · rw [if_pos (show (2 : Int32) < nI (c + 1) from (nI_ltI (a := 2) (b := c + 1) (by decide) (by omega)).mpr (by omega))]
          obtain ⟨c', rfl⟩ : ∃ k, c = k + 2 := ⟨c - 2, by omega⟩
          rfl
      · rw [if_neg (show ¬ (b + c < z ∧ zw_D (t (b + c)) = true) from fun k => q k.2), zp_i0, zw_to0 (fun k => q k.2), show b + c - b = c by omega]
  unfold F_X5_cutNumber
  have := key (z - b) 0 (by omega) 1000 (by omega)
  rw [Nat.add_zero] at this
  exact this
theorem zm_num {z : Nat} {t : Nat → Nat} {M : Ob} (h : zwm z t M) {b : Nat} (hb : b ≤ z) (h3 : M 0 3 = nI b) (h2 : M 0 2 = nI b) : ∃ y, F_X8_readNumber M = F_X8_readNumber_69 (zs_up M 0 2 (nI (zw_to zw_D t z b))) (nI y) ∧ y ≤ 999 ∧ (zw_to zw_D t z b - b ≤ 2 → y = zn_s t b (zw_to zw_D t z b - b)) ∧ (2 < zw_to zw_D t z b - b → t b = 48 ∨ 99 < y) := by
  obtain ⟨g0, g1, g2⟩ := h
  have key : ∀ (k c : Nat), b + c + k = z → ∀ f, k < f → ∀ y, y ≤ 999 → (c ≤ 2 → y = zn_s t b c) → (2 < c → t b = 48 ∨ 99 < y) → (∀ j, j < c → 48 ≤ t (b + j) ∧ t (b + j) ≤ 57) → ∃ y', F_X8_readNumber_2 f (zs_up M 0 2 (nI (b + c))) (nI y) = F_X8_readNumber_69 (zs_up M 0 2 (nI (zw_to zw_D t z (b + c)))) (nI y') ∧ y' ≤ 999 ∧ (zw_to zw_D t z (b + c) - b ≤ 2 → y' = zn_s t b (zw_to zw_D t z (b + c) - b)) ∧ (2 < zw_to zw_D t z (b + c) - b → t b = 48 ∨ 99 < y') := by
    intro k
    induction k with
    | zero =>
      intro c hc f hf y y1 y2 y3 y4
      obtain ⟨f, rfl⟩ := zp_f1 hf
      rw [F_X8_readNumber_2_n]; unfold F_X8_readNumber_2_s
      rw [zp_u3, zp_u4 _ _ (by decide), g1, if_pos (nI_le (by omega) (by omega)), zw_to0 (by omega), show b + c - b = c by omega]
      exact ⟨y, rfl, y1, y2, y3⟩
    | succ k ih =>
      intro c hc f hf y y1 y2 y3 y4
      obtain ⟨f, rfl⟩ := zp_f1 hf
      obtain ⟨b1, b2⟩ := g2 (b + c) (by omega)
      rw [F_X8_readNumber_2_n]; unfold F_X8_readNumber_2_s F_X8_readNumber_55; simp only [zp_let]
      rw [zp_u3, zp_u4 _ _ (by decide), zp_u5 _ _ (by decide), g1, if_neg (nI_ge (by omega) (by omega)), zp_ck (by omega) (by decide), zp_ck (by omega) (by decide), nI_clamp (by omega), b2, zm_dig _ b1, zp_bd, zp_1, zp_u2]
      by_cases q : zw_D (t (b + c)) = true
      · have hd : 48 ≤ t (b + c) ∧ t (b + c) ≤ 57 := by unfold zw_D at q; simpa using q
        have y4' : ∀ j, j < c + 1 → 48 ≤ t (b + j) ∧ t (b + j) ≤ 57 := fun j hj => by
          rcases (show j = c ∨ j < c by omega) with e | e
          · rw [e]; exact hd
          · exact y4 j e
        rw [if_pos q, zp_i1, zw_to1 (by omega) q, zn_step hd.1]
        have b0 := y4' 0 (by omega)
        rw [Nat.add_zero] at b0
        by_cases q2 : y ≤ 99
        · rw [if_pos (show nI y ≤ (99 : Int32) from nI_le (a := y) (b := 99) q2 (by decide))]
          refine ih (c + 1) (by omega) f (by omega) (10 * y + (t (b + c) - 48)) (by omega) (fun hc2 => ?_) (fun hc2 => ?_) y4'
          · rcases (show c = 0 ∨ c = 1 by omega) with rfl | rfl
            · rw [y2 (by omega)]; simp only [zn_s, Nat.add_zero, Nat.mul_zero, Nat.zero_add]
            · rw [y2 (by omega)]; simp only [zn_s]
          · by_cases hc3 : c = 2
            · subst hc3
              have := y2 (by omega)
              simp only [zn_s] at this
              omega
            · have := y3 (by omega)
              omega
        · rw [if_neg (show ¬ nI y ≤ (99 : Int32) from nI_ge (a := 99) (b := y) (by omega) (by omega))]
          refine ih (c + 1) (by omega) f (by omega) y y1 (fun hc2 => ?_) (fun hc2 => Or.inr (by omega)) y4'
          exfalso
          have hy := y2 (by omega)
          rcases (show c = 0 ∨ c = 1 by omega) with rfl | rfl
          · simp only [zn_s] at hy; omega
          · simp only [zn_s] at hy; omega
      · rw [if_neg q, zp_i0, zw_to0 (fun k => q k.2), show b + c - b = c by omega]
        exact ⟨y, rfl, y1, y2, y3⟩
  have h0 := key (z - b) 0 (by omega) 1000 (by omega) 0 (by omega) (fun _ => rfl) (fun h => absurd h (by omega)) (fun j hj => absurd hj (by omega))
  rw [Nat.add_zero, zp_u1 M 2 h2] at h0
  exact h0
theorem zw_Tnum {z : Nat} {t : Nat → Nat} (hz : z ≤ 250) {b : Nat} (hb : b < z) (hl : zw_L (t b) = false) (hd : zw_D (t b) = true) : ∃ e S V W, zw_T z t b e S V W := by
  obtain ⟨s1, s2, s3, s4⟩ := zw_sp (p := zw_D) (t := t) (z := z) (i := b) (by omega)
  have s5 : b < zw_to zw_D t z b := by
    rw [zw_to1 hb hd]
    have := (zw_sp (p := zw_D) (t := t) (z := z) (i := b + 1) (by omega)).1
    omega
  have s3' : ∀ j, b ≤ j → j < zw_to zw_D t z b → 48 ≤ t j ∧ t j ≤ 57 := fun j h1 h2 => by
    have := s3 j h1 h2
    unfold zw_D at this; simpa using this
  have hv : ∀ c, c ≤ zw_to zw_D t z b - b → c ≤ 2 → zn_s t b c ≤ 99 := by
    intro c hc h2
    rcases (show c = 0 ∨ c = 1 ∨ c = 2 by omega) with rfl | rfl | rfl
    · simp only [zn_s]; omega
    · have := s3' b (by omega) s5
      simp only [zn_s]; omega
    · have h0 := s3' b (by omega) s5
      have h1 := s3' (b + 1) (by omega) (by omega)
      simp only [zn_s]; omega
  refine ⟨zw_to zw_D t z b, zn_S t b (zw_to zw_D t z b - b), zn_s t b (zw_to zw_D t z b - b), zn_s t b (zw_to zw_D t z b - b), s5, s2, by unfold zn_S; split <;> omega, by unfold zn_S; split <;> omega, fun q => ?_, fun q => ?_, fun Tk Tx hx => ?_, fun M hM h2 => ?_⟩
  · unfold zn_S at q
    split at q <;> exact absurd q (by decide)
  · refine ⟨rfl, hv _ (Nat.le_refl _) ?_⟩
    unfold zn_S at q
    split at q
    · exact absurd q (by decide)
    · omega
  · unfold F_X5_cutOne
    rw [zc_let hx (by omega), zp_bd, if_neg (show ¬ (b < z ∧ zw_L (t b) = true) from fun k => by rw [hl] at k; exact absurd k.2 (by decide)), zp_i0, zc_dig hx (by omega), zp_bd, if_pos (show b < z ∧ zw_D (t b) = true from ⟨hb, hd⟩), zp_i1, zc_num hx Tk (by omega)]
    generalize zw_to zw_D t z b = e at *
    obtain ⟨b1, b2⟩ := hx.2.2 b hb
    unfold F_X5_cutNumber_56 F_X5_cutNumber_77 F_X5_cutNumber_78 F_X5_cutNumber_93 F_X5_cutNumber_98
    have fin : ∀ S, zs_b2 (zs_bd (F_X5_add Tk (nI b) S (nI (zn_s t b (e - b)))) fun Tkw1 => some (nI e, Tkw1)) (fun r13 Tkw14 => some (r13, Tkw14)) = zs_bd (F_X5_add Tk (nI b) S (nI (zn_s t b (e - b)))) fun T => some (nI e, T) := by
      intro S
      cases F_X5_add Tk (nI b) S (nI (zn_s t b (e - b))) with
      | none => rfl
      | some T => rfl
    by_cases c1 : e - b ≤ 1
    · rw [if_pos (show nI (e - b) ≤ (1 : Int32) from nI_le (a := e - b) (b := 1) c1 (by decide)), if_neg (show ¬ (2 : Int32) < nI (e - b) from fun k => by have := (nI_ltI (a := 2) (b := e - b) (by decide) (by omega)).mp k; omega), zp_i0, show zn_S t b (e - b) = 2 from by unfold zn_S; rw [if_neg (by omega)]]
      exact fin (nI 2)
    · rw [if_neg (show ¬ nI (e - b) ≤ (1 : Int32) from nI_ge (a := 1) (b := e - b) (by omega) (by omega)), zp_ck (by omega) (by decide), nI_clamp (by omega), b2]
      by_cases c2 : 2 < e - b
      · rw [if_pos (show (2 : Int32) < nI (e - b) from (nI_ltI (a := 2) (b := e - b) (by decide) (by omega)).mpr c2), if_pos (show (2 : Int32) < nI (e - b) from (nI_ltI (a := 2) (b := e - b) (by decide) (by omega)).mpr c2), show zn_S t b (e - b) = 4 from by unfold zn_S; rw [if_pos (Or.inl c2)], ite_self]
        exact fin (nI 4)
      · have n2 : ¬ (2 : Int32) < nI (e - b) := fun k => by have := (nI_ltI (a := 2) (b := e - b) (by decide) (by omega)).mp k; omega
        by_cases c3 : t b = 48
        · rw [if_pos ((zb_bl _ b1).2.2.2.2.1.mpr c3), if_neg n2, zp_i1, show zn_S t b (e - b) = 4 from by unfold zn_S; rw [if_pos (Or.inr ⟨by omega, c3⟩)]]
          exact fin (nI 4)
        · rw [if_neg (fun k => c3 ((zb_bl _ b1).2.2.2.2.1.mp k)), if_neg n2, zp_i0, show zn_S t b (e - b) = 2 from by unfold zn_S; rw [if_neg (by omega)]]
          exact fin (nI 2)
  · obtain ⟨m0, m1, m2⟩ := id hM
    obtain ⟨b1, b2⟩ := m2 b hb
    unfold F_X8_reads_38; simp only [zp_let]
    have hM2 : zwm z t (zs_up M 0 3 (M 0 2)) := ⟨m0, by rw [zp_u4 _ _ (by decide), m1], fun i hi => by rw [zp_u5 _ _ (by decide)]; exact m2 i hi⟩
    rw [zp_u4 _ _ (by decide), zp_u4 _ _ (by decide), zp_u5 _ _ (by decide), h2, m1, if_neg (fun k => by have := (nI_eq (a := b) (b := z) (by omega) (by omega)).mp k; omega), zp_ck (by omega) (by decide), nI_clamp (by omega), b2, zm_let _ b1, zp_bd, if_neg (show ¬ zw_L (t b) = true from by rw [hl]; decide), zp_i0, zp_ck (by omega) (by decide), zm_dig _ b1, zp_bd, if_pos hd, zp_i1]
    rw [h2] at hM2
    obtain ⟨y, n1, n2, n3, n4⟩ := zm_num hM2 (b := b) (by omega) (zp_u3 _ _ _) (by rw [zp_u4 _ _ (by decide), h2])
    rw [n1]
    generalize zw_to zw_D t z b = e at *
    have fin : ∀ S : Int32, ∃ M', zs_bd (F_X8_readNumber_108 (zs_up (zs_up M 0 3 (nI b)) 0 2 (nI e)) (nI y) S) (fun Mdw20 => some Mdw20) = some M' ∧ M' 0 2 = nI e ∧ M' 0 3 = nI b ∧ M' 0 4 = S ∧ M' 0 5 = nI y ∧ (∀ k, k ≠ 2 → k ≠ 3 → k ≠ 4 → k ≠ 5 → M' 0 k = M 0 k) ∧ (∀ c, c ≠ 0 → M' c = M c) := by
      intro S
      unfold F_X8_readNumber_108; simp only [zp_let]
      rw [zp_bd]
      refine ⟨_, rfl, ?_, ?_, ?_, ?_, ?_, ?_⟩
      · simp [zp_uD, zp_upR]
      · simp [zp_uD, zp_upR]
      · simp [zp_uD, zp_upR]
      · simp [zp_uD, zp_upR]
      · intro k k2 k3 k4 k5; simp [zp_uD, zp_upR, k2, k3, k4, k5]
      · intro c hc; simp [zp_uD, hc]
    unfold F_X8_readNumber_69 F_X8_readNumber_103 F_X8_readNumber_107
    rw [zp_u3, zp_u4 _ _ (by decide), zp_u3, zp_u5 _ _ (by decide), zp_u5 _ _ (by decide), pk_sub (by omega), zp_ck (by omega) (by decide), nI_clamp (by omega), b2]
    by_cases c2 : 2 < e - b
    · have hS : zn_S t b (e - b) = 4 := by unfold zn_S; rw [if_pos (Or.inl c2)]
      rw [hS]
      obtain ⟨M', f1, f2, f3, f4, f5, f6, f7⟩ := fin 4
      refine ⟨M', ?_, fun _ => f2, f3, f4, fun k => by omega, f6, f7⟩
      rw [← f1]
      by_cases q : 99 < y
      · rw [if_pos (show (99 : Int32) < nI y from (nI_ltI (a := 99) (b := y) (by decide) (by omega)).mpr q)]
      · rw [if_neg (show ¬ (99 : Int32) < nI y from fun k => q ((nI_ltI (a := 99) (b := y) (by decide) (by omega)).mp k)), if_neg (show ¬ nI (e - b) ≤ (1 : Int32) from nI_ge (a := 1) (b := e - b) (by omega) (by omega)), if_pos ((zb_bl _ b1).2.2.2.2.2.mpr (by have := n4 c2; omega))]
    · have hy := n3 (by omega)
      have hy99 := hv (e - b) (Nat.le_refl _) (by omega)
      rw [if_neg (show ¬ (99 : Int32) < nI y from fun k => by have := (nI_ltI (a := 99) (b := y) (by decide) (by omega)).mp k; omega)]
      by_cases c1 : e - b ≤ 1
      · have hS : zn_S t b (e - b) = 2 := by unfold zn_S; rw [if_neg (by omega)]
        rw [hS, if_pos (show nI (e - b) ≤ (1 : Int32) from nI_le (a := e - b) (b := 1) c1 (by decide))]
        obtain ⟨M', f1, f2, f3, f4, f5, f6, f7⟩ := fin 2
        exact ⟨M', f1, fun _ => f2, f3, f4, fun _ => by rw [f5, hy], f6, f7⟩
      · rw [if_neg (show ¬ nI (e - b) ≤ (1 : Int32) from nI_ge (a := 1) (b := e - b) (by omega) (by omega))]
        by_cases c3 : t b = 48
        · have hS : zn_S t b (e - b) = 4 := by unfold zn_S; rw [if_pos (Or.inr ⟨by omega, c3⟩)]
          rw [hS, if_pos ((zb_bl _ b1).2.2.2.2.2.mpr c3)]
          obtain ⟨M', f1, f2, f3, f4, f5, f6, f7⟩ := fin 4
          exact ⟨M', f1, fun _ => f2, f3, f4, fun k => by omega, f6, f7⟩
        · have hS : zn_S t b (e - b) = 2 := by unfold zn_S; rw [if_neg (by omega)]
          rw [hS, if_neg (fun k => c3 ((zb_bl _ b1).2.2.2.2.2.mp k))]
          obtain ⟨M', f1, f2, f3, f4, f5, f6, f7⟩ := fin 2
          exact ⟨M', f1, fun _ => f2, f3, f4, fun _ => by rw [f5, hy], f6, f7⟩
