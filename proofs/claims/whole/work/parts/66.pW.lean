/-! ===== PURE 23: a token ===== -/
theorem zq_cmp0 (a b : Int64) : (lg_cmp a b = 0) ↔ a = b := by
  unfold lg_cmp
  by_cases h1 : a > b
  · rw [if_pos h1]
    constructor
    · intro h; exact absurd h (by decide)
    · intro h; subst h; exact absurd h1 (by rw [gt_iff_lt, Int64.lt_iff_toInt_lt]; omega)
  · rw [if_neg h1]
    by_cases h2 : a = b
    · rw [if_pos h2]; simp [h2]
    · rw [if_neg h2]; simp [h2]
theorem zw_is0 (t : Nat → Nat) (b e : Nat) : zw_is t b e 0 ↔ e = b + 4 ∧ t b = 119 ∧ t (b + 1) = 97 ∧ t (b + 2) = 108 ∧ t (b + 3) = 108 :=
  ⟨fun h => ⟨h.1, h.2 0 (by decide), h.2 1 (by decide), h.2 2 (by decide), h.2 3 (by decide)⟩, fun h => ⟨h.1, fun i hi => by
    have hi : i < 4 := hi
    rcases (show i = 0 ∨ i = 1 ∨ i = 2 ∨ i = 3 by omega) with rfl | rfl | rfl | rfl
    · exact h.2.1
    · exact h.2.2.1
    · exact h.2.2.2.1
    · exact h.2.2.2.2⟩⟩
theorem zw_is1 (t : Nat → Nat) (b e : Nat) : zw_is t b e 1 ↔ e = b + 4 ∧ t b = 115 ∧ t (b + 1) = 101 ∧ t (b + 2) = 101 ∧ t (b + 3) = 115 :=
  ⟨fun h => ⟨h.1, h.2 0 (by decide), h.2 1 (by decide), h.2 2 (by decide), h.2 3 (by decide)⟩, fun h => ⟨h.1, fun i hi => by
    have hi : i < 4 := hi
    rcases (show i = 0 ∨ i = 1 ∨ i = 2 ∨ i = 3 by omega) with rfl | rfl | rfl | rfl
    · exact h.2.1
    · exact h.2.2.1
    · exact h.2.2.2.1
    · exact h.2.2.2.2⟩⟩
theorem zw_is2 (t : Nat → Nat) (b e : Nat) : zw_is t b e 2 ↔ e = b + 4 ∧ t b = 119 ∧ t (b + 1) = 111 ∧ t (b + 2) = 114 ∧ t (b + 3) = 107 :=
  ⟨fun h => ⟨h.1, h.2 0 (by decide), h.2 1 (by decide), h.2 2 (by decide), h.2 3 (by decide)⟩, fun h => ⟨h.1, fun i hi => by
    have hi : i < 4 := hi
    rcases (show i = 0 ∨ i = 1 ∨ i = 2 ∨ i = 3 by omega) with rfl | rfl | rfl | rfl
    · exact h.2.1
    · exact h.2.2.1
    · exact h.2.2.2.1
    · exact h.2.2.2.2⟩⟩
theorem zw_is3 (t : Nat → Nat) (b e : Nat) : zw_is t b e 3 ↔ e = b + 5 ∧ t b = 108 ∧ t (b + 1) = 105 ∧ t (b + 2) = 109 ∧ t (b + 3) = 105 ∧ t (b + 4) = 116 :=
  ⟨fun h => ⟨h.1, h.2 0 (by decide), h.2 1 (by decide), h.2 2 (by decide), h.2 3 (by decide), h.2 4 (by decide)⟩, fun h => ⟨h.1, fun i hi => by
    have hi : i < 5 := hi
    rcases (show i = 0 ∨ i = 1 ∨ i = 2 ∨ i = 3 ∨ i = 4 by omega) with rfl | rfl | rfl | rfl | rfl
    · exact h.2.1
    · exact h.2.2.1
    · exact h.2.2.2.1
    · exact h.2.2.2.2.1
    · exact h.2.2.2.2.2⟩⟩
def zw_v (t : Nat → Nat) (b : Nat) : Nat → Nat
  | 0 => 0
  | c + 1 => zw_v t b c * 256 + t (b + c)
def zw_x (t : Nat → Nat) (b : Nat) : Nat → Int64
  | 0 => 0
  | c + 1 => if c ≤ 6 then zw_x t b c * 256 + (nI (t (b + c))).toInt64 else -1
theorem zw_xv {t : Nat → Nat} {b : Nat} : ∀ c, c ≤ 7 → (∀ j, j < c → t (b + j) < 256) → zw_x t b c = lN (zw_v t b c) := by
  intro c
  induction c with
  | zero => intro _ _; rfl
  | succ c ih =>
    intro h7 hb
    have := hb c (by omega)
    rw [zw_x, zw_v, if_pos (by omega), ih (by omega) (fun j hj => hb j (by omega)), nI_l (by omega), show (256 : Int64) = lN 256 from rfl, lN_mul, lN_add]
theorem zw_x8 {t : Nat → Nat} {b : Nat} {c : Nat} (h : 8 ≤ c) : zw_x t b c = -1 := by
  obtain ⟨c, rfl⟩ : ∃ k, c = k + 1 := ⟨c - 1, by omega⟩
  rw [zw_x, if_neg (by omega)]
set_option maxRecDepth 100000 in
theorem zw_word {t : Nat → Nat} {b c : Nat} (h1 : 1 ≤ c) (h7 : c ≤ 7) (hb : ∀ j, j < c → 97 ≤ t (b + j) ∧ t (b + j) ≤ 122) : zw_v t b c < 2 ^ 63 ∧ (zw_v t b c = 2002873452 ↔ zw_is t b (b + c) 0) ∧ (zw_v t b c = 1936024947 ↔ zw_is t b (b + c) 1) ∧ (zw_v t b c = 2003792491 ↔ zw_is t b (b + c) 2) ∧ (zw_v t b c = 465625246068 ↔ zw_is t b (b + c) 3) := by
  rw [zw_is0, zw_is1, zw_is2, zw_is3]
  have b0 := hb 0
  have b1 := hb 1
  have b2 := hb 2
  have b3 := hb 3
  have b4 := hb 4
  have b5 := hb 5
  have b6 := hb 6
  rw [Nat.add_zero] at b0
  rcases (show c = 1 ∨ c = 2 ∨ c = 3 ∨ c = 4 ∨ c = 5 ∨ c = 6 ∨ c = 7 by omega) with rfl | rfl | rfl | rfl | rfl | rfl | rfl
  all_goals (try replace b0 := b0 (by decide))
  all_goals (try replace b1 := b1 (by decide))
  all_goals (try replace b2 := b2 (by decide))
  all_goals (try replace b3 := b3 (by decide))
  all_goals (try replace b4 := b4 (by decide))
  all_goals (try replace b5 := b5 (by decide))
  all_goals (try replace b6 := b6 (by decide))
  all_goals simp only [zw_v, Nat.add_zero]
  all_goals refine ⟨by omega, ⟨fun h => ?_, fun h => by omega⟩, ⟨fun h => ?_, fun h => by omega⟩, ⟨fun h => ?_, fun h => by omega⟩, ⟨fun h => ?_, fun h => by omega⟩⟩
  all_goals first | exact False.elim h | exact absurd h (by decide) | exact ⟨by first | trivial | omega, by omega, by omega, by omega, by omega⟩ | exact ⟨by first | trivial | omega, by omega, by omega, by omega, by omega, by omega⟩ | omega
theorem zw_cmp {t : Nat → Nat} {b c : Nat} (h1 : 1 ≤ c) (hb : ∀ j, j < c → 97 ≤ t (b + j) ∧ t (b + j) ≤ 122) : (lg_cmp (zw_x t b c) 2002873452 = 0 ↔ zw_is t b (b + c) 0) ∧ (lg_cmp (zw_x t b c) 1936024947 = 0 ↔ zw_is t b (b + c) 1) ∧ (lg_cmp (zw_x t b c) 2003792491 = 0 ↔ zw_is t b (b + c) 2) ∧ (lg_cmp (zw_x t b c) 465625246068 = 0 ↔ zw_is t b (b + c) 3) := by
  rw [zq_cmp0, zq_cmp0, zq_cmp0, zq_cmp0]
  by_cases h : c ≤ 7
  · obtain ⟨a0, a1, a2, a3, a4⟩ := zw_word h1 h hb
    rw [zw_xv c h (fun j hj => by have := hb j hj; omega), ← a1, ← a2, ← a3, ← a4]
    exact ⟨pk_lEQ (b := 2002873452) a0 (by decide), pk_lEQ (b := 1936024947) a0 (by decide), pk_lEQ (b := 2003792491) a0 (by decide), pk_lEQ (b := 465625246068) a0 (by decide)⟩
  · rw [zw_x8 (by omega), zw_is0, zw_is1, zw_is2, zw_is3]
    refine ⟨⟨fun h => absurd h (by decide), fun h => by omega⟩, ⟨fun h => absurd h (by decide), fun h => by omega⟩, ⟨fun h => absurd h (by decide), fun h => by omega⟩, ⟨fun h => absurd h (by decide), fun h => by omega⟩⟩
/-- what a token does on both sides -/
def zw_T (z : Nat) (t : Nat → Nat) (b e S V W : Nat) : Prop := b < e ∧ e ≤ z ∧ 1 ≤ S ∧ S ≤ 4 ∧ (S = 1 → 1 ≤ V ∧ V ≤ 4 ∧ W + 1 = V) ∧ (S = 2 → V = W ∧ V ≤ 99) ∧
  (∀ Tk Tx, zwc z t Tx → F_X5_cutOne Tk Tx (nI b) = zs_bd (F_X5_add Tk (nI b) (nI S) (nI V)) (fun T => some (nI e, T))) ∧
  (∀ M, zwm z t M → M 0 2 = nI b → ∃ M', F_X8_reads_38 M = some M' ∧ (S ≠ 4 → M' 0 2 = nI e) ∧ M' 0 3 = nI b ∧ M' 0 4 = nI S ∧ ((S = 1 ∨ S = 2) → M' 0 5 = nI W) ∧ (∀ k, k ≠ 2 → k ≠ 3 → k ≠ 4 → k ≠ 5 → M' 0 k = M 0 k) ∧ (∀ c, c ≠ 0 → M' c = M c))
theorem zm_word {z : Nat} {t : Nat → Nat} {M : Ob} (h : zwm z t M) {b : Nat} (hb : b ≤ z) (h3 : M 0 3 = nI b) (h2 : M 0 2 = nI b) : F_X8_readWord M = F_X8_readWord_78 (zs_up M 0 2 (nI (zw_to zw_L t z b))) (zw_x t b (zw_to zw_L t z b - b)) := by
  obtain ⟨g0, g1, g2⟩ := h
  have key : ∀ (k c : Nat), b + c + k = z → ∀ f, k < f → F_X8_readWord_2 f (zs_up M 0 2 (nI (b + c))) (zw_x t b c) = F_X8_readWord_78 (zs_up M 0 2 (nI (zw_to zw_L t z (b + c)))) (zw_x t b (zw_to zw_L t z (b + c) - b)) := by
    intro k
    induction k with
    | zero =>
      intro c hc f hf
      obtain ⟨f, rfl⟩ := zp_f1 hf
      rw [F_X8_readWord_2_n]; unfold F_X8_readWord_2_s
      rw [zp_u3, zp_u4 _ _ (by decide), g1, if_pos (nI_le (by omega) (by omega)), zw_to0 (by omega), show b + c - b = c by omega]
    | succ k ih =>
      intro c hc f hf
      obtain ⟨f, rfl⟩ := zp_f1 hf
      obtain ⟨b1, b2⟩ := g2 (b + c) (by omega)
      have h1 := ih (c + 1) (by omega) f (by omega)
      rw [← Nat.add_assoc] at h1
      rw [F_X8_readWord_2_n]; unfold F_X8_readWord_2_s F_X8_readWord_64; simp only [zp_let]
      rw [zp_u3, zp_u4 _ _ (by decide), zp_u4 _ _ (by decide), zp_u5 _ _ (by decide), g1, h3, if_neg (nI_ge (by omega) (by omega)), zp_ck (by omega) (by decide), zp_ck (by omega) (by decide), nI_clamp (by omega), b2, zm_let _ b1, zp_bd, zp_1, zp_u2]
      by_cases q : zw_L (t (b + c)) = true
      · rw [if_pos q, zp_i1, zw_to1 (by omega) q, ← h1, zw_x, pk_sub (by omega), show b + c - b = c by omega]
        by_cases h6 : c ≤ 6
        · rw [if_pos h6, if_pos (show nI c ≤ (6 : Int32) from nI_le (a := c) (b := 6) h6 (by decide))]
        · rw [if_neg h6, if_neg (show ¬ nI c ≤ (6 : Int32) from nI_ge (a := 6) (b := c) (by omega) (by omega))]
      · rw [if_neg q, zp_i0, zw_to0 (fun k => q k.2), show b + c - b = c by omega]
  have h0 := key (z - b) 0 (by omega) 1000 (by omega)
  rw [Nat.add_zero, zp_u1 M 2 h2] at h0
  exact h0
theorem zc_word {z : Nat} {t : Nat → Nat} {Tx : Ob} (h : zwc z t Tx) (Tk : Ob) {b : Nat} (hb : b ≤ z) : F_X5_cutWord Tk Tx (nI b) = F_X5_cutWord_24 Tx Tk (nI b) (nI (zw_to zw_L t z b)) := by
  have key : ∀ (k i : Nat), i + k = z → ∀ f, k < f → F_X5_cutWord_2 Tx f Tk (nI b) (nI i) = F_X5_cutWord_24 Tx Tk (nI b) (nI (zw_to zw_L t z i)) := by
    intro k
    induction k with
    | zero =>
      intro i hi f hf
      obtain ⟨f, rfl⟩ := zp_f1 hf
      rw [F_X5_cutWord_2_n]; unfold F_X5_cutWord_2_s
      rw [h.2.1, if_pos (nI_le (by omega) (by have := h.1; omega)), zw_to0 (by omega)]
    | succ k ih =>
      intro i hi f hf
      obtain ⟨f, rfl⟩ := zp_f1 hf
      have := h.1
      rw [F_X5_cutWord_2_n]; unfold F_X5_cutWord_2_s; simp only [zp_let]
      rw [h.2.1, if_neg (nI_ge (by omega) (by omega)), zc_let h (by omega), zp_bd, zp_1]
      by_cases q : zw_L (t i) = true
      · rw [if_pos (show i < z ∧ zw_L (t i) = true from ⟨by omega, q⟩), zp_i1, zw_to1 (by omega) q]
        exact ih (i + 1) (by omega) f (by omega)
      · rw [if_neg (show ¬ (i < z ∧ zw_L (t i) = true) from fun k => q k.2), zp_i0, zw_to0 (fun k => q k.2)]
  have := h.1
  unfold F_X5_cutWord
  exact key (z - b) b (by omega) 1000 (by omega)
theorem zw_Tword {z : Nat} {t : Nat → Nat} (hz : z ≤ 250) {b : Nat} (hb : b < z) (hl : zw_L (t b) = true) : ∃ e S V W, zw_T z t b e S V W := by
  obtain ⟨s1, s2, s3, s4⟩ := zw_sp (p := zw_L) (t := t) (z := z) (i := b) (by omega)
  have s5 : b < zw_to zw_L t z b := by
    rw [zw_to1 hb hl]
    have := (zw_sp (p := zw_L) (t := t) (z := z) (i := b + 1) (by omega)).1
    omega
  generalize he : zw_to zw_L t z b = e at *
  have hbb : ∀ j, j < e - b → 97 ≤ t (b + j) ∧ t (b + j) ≤ 122 := fun j hj => by
    have := s3 (b + j) (by omega) (by omega)
    unfold zw_L at this
    simpa using this
  obtain ⟨c0, c1, c2, c3⟩ := zw_cmp (show 1 ≤ e - b by omega) hbb
  rw [show b + (e - b) = e by omega] at c0 c1 c2 c3
  have fin : ∀ w, w ≤ 4 → (∀ Tk Tx, zwc z t Tx → F_X5_whichWord Tk Tx (nI b) (nI e) = some (nI w)) → (∀ M, F_X8_readWord_78 M (zw_x t b (e - b)) = F_X8_readWord_129 M (if w = 0 then -9 else nI (w - 1))) → zw_T z t b e (if w = 0 then 4 else 1) w (w - 1) := by
    intro w hw g1 g2
    refine ⟨s5, s2, by split <;> omega, by split <;> omega, fun q => ?_, fun q => ?_, fun Tk Tx hx => ?_, fun M hM h2 => ?_⟩
    · by_cases q2 : w = 0
      · rw [if_pos q2] at q; exact absurd q (by decide)
      · omega
    · by_cases q2 : w = 0
      · rw [if_pos q2] at q; exact absurd q (by decide)
      · rw [if_neg q2] at q; exact absurd q (by decide)
    · unfold F_X5_cutOne
      rw [zc_let hx (by omega), zp_bd, if_pos (show b < z ∧ zw_L (t b) = true from ⟨hb, hl⟩), zp_i1, zc_word hx Tk (by omega), he]
      unfold F_X5_cutWord_24 F_X5_cutWord_45
      rw [g1 Tk Tx hx, zp_bd]
      by_cases q : w = 0
      · subst q
        rw [if_pos (show nI 0 = (0 : Int32) from rfl), if_pos rfl]
        show zs_b2 (zs_bd (F_X5_add Tk (nI b) (nI 4) (nI 0)) _) _ = _
        cases F_X5_add Tk (nI b) (nI 4) (nI 0) with
        | none => rfl
        | some T => rfl
      · rw [if_neg (show ¬ nI w = (0 : Int32) from fun k => q ((nI_eq (a := w) (b := 0) (by omega) (by decide)).mp k)), if_neg q]
        show zs_b2 (zs_bd (F_X5_add Tk (nI b) (nI 1) (nI w)) _) _ = _
        cases F_X5_add Tk (nI b) (nI 1) (nI w) with
        | none => rfl
        | some T => rfl
    · obtain ⟨m0, m1, m2⟩ := id hM
      obtain ⟨b1, b2⟩ := m2 b hb
      unfold F_X8_reads_38; simp only [zp_let]
      have hM2 : zwm z t (zs_up M 0 3 (M 0 2)) := ⟨m0, by rw [zp_u4 _ _ (by decide), m1], fun i hi => by rw [zp_u5 _ _ (by decide)]; exact m2 i hi⟩
      rw [zp_u4 _ _ (by decide), zp_u4 _ _ (by decide), zp_u5 _ _ (by decide), h2, m1, if_neg (fun k => by have := (nI_eq (a := b) (b := z) (by omega) (by omega)).mp k; omega), zp_ck (by omega) (by decide), nI_clamp (by omega), b2, zm_let _ b1, zp_bd, if_pos hl, zp_i1]
      rw [h2] at hM2
      rw [zm_word hM2 (by omega) (zp_u3 _ _ _) (by rw [zp_u4 _ _ (by decide), h2]), he, g2]
      unfold F_X8_readWord_129 F_X8_readWord_147; simp only [zp_let]
      rw [zp_u3]
      by_cases q : w = 0
      · rw [if_pos q, if_pos rfl, zp_bd]
        refine ⟨_, rfl, ?_, ?_, ?_, ?_, ?_, ?_⟩
        · intro _; simp [zp_uD, zp_upR]
        · simp [zp_uD, zp_upR]
        · rw [zp_u3, if_pos q]; rfl
        · rw [if_pos q]; intro k; rcases k with k | k <;> exact absurd k (by decide)
        · intro k k2 k3 k4 k5; simp [zp_uD, zp_upR, k2, k3, k4, k5]
        · intro c hc; simp [zp_uD, hc]
      · rw [if_neg q, if_neg (zp_n9 (by omega)), zp_bd]
        refine ⟨_, rfl, ?_, ?_, ?_, ?_, ?_, ?_⟩
        · intro _; simp [zp_uD, zp_upR]
        · simp [zp_uD, zp_upR]
        · rw [zp_u3, if_neg q]; rfl
        · intro _; simp [zp_uD, zp_upR]
        · intro k k2 k3 k4 k5; simp [zp_uD, zp_upR, k2, k3, k4, k5]
        · intro c hc; simp [zp_uD, hc]
  have w0 : ∀ Tx, zwc z t Tx → ∀ k, k < 4 → (zw_is t b e k → F_X4_isWord Tx k (nI b) (nI e) = some 1) ∧ (¬ zw_is t b e k → F_X4_isWord Tx k (nI b) (nI e) = some 0) := by
    intro Tx hx k hk
    obtain ⟨r, r1, r2⟩ := zc_isWord hx (b := b) (e := e) (by omega) s2 hk
    rcases r2 with ⟨a1, a2⟩ | ⟨a1, a2⟩
    · exact ⟨fun _ => by rw [r1, a1], fun k => absurd a2 k⟩
    · exact ⟨fun k => absurd k a2, fun _ => by rw [r1, a1]⟩
  by_cases i0 : zw_is t b e 0
  · refine ⟨e, _, _, _, fin 1 (by decide) (fun Tk Tx hx => ?_) (fun M => ?_)⟩
    · unfold F_X5_whichWord
      rw [(w0 Tx hx 0 (by decide)).1 i0, zp_bd, zp_i1]; rfl
    · unfold F_X8_readWord_78
      rw [if_pos (c0.mpr i0)]; rfl
  · by_cases i1 : zw_is t b e 1
    · refine ⟨e, _, _, _, fin 2 (by decide) (fun Tk Tx hx => ?_) (fun M => ?_)⟩
      · unfold F_X5_whichWord
        rw [(w0 Tx hx 0 (by decide)).2 i0, zp_bd, zp_i0, (w0 Tx hx 1 (by decide)).1 i1, zp_bd, zp_i1]; rfl
      · unfold F_X8_readWord_78
        rw [if_neg (fun k => i0 (c0.mp k)), if_pos (c1.mpr i1)]; rfl
    · by_cases i2 : zw_is t b e 2
      · refine ⟨e, _, _, _, fin 3 (by decide) (fun Tk Tx hx => ?_) (fun M => ?_)⟩
        · unfold F_X5_whichWord
          rw [(w0 Tx hx 0 (by decide)).2 i0, zp_bd, zp_i0, (w0 Tx hx 1 (by decide)).2 i1, zp_bd, zp_i0, (w0 Tx hx 2 (by decide)).1 i2, zp_bd, zp_i1]; rfl
        · unfold F_X8_readWord_78
          rw [if_neg (fun k => i0 (c0.mp k)), if_neg (fun k => i1 (c1.mp k)), if_pos (c2.mpr i2)]; rfl
      · by_cases i3 : zw_is t b e 3
        · refine ⟨e, _, _, _, fin 4 (by decide) (fun Tk Tx hx => ?_) (fun M => ?_)⟩
          · unfold F_X5_whichWord
            rw [(w0 Tx hx 0 (by decide)).2 i0, zp_bd, zp_i0, (w0 Tx hx 1 (by decide)).2 i1, zp_bd, zp_i0, (w0 Tx hx 2 (by decide)).2 i2, zp_bd, zp_i0, (w0 Tx hx 3 (by decide)).1 i3, zp_bd, zp_i1]; rfl
          · unfold F_X8_readWord_78
            rw [if_neg (fun k => i0 (c0.mp k)), if_neg (fun k => i1 (c1.mp k)), if_neg (fun k => i2 (c2.mp k)), if_pos (c3.mpr i3)]; rfl
        · refine ⟨e, _, _, _, fin 0 (by decide) (fun Tk Tx hx => ?_) (fun M => ?_)⟩
          · unfold F_X5_whichWord
            rw [(w0 Tx hx 0 (by decide)).2 i0, zp_bd, zp_i0, (w0 Tx hx 1 (by decide)).2 i1, zp_bd, zp_i0, (w0 Tx hx 2 (by decide)).2 i2, zp_bd, zp_i0, (w0 Tx hx 3 (by decide)).2 i3, zp_bd, zp_i0]; rfl
          · unfold F_X8_readWord_78
            rw [if_neg (fun k => i0 (c0.mp k)), if_neg (fun k => i1 (c1.mp k)), if_neg (fun k => i2 (c2.mp k)), if_neg (fun k => i3 (c3.mp k))]; rfl
