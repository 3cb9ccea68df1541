/-! ===== PURE 22: runs of bytes ===== -/
def zw_L (b : Nat) : Bool := decide (97 ≤ b ∧ b ≤ 122)
def zw_D (b : Nat) : Bool := decide (48 ≤ b ∧ b ≤ 57)
def zw_B (b : Nat) : Bool := decide (b = 32)
def zw_run (p : Nat → Bool) (t : Nat → Nat) (z : Nat) : Nat → Nat → Nat
  | 0, i => i
  | k + 1, i => if i < z ∧ p (t i) = true then zw_run p t z k (i + 1) else i
def zw_to (p : Nat → Bool) (t : Nat → Nat) (z i : Nat) : Nat := zw_run p t z (z - i) i
theorem zw_to1 {p : Nat → Bool} {t : Nat → Nat} {z i : Nat} (h : i < z) (hp : p (t i) = true) : zw_to p t z i = zw_to p t z (i + 1) := by
  unfold zw_to
  rw [show z - i = (z - (i + 1)) + 1 by omega, zw_run, if_pos ⟨h, hp⟩]
theorem zw_to0 {p : Nat → Bool} {t : Nat → Nat} {z i : Nat} (h : ¬ (i < z ∧ p (t i) = true)) : zw_to p t z i = i := by
  unfold zw_to
  cases z - i with
  | zero => rfl
  | succ k => rw [zw_run, if_neg h]
theorem zw_spec (p : Nat → Bool) (t : Nat → Nat) (z : Nat) : ∀ (k i : Nat), i + k = z → i ≤ zw_to p t z i ∧ zw_to p t z i ≤ z ∧ (∀ j, i ≤ j → j < zw_to p t z i → p (t j) = true) ∧ (zw_to p t z i < z → p (t (zw_to p t z i)) = false) := by
  intro k
  induction k with
  | zero =>
    intro i hi
    rw [zw_to0 (by omega)]
    exact ⟨Nat.le_refl _, by omega, fun j h1 h2 => absurd h2 (by omega), fun h => absurd h (by omega)⟩
  | succ k ih =>
    intro i hi
    by_cases hp : p (t i) = true
    · rw [zw_to1 (by omega) hp]
      obtain ⟨a, b, c, d⟩ := ih (i + 1) (by omega)
      refine ⟨by omega, b, fun j h1 h2 => ?_, d⟩
      by_cases e : j = i
      · rw [e]; exact hp
      · exact c j (by omega) h2
    · rw [zw_to0 (fun h => hp h.2)]
      exact ⟨Nat.le_refl _, by omega, fun j h1 h2 => absurd h2 (by omega), fun _ => by simpa using hp⟩
theorem zw_sp {p : Nat → Bool} {t : Nat → Nat} {z i : Nat} (h : i ≤ z) : i ≤ zw_to p t z i ∧ zw_to p t z i ≤ z ∧ (∀ j, i ≤ j → j < zw_to p t z i → p (t j) = true) ∧ (zw_to p t z i < z → p (t (zw_to p t z i)) = false) := zw_spec p t z (z - i) i (by omega)
def zwc (z : Nat) (t : Nat → Nat) (Tx : Ob) : Prop := z ≤ 250 ∧ Tx 0 1 = nI z ∧ ∀ i, i < z → t i < 256 ∧ Tx 1 i = zb_s (t i)
def zwm (z : Nat) (t : Nat → Nat) (M : Ob) : Prop := z ≤ 250 ∧ M 0 1 = nI z ∧ ∀ i, i < z → t i < 256 ∧ M 1 i = nI (t i)
theorem zb_let : ∀ b, b < 256 → ((if zb_s b < (97 : Int32) then some (0 : Int32) else if (122 : Int32) < zb_s b then some (0 : Int32) else some (1 : Int32)) = some (if zw_L b = true then 1 else 0)) := by decide +kernel
theorem zb_dig : ∀ b, b < 256 → ((if zb_s b < (48 : Int32) then some (0 : Int32) else if (57 : Int32) < zb_s b then some (0 : Int32) else some (1 : Int32)) = some (if zw_D b = true then 1 else 0)) := by decide +kernel
theorem zb_bl : ∀ b, b < 256 → ((zb_s b = (32 : Int32)) ↔ zw_B b = true) ∧ ((nI b = (32 : Int32)) ↔ zw_B b = true) ∧ ((zb_s b = (59 : Int32)) ↔ b = 59) ∧ ((nI b = (59 : Int32)) ↔ b = 59) ∧ ((zb_s b = (48 : Int32)) ↔ b = 48) ∧ ((nI b = (48 : Int32)) ↔ b = 48) := by decide +kernel
theorem zm_let (b : Nat) (hb : b < 256) : F_X8_isLetter (nI b) = some (if zw_L b = true then 1 else 0) := by
  unfold F_X8_isLetter
  rw [show F_X8_in (nI b).toInt64 97 122 = some (if (97 : Int32) ≤ nI b ∧ nI b ≤ 122 then 1 else 0) from zq_in (nI b) 97 122, zp_bd, zp_bl (by split <;> simp)]
  unfold zw_L
  have e : ((97 : Int32) ≤ nI b ∧ nI b ≤ 122) ↔ (97 ≤ b ∧ b ≤ 122) := by
    rw [show (97 : Int32) = nI 97 from rfl, show (122 : Int32) = nI 122 from rfl, nI_leI (by decide) (by omega), nI_leI (by omega) (by decide)]
  by_cases h : 97 ≤ b ∧ b ≤ 122
  · rw [if_pos (e.mpr h), if_pos (by simpa using h)]
  · rw [if_neg (fun q => h (e.mp q)), if_neg (by simpa using h)]
theorem zm_dig (b : Nat) (hb : b < 256) : F_X8_isFigure (nI b) = some (if zw_D b = true then 1 else 0) := by
  unfold F_X8_isFigure
  rw [show F_X8_in (nI b).toInt64 48 57 = some (if (48 : Int32) ≤ nI b ∧ nI b ≤ 57 then 1 else 0) from zq_in (nI b) 48 57, zp_bd, zp_bl (by split <;> simp)]
  unfold zw_D
  have e : ((48 : Int32) ≤ nI b ∧ nI b ≤ 57) ↔ (48 ≤ b ∧ b ≤ 57) := by
    rw [show (48 : Int32) = nI 48 from rfl, show (57 : Int32) = nI 57 from rfl, nI_leI (by decide) (by omega), nI_leI (by omega) (by decide)]
  by_cases h : 48 ≤ b ∧ b ≤ 57
  · rw [if_pos (e.mpr h), if_pos (by simpa using h)]
  · rw [if_neg (fun q => h (e.mp q)), if_neg (by simpa using h)]
theorem zc_let {z : Nat} {t : Nat → Nat} {Tx : Ob} (h : zwc z t Tx) {i : Nat} (hi : i < 2 ^ 31) : F_X4_isLetter Tx (nI i) = some (if i < z ∧ zw_L (t i) = true then 1 else 0) := by
  obtain ⟨h0, h1, h2⟩ := h
  unfold F_X4_isLetter
  rw [h1]
  by_cases hz : i < z
  · obtain ⟨b1, b2⟩ := h2 i hz
    rw [if_neg (nI_ge hz (by omega)), zp_ck (by omega) (by decide), zp_ck (by omega) (by decide), nI_clamp hi, b2, zb_let _ b1]
    by_cases q : zw_L (t i) = true
    · rw [if_pos q, if_pos ⟨hz, q⟩]
    · rw [if_neg q, if_neg (fun k => q k.2)]
  · rw [if_pos (nI_le (by omega) hi), if_neg (fun k => hz k.1)]
theorem zc_dig {z : Nat} {t : Nat → Nat} {Tx : Ob} (h : zwc z t Tx) {i : Nat} (hi : i < 2 ^ 31) : F_X4_isDigit Tx (nI i) = some (if i < z ∧ zw_D (t i) = true then 1 else 0) := by
  obtain ⟨h0, h1, h2⟩ := h
  unfold F_X4_isDigit
  rw [h1]
  by_cases hz : i < z
  · obtain ⟨b1, b2⟩ := h2 i hz
    rw [if_neg (nI_ge hz (by omega)), zp_ck (by omega) (by decide), zp_ck (by omega) (by decide), nI_clamp hi, b2, zb_dig _ b1]
    by_cases q : zw_D (t i) = true
    · rw [if_pos q, if_pos ⟨hz, q⟩]
    · rw [if_neg q, if_neg (fun k => q k.2)]
  · rw [if_pos (nI_le (by omega) hi), if_neg (fun k => hz k.1)]
theorem zc_skip {z : Nat} {t : Nat → Nat} {Tx : Ob} (h : zwc z t Tx) (Tk : Ob) {i : Nat} (hi : i ≤ z) : F_X5_skipBlanks Tk Tx (nI i) = some (nI (zw_to zw_B t z i)) := by
  obtain ⟨h0, h1, h2⟩ := h
  have key : ∀ (k i : Nat), i + k = z → ∀ f, k < f → F_X5_skipBlanks_2 Tk Tx f (nI i) = some (nI (zw_to zw_B t z i)) := by
    intro k
    induction k with
    | zero =>
      intro i hi f hf
      obtain ⟨f, rfl⟩ := zp_f1 hf
      rw [F_X5_skipBlanks_2_n]; unfold F_X5_skipBlanks_2_s
      rw [h1, if_pos (nI_le (by omega) (by omega)), zw_to0 (by omega)]
    | succ k ih =>
      intro i hi f hf
      obtain ⟨f, rfl⟩ := zp_f1 hf
      obtain ⟨b1, b2⟩ := h2 i (by omega)
      rw [F_X5_skipBlanks_2_n]; unfold F_X5_skipBlanks_2_s; simp only [zp_let]
      rw [h1, if_neg (nI_ge (by omega) (by omega)), zp_ck (by omega) (by decide), nI_clamp (by omega), b2, zp_1]
      by_cases q : zw_B (t i) = true
      · rw [if_pos ((zb_bl _ b1).1.mpr q), zw_to1 (by omega) q]
        exact ih (i + 1) (by omega) f (by omega)
      · rw [if_neg (fun k => q ((zb_bl _ b1).1.mp k)), zw_to0 (fun k => q k.2)]
  exact key (z - i) i (by omega) 1000 (by omega)
theorem zp_u2 (P : Ob) (i : Nat) (v w : Int32) : zs_up (zs_up P 0 i v) 0 i w = zs_up P 0 i w := by
  rw [zp_up P, zp_ru, zp_uu, zp_up]
theorem zp_u1 (P : Ob) (i : Nat) {v : Int32} (h : P 0 i = v) : zs_up P 0 i v = P := by
  subst h; rw [zp_up, zp_ui, zp_id]
theorem zp_u3 (P : Ob) (i : Nat) (v : Int32) : (zs_up P 0 i v) 0 i = v := by simp [zp_uD, zp_upR]
theorem zp_u4 (P : Ob) {i j : Nat} (v : Int32) (h : j ≠ i) : (zs_up P 0 i v) 0 j = P 0 j := by simp [zp_uD, zp_upR, h]
theorem zp_u5 (P : Ob) {i c : Nat} (v : Int32) (h : c ≠ 0) : (zs_up P 0 i v) c = P c := by simp [zp_uD, h]
theorem zm_skip {z : Nat} {t : Nat → Nat} {M : Ob} (h : zwm z t M) {i : Nat} (hi : i ≤ z) (hM : M 0 2 = nI i) : F_X8_reads M = F_X8_reads_38 (zs_up M 0 2 (nI (zw_to zw_B t z i))) := by
  obtain ⟨h0, h1, h2⟩ := h
  have key : ∀ (k i : Nat), i + k = z → ∀ f, k < f → F_X8_reads_0 f (zs_up M 0 2 (nI i)) = F_X8_reads_38 (zs_up M 0 2 (nI (zw_to zw_B t z i))) := by
    intro k
    induction k with
    | zero =>
      intro i hi f hf
      obtain ⟨f, rfl⟩ := zp_f1 hf
      rw [F_X8_reads_0_n]; unfold F_X8_reads_0_s
      rw [zp_u3, zp_u4 _ _ (by decide), h1, if_pos (nI_le (by omega) (by omega)), zw_to0 (by omega)]
    | succ k ih =>
      intro i hi f hf
      obtain ⟨f, rfl⟩ := zp_f1 hf
      obtain ⟨b1, b2⟩ := h2 i (by omega)
      rw [F_X8_reads_0_n]; unfold F_X8_reads_0_s; simp only [zp_let]
      rw [zp_u3, zp_u4 _ _ (by decide), zp_u5 _ _ (by decide), h1, if_neg (nI_ge (by omega) (by omega)), zp_ck (by omega) (by decide), nI_clamp (by omega), b2, zp_1, zp_u2]
      by_cases q : zw_B (t i) = true
      · rw [if_pos ((zb_bl _ b1).2.1.mpr q), zw_to1 (by omega) q]
        exact ih (i + 1) (by omega) f (by omega)
      · rw [if_neg (fun k => q ((zb_bl _ b1).2.1.mp k)), zw_to0 (fun k => q k.2)]
  unfold F_X8_reads
  have := key (z - i) i (by omega) 1000 (by omega)
  rw [zp_u1 M 2 hM] at this
  exact this
/-! words -/
def zw_wb (k i : Nat) : Nat := (([[119, 97, 108, 108], [115, 101, 101, 115], [119, 111, 114, 107], [108, 105, 109, 105, 116]] : List (List Nat)).getD k []).getD i 0
theorem zw_wbc : ∀ k, k < 4 → ∀ i, i < zs_len k → zs_chr k (nI i) = nI (zw_wb k i) ∧ zw_wb k i < 128 := by decide +kernel
theorem zw_eqb : ∀ c, c < 256 → ∀ d, d < 128 → ((zb_s c = nI d) ↔ c = d) := by decide +kernel
theorem zw_len5 : ∀ k, k < 4 → zs_len k ≤ 5 ∧ 4 ≤ zs_len k := by decide
def zw_is (t : Nat → Nat) (b e k : Nat) : Prop := e = b + zs_len k ∧ ∀ i, i < zs_len k → t (b + i) = zw_wb k i
theorem zc_isWord {z : Nat} {t : Nat → Nat} {Tx : Ob} (h : zwc z t Tx) {b e : Nat} (hbe : b ≤ e) (hez : e ≤ z) {k : Nat} (hk : k < 4) : ∃ r, F_X4_isWord Tx k (nI b) (nI e) = some r ∧ ((r = 1 ∧ zw_is t b e k) ∨ (r = 0 ∧ ¬ zw_is t b e k)) := by
  obtain ⟨h0, h1, h2⟩ := h
  have l5 := zw_len5 k hk
  unfold F_X4_isWord
  rw [pk_sub hbe]
  by_cases hl : e - b = zs_len k
  · rw [if_pos (by rw [hl])]
    have key : ∀ (j i : Nat), i + j = zs_len k → ∀ f, j < f → (∀ i', i' < i → t (b + i') = zw_wb k i') → ∃ r, F_X4_isWord_15 Tx k f (nI b) (nI i) = some r ∧ ((r = 1 ∧ zw_is t b e k) ∨ (r = 0 ∧ ¬ zw_is t b e k)) := by
      intro j
      induction j with
      | zero =>
        intro i hi f hf hn
        obtain ⟨f, rfl⟩ := zp_f1 hf
        have : i = zs_len k := by omega
        rw [F_X4_isWord_15_n]; unfold F_X4_isWord_15_s
        rw [if_pos (nI_le (by omega) (by omega))]
        exact ⟨_, rfl, Or.inl ⟨rfl, by omega, fun i' hi' => hn i' (by omega)⟩⟩
      | succ j ih =>
        intro i hi f hf hn
        obtain ⟨f, rfl⟩ := zp_f1 hf
        obtain ⟨b1, b2⟩ := h2 (b + i) (by omega)
        obtain ⟨w1, w2⟩ := zw_wbc k hk i (by omega)
        rw [F_X4_isWord_15_n]; unfold F_X4_isWord_15_s zs_ch; simp only [zp_let]
        rw [if_neg (nI_ge (by omega) (by omega)), nI_add, zp_ck (by omega) (by decide), if_pos ⟨zp_nneg (by omega), (nI_ltI (by omega) (by omega)).mpr (by omega)⟩, nI_clamp (by omega), b2, w1, zp_1]
        by_cases q : t (b + i) = zw_wb k i
        · rw [if_pos ((zw_eqb _ b1 _ w2).mpr q)]
          refine ih (i + 1) (by omega) f (by omega) (fun i' hi' => ?_)
          rcases (show i' = i ∨ i' < i by omega) with e2 | e2
          · rw [e2]; exact q
          · exact hn i' e2
        · rw [if_neg (fun k2 => q ((zw_eqb _ b1 _ w2).mp k2))]
          exact ⟨_, rfl, Or.inr ⟨rfl, fun hall => q (hall.2 i (by omega))⟩⟩
    exact key (zs_len k) 0 (by omega) 1000 (by omega) (fun i' hi' => absurd hi' (by omega))
  · rw [if_neg (fun q => hl ((nI_eq (by omega) (by omega)).mp q))]
    exact ⟨_, rfl, Or.inr ⟨rfl, fun hall => hl (by have := hall.1; omega)⟩⟩
