/-! ===== PURE 6: how the class's states and the reference's belong together ===== -/
def zr_chg (n : Nat) (c e : Int32) : Prop := ∃ w, w < n ∧ ((c = nI w ∧ e = nI w) ∨ (c = nI (6 + w) ∧ e = nI (8 + w)))
def zr_B (n : Nat) (h : Int32) (wm : Nat → Int32) : Prop := ∃ (hh : Nat) (v : Nat → Nat), h = nI hh ∧ hh ≤ 999 ∧ (∀ w, w < n → wm w = nI (v w)) ∧ zp_sm v n ≤ 600 + 120 * hh
def zr_P (n : Nat) (h sh mi gv un : Int32) (wm ud : Nat → Int32) (P : Ob) : Prop :=
  (P 0 0 = h ∧ P 0 1 = sh ∧ P 0 2 = mi ∧ P 0 3 = gv ∧ P 0 4 = un) ∧ zp_ag n (P 1) wm ∧ (∃ a, sh = nI a ∧ a < 2 ^ n) ∧ (∃ a, mi = nI a ∧ a < 2 ^ n) ∧ (∃ u, un = nI u ∧ u ≤ 10 ∧ ∀ i, i < u → zr_chg n (P 3 i) (ud i)) ∧ zr_B n h wm
/-- what is told: the yard, and the reference's rows -/
def zr_Y (n : Nat) (Y M : Ob) : Prop :=
  (Y 0 0 = nI n ∧ M 0 10 = nI n ∧ n ≤ 6 ∧ Y 0 1 = M 0 11) ∧ (zp_ag n (Y 1) (M 4) ∧ zp_ag n (Y 2) (M 5) ∧ zp_ag n (Y 3) (M 6) ∧ zp_ag n (Y 4) (M 7) ∧ zp_ag 36 (Y 5) (M 8) ∧ zp_ag 6 (Y 7) (fun _ => 0)) ∧
  ∃ (v r k : Nat → Nat) (p : Nat → Nat → Nat), (∀ w, w < n → M 4 w = nI (v w) ∧ v w ≤ 99) ∧ (∀ w, w < n → M 5 w = nI (r w) ∧ r w ≤ 9) ∧ (∀ w, w < n → M 6 w = nI (k w) ∧ k w ≤ 20) ∧ (∀ i o, i < 6 → o < 6 → M 8 (6 * i + o) = nI (p i o)) ∧ (∀ i, i < 6 → zp_sm (p i) 6 ≤ 10) ∧ (∀ i, i < 6 → Y 6 i = nI (zp_sm (p i) 6)) ∧ (∃ c, M 0 11 = nI c ∧ c ≤ 999)
/-- the text -/
def zb_s (b : Nat) : Int32 := (nI b).toInt8.toInt32
def zr_T (Tx M : Ob) : Prop := ∃ (z : Nat) (t : Nat → Nat), z ≤ 250 ∧ Tx 0 1 = nI z ∧ M 0 1 = nI z ∧ ∀ i, i < z → t i < 256 ∧ Tx 1 i = zb_s (t i) ∧ M 1 i = nI (t i)
/-- what was seen -/
def zr_S (n : Nat) (Sg M : Ob) : Prop := ∃ k : Nat, k ≤ 8 ∧ Sg 0 0 = nI k ∧ M 0 27 = nI k ∧ ∀ i, i < k → ∃ h w : Nat, h ≤ 20 ∧ w < n ∧ Sg 1 i = nI h ∧ M 14 i = nI h ∧ Sg 2 i = nI w ∧ M 15 i = nI w ∧ Sg 3 i = M 16 i
/-- an image -/
def zr_J (n b : Nat) (kept : Int32) (Im M : Ob) : Prop :=
  (kept = 1 ∧ zr_P n (M 17 b) (M 17 (b + 1)) (M 17 (b + 2)) (M 17 (b + 3)) (M 17 (b + 4)) (fun w => M 17 (b + 5 + w)) (fun k => M 17 (b + 11 + k)) Im) ∨ (kept = 0 ∧ M 17 b = -1)
def zr_I (n : Nat) (Xm Im0 Im1 M : Ob) : Prop := (∃ a, Xm 0 8 = nI a ∧ a < 4) ∧ zr_J n 0 (zp_bt (Xm 0 8) 0) Im0 M ∧ zr_J n 21 (zp_bt (Xm 0 8) 1) Im1 M
def zr_N (n : Nat) (Pr M : Ob) : Prop := zr_P n (M 0 18) (M 0 19) (M 0 20) (M 0 21) (M 0 24) (M 9) (M 11) Pr
def zr (Xm : Ob) (tr : Int64) (Tx Pr Sg Im0 Im1 Yt M : Ob) (mt : Int64) : Prop := ∃ n, zr_Y n Yt M ∧ zr_N n Pr M ∧ zr_T Tx M ∧ zr_S n Sg M ∧ zr_I n Xm Im0 Im1 M ∧ tr = mt
/-! the parts look at some rows alone -/
theorem zr_Yc {n : Nat} {Y M M' : Ob} (h : zr_Y n Y M) (h1 : M' 0 10 = M 0 10) (h2 : M' 0 11 = M 0 11) (h4 : M' 4 = M 4) (h5 : M' 5 = M 5) (h6 : M' 6 = M 6) (h7 : M' 7 = M 7) (h8 : M' 8 = M 8) : zr_Y n Y M' := by
  unfold zr_Y at h ⊢; rw [h1, h2, h4, h5, h6, h7, h8]; exact h
theorem zr_Tc {Tx M M' : Ob} (h : zr_T Tx M) (h1 : M' 0 1 = M 0 1) (h2 : M' 1 = M 1) : zr_T Tx M' := by
  unfold zr_T at h ⊢; rw [h1, h2]; exact h
theorem zr_Sc {n : Nat} {Sg M M' : Ob} (h : zr_S n Sg M) (h1 : M' 0 27 = M 0 27) (h2 : M' 14 = M 14) (h3 : M' 15 = M 15) (h4 : M' 16 = M 16) : zr_S n Sg M' := by
  unfold zr_S at h ⊢; rw [h1, h2, h3, h4]; exact h
theorem zr_Ic {n : Nat} {Xm Im0 Im1 M M' : Ob} (h : zr_I n Xm Im0 Im1 M) (h1 : M' 17 = M 17) : zr_I n Xm Im0 Im1 M' := by
  unfold zr_I zr_J at h ⊢; rw [h1]; exact h
theorem zr_Nc {n : Nat} {Pr M M' : Ob} (h : zr_N n Pr M) (h1 : M' 0 18 = M 0 18) (h2 : M' 0 19 = M 0 19) (h3 : M' 0 20 = M 0 20) (h4 : M' 0 21 = M 0 21) (h5 : M' 0 24 = M 0 24) (h6 : zp_ag n (M' 9) (M 9)) (h7 : M' 11 = M 11) : zr_N n Pr M' := by
  unfold zr_N zr_P at h ⊢
  rw [h1, h2, h3, h4, h5, h7]
  obtain ⟨a, b, c, d, e, hh, v, f1, f2, f3, f4⟩ := h
  exact ⟨a, fun j hj => by rw [h6 j hj]; exact b j hj, c, d, e, hh, v, f1, f2, fun w hw => by rw [h6 w hw]; exact f3 w hw, f4⟩
/-- scratch rows of the reference: 10 (then), 12 (row), 13 (ahead), 2, 3 (what is read) and numbers 2 .. 7 -/
theorem zr_scr {Xm : Ob} {tr : Int64} {Tx Pr Sg Im0 Im1 Yt M M' : Ob} {mt : Int64} (h : zr Xm tr Tx Pr Sg Im0 Im1 Yt M mt) (h0 : ∀ k, k = 1 ∨ 10 ≤ k → M' 0 k = M 0 k) (hc : ∀ c, c ≠ 0 → c ≠ 10 → c ≠ 12 → c ≠ 13 → c ≠ 2 → c ≠ 3 → M' c = M c) : zr Xm tr Tx Pr Sg Im0 Im1 Yt M' mt := by
  obtain ⟨n, a, b, c, d, e, f⟩ := h
  have q : ∀ k, 10 ≤ k → M' 0 k = M 0 k := fun k hk => h0 k (Or.inr hk)
  refine ⟨n, zr_Yc a (q _ (by decide)) (q _ (by decide)) (hc _ (by decide) (by decide) (by decide) (by decide) (by decide) (by decide)) (hc _ (by decide) (by decide) (by decide) (by decide) (by decide) (by decide)) (hc _ (by decide) (by decide) (by decide) (by decide) (by decide) (by decide)) (hc _ (by decide) (by decide) (by decide) (by decide) (by decide) (by decide)) (hc _ (by decide) (by decide) (by decide) (by decide) (by decide) (by decide)), zr_Nc b (q _ (by decide)) (q _ (by decide)) (q _ (by decide)) (q _ (by decide)) (q _ (by decide)) (fun j _ => by rw [hc 9 (by decide) (by decide) (by decide) (by decide) (by decide) (by decide)]) (hc _ (by decide) (by decide) (by decide) (by decide) (by decide) (by decide)), zr_Tc c (h0 1 (Or.inl rfl)) (hc _ (by decide) (by decide) (by decide) (by decide) (by decide) (by decide)), zr_Sc d (q _ (by decide)) (hc _ (by decide) (by decide) (by decide) (by decide) (by decide) (by decide)) (hc _ (by decide) (by decide) (by decide) (by decide) (by decide) (by decide)) (hc _ (by decide) (by decide) (by decide) (by decide) (by decide) (by decide)), zr_Ic e (hc _ (by decide) (by decide) (by decide) (by decide) (by decide) (by decide)), f⟩
