/-! ===== PURE 1: small numbers, rows, an hour ===== -/
theorem zp_ck {α : Type} {n N : Nat} {k : Option α} (h : n < N) (hN : N < 2 ^ 31) : zs_ck (nI n) N k = k := by
  unfold zs_ck; rw [if_neg (nI_in h hN)]
theorem zp_ckl {α : Type} {i : Int32} {N : Nat} {k : Option α} (n : Nat) (hi : i = nI n) (h : n < N) (hN : N < 2 ^ 31) : zs_ck i N k = k := by rw [hi]; exact zp_ck h hN
theorem zp_nz {α : Type} {d : Int32} {k : Option α} (h : ¬ d = 0) : zs_nz d k = k := by unfold zs_nz; rw [if_neg h]
theorem zp_bl {α : Type} {b : Int32} {k : Option α} (h : b = 0 ∨ b = 1) : zs_bl b k = k := by unfold zs_bl; rw [if_pos h]
theorem zp_bd {α β : Type} {a : α} {k : α → Option β} : zs_bd (some a) k = k a := rfl
theorem zp_b2 {α α2 β : Type} {a : α} {b : α2} {k : α → α2 → Option β} : zs_b2 (some (a, b)) k = k a b := rfl
theorem zp_b3 {α α2 α3 β : Type} {a : α} {b : α2} {c : α3} {k : α → α2 → α3 → Option β} : zs_b3 (some (a, (b, c))) k = k a b c := rfl
theorem zp_b4 {α α2 α3 α4 β : Type} {a : α} {b : α2} {c : α3} {d : α4} {k : α → α2 → α3 → α4 → Option β} : zs_b4 (some (a, (b, (c, d)))) k = k a b c d := rfl
/-- a row laid anew -/
def zp_row (P : Ob) (c : Nat) (f : Nat → Int32) : Ob := fun c' => if c' = c then f else P c'
theorem zp_up (P : Ob) (c i : Nat) (v : Int32) : zs_up P c i v = zp_row P c (upd (P c) i v) := rfl
theorem zp_rs (P : Ob) (c : Nat) (f : Nat → Int32) : zp_row P c f c = f := by simp [zp_row]
theorem zp_rn (P : Ob) {c c' : Nat} (f : Nat → Int32) (h : c' ≠ c) : zp_row P c f c' = P c' := by simp [zp_row, h]
theorem zp_rr (P : Ob) (c : Nat) (f g : Nat → Int32) : zp_row (zp_row P c f) c g = zp_row P c g := by
  funext c'; by_cases h : c' = c <;> simp [zp_row, h]
theorem zp_ru (P : Ob) (c i : Nat) (f : Nat → Int32) (v : Int32) : zs_up (zp_row P c f) c i v = zp_row P c (upd f i v) := by
  rw [zp_up, zp_rr, zp_rs]
theorem zp_id (P : Ob) (c : Nat) : zp_row P c (P c) = P := by
  funext c'; by_cases h : c' = c <;> simp [zp_row, h]
theorem zp_us (f : Nat → Int32) (i : Nat) (v : Int32) : upd f i v i = v := by simp [upd]
theorem zp_un (f : Nat → Int32) {i j : Nat} (v : Int32) (h : j ≠ i) : upd f i v j = f j := by simp [upd, h]
theorem zp_ui (f : Nat → Int32) (i : Nat) : upd f i (f i) = f := by
  funext j; by_cases h : j = i <;> simp [upd, h]
theorem zp_uu (f : Nat → Int32) (i : Nat) (v w : Int32) : upd (upd f i v) i w = upd f i w := by
  funext j; by_cases h : j = i <;> simp [upd, h]
theorem zp_uc (f : Nat → Int32) {i j : Nat} (h : i ≠ j) (v w : Int32) : upd (upd f i v) j w = upd (upd f j w) i v := by
  funext k; by_cases h1 : k = j
  · subst h1; simp [upd, Ne.symm h]
  · simp [upd, h1]
/-- filled up to a place -/
def zp_fl (f g : Nat → Int32) (i : Nat) : Nat → Int32 := fun j => if j < i then f j else g j
theorem zp_fl0 (f g : Nat → Int32) : zp_fl f g 0 = g := by funext j; simp [zp_fl]
theorem zp_fls (f g : Nat → Int32) (i : Nat) : upd (zp_fl f g i) i (f i) = zp_fl f g (i + 1) := by
  funext j
  by_cases h : j = i
  · subst h; simp [upd, zp_fl]
  · have e : (j < i + 1) = (j < i) := by simp; omega
    simp [upd, zp_fl, h, e]
theorem zp_fli {f g : Nat → Int32} {i j : Nat} (h : j < i) : zp_fl f g i j = f j := by simp [zp_fl, h]
theorem zp_flo {f g : Nat → Int32} {i j : Nat} (h : i ≤ j) : zp_fl f g i j = g j := by simp [zp_fl]; omega
/-! the numbers that stand in the code -/
theorem zp_l (n : Nat) : (OfNat.ofNat n : Int32) = nI n := rfl
theorem zp_ix1 (w o : Nat) : (6 : Int32) * nI w + nI o = nI (6 * w + o) := by
  rw [show (6 : Int32) = nI 6 from rfl, pk_mul, nI_add]
theorem zp_ix2 (w o : Nat) : nI w * (6 : Int32) + nI o = nI (6 * w + o) := by
  rw [show (6 : Int32) = nI 6 from rfl, pk_mul, nI_add, Nat.mul_comm]
theorem zp_1 (n : Nat) : nI n + (1 : Int32) = nI (n + 1) := nI_1 n
theorem zp_le {a b : Nat} (ha : a < 2 ^ 31) (hb : b < 2 ^ 31) : (nI a ≤ nI b) = (a ≤ b) := propext (nI_leI ha hb)
theorem zp_lt {a b : Nat} (ha : a < 2 ^ 31) (hb : b < 2 ^ 31) : (nI a < nI b) = (a < b) := propext (nI_ltI ha hb)
theorem zp_eq {a b : Nat} (ha : a < 2 ^ 31) (hb : b < 2 ^ 31) : (nI a = nI b) = (a = b) := propext (nI_eq ha hb)
/-- one bit -/
def zp_bt (b : Int32) (k : Nat) : Int32 := (b >>> (nI k &&& 31)) &&& 1
theorem zp_b01 (x : Int32) : x &&& 1 = 0 ∨ x &&& 1 = 1 := by
  obtain ⟨j, hj, e⟩ := pk_andE x (m := 1) 1 (by decide)
  rcases (show j = 0 ∨ j = 1 by omega) with rfl | rfl
  · exact Or.inl e
  · exact Or.inr e
theorem zp_bt01 (b : Int32) (k : Nat) : zp_bt b k = 0 ∨ zp_bt b k = 1 := zp_b01 _
theorem zp_b0 {x : Int32} (h : ¬ x &&& 1 = 1) : x &&& 1 = 0 := (zp_b01 x).resolve_right h
/-! ===== an hour ===== -/
/-- what a wall gives -/
def zh_g (sh : Int32) (rt wm : Nat → Int32) (w : Nat) : Int32 := if zp_bt sh w = 1 then 0 else wm w * rt w / 10
/-- what becomes of it, wall by wall: the rows, and what is left -/
def zh_in (sh mi : Int32) (ps : Nat → Int32) (g : Int32) (w : Nat) : Nat → (Nat → Int32) × Int32 → (Nat → Int32) × Int32
  | 0, q => q
  | o + 1, q =>
    if zp_bt mi o = 1 then (upd (zh_in sh mi ps g w o q).1 w ((zh_in sh mi ps g w o q).1 w + g * ps (6 * w + o) / 10), (zh_in sh mi ps g w o q).2 - g * ps (6 * w + o) / 10)
    else if zp_bt sh o = 0 then (upd (zh_in sh mi ps g w o q).1 o ((zh_in sh mi ps g w o q).1 o + g * ps (6 * w + o) / 10), (zh_in sh mi ps g w o q).2 - g * ps (6 * w + o) / 10)
    else zh_in sh mi ps g w o q
def zh_out (sh mi : Int32) (rt ps wm : Nat → Int32) (n : Nat) : Nat → (Nat → Int32) × Int32 → (Nat → Int32) × Int32
  | 0, q => q
  | w + 1, q =>
    let r := zh_out sh mi rt ps wm n w q
    let g := zh_g sh rt wm w
    ((zh_in sh mi ps g w n (upd r.1 w (r.1 w - g), g)).1, r.2 + (zh_in sh mi ps g w n (upd r.1 w (r.1 w - g), g)).2)
/-- shares of nothing -/
theorem zh_0 (x : Int32) : (0 : Int32) * x / 10 = 0 := by
  have h : (0 : Int32) * x = 0 := by simp
  rw [h]; rfl
theorem zh_in0 (sh mi : Int32) (ps : Nat → Int32) (w : Nat) : ∀ (i : Nat) (T : Nat → Int32) (l : Int32), zh_in sh mi ps 0 w i (T, l) = (T, l) := by
  intro i
  induction i with
  | zero => intro T l; rfl
  | succ i ih =>
    intro T l
    rw [zh_in, ih, zh_0]
    have e1 : upd T w (T w + 0) = T := by rw [show T w + 0 = T w by simp]; exact zp_ui T w
    have e2 : upd T i (T i + 0) = T := by rw [show T i + 0 = T i by simp]; exact zp_ui T i
    have e3 : l - 0 = l := by simp
    simp only [e1, e2, e3]
    split <;> (try split) <;> rfl
/-- what is taken from the giver can be taken behind all -/
theorem zh_inC (sh mi : Int32) (ps : Nat → Int32) (g : Int32) (w : Nat) : ∀ (i : Nat) (T : Nat → Int32) (l : Int32), zh_in sh mi ps g w i (upd T w (T w - g), l) = (upd (zh_in sh mi ps g w i (T, l)).1 w ((zh_in sh mi ps g w i (T, l)).1 w - g), (zh_in sh mi ps g w i (T, l)).2) := by
  intro i
  induction i with
  | zero => intro T l; rfl
  | succ i ih =>
    intro T l
    rw [zh_in, ih, zh_in]
    generalize (zh_in sh mi ps g w i (T, l)) = r
    obtain ⟨R, k⟩ := r
    generalize g * ps (6 * w + i) / 10 = x
    dsimp only
    by_cases h1 : zp_bt mi i = 1
    · rw [if_pos h1, if_pos h1]
      dsimp only
      rw [zp_us, zp_uu, zp_us, zp_uu]
      congr 2
      grind
    · rw [if_neg h1, if_neg h1]
      by_cases h2 : zp_bt sh i = 0
      · rw [if_pos h2, if_pos h2]
        dsimp only
        by_cases h3 : i = w
        · subst h3
          rw [zp_us, zp_uu, zp_us, zp_uu]
          congr 2
          grind
        · rw [zp_un _ _ h3, zp_un _ _ (Ne.symm h3), zp_uc _ (Ne.symm h3)]
      · rw [if_neg h2, if_neg h2]
/-- only the first n places count -/
def zp_ag (n : Nat) (f g : Nat → Int32) : Prop := ∀ j, j < n → f j = g j
theorem zp_agu {n : Nat} {f g : Nat → Int32} (h : zp_ag n f g) (i : Nat) (v : Int32) : zp_ag n (upd f i v) (upd g i v) := by
  intro j hj; by_cases e : j = i <;> simp [upd, e, h j hj]
theorem zh_inA (sh mi : Int32) (ps : Nat → Int32) (g : Int32) (w n : Nat) (hw : w < n) (T1 T2 : Nat → Int32) (l : Int32) (h : zp_ag n T1 T2) : ∀ i, i ≤ n → zp_ag n (zh_in sh mi ps g w i (T1, l)).1 (zh_in sh mi ps g w i (T2, l)).1 ∧ (zh_in sh mi ps g w i (T1, l)).2 = (zh_in sh mi ps g w i (T2, l)).2 := by
  intro i
  induction i with
  | zero => intro _; exact ⟨h, rfl⟩
  | succ i ih =>
    intro hi
    obtain ⟨a, b⟩ := ih (by omega)
    rw [zh_in, zh_in]
    by_cases h1 : zp_bt mi i = 1
    · rw [if_pos h1, if_pos h1]
      dsimp only
      rw [a w hw, b]
      exact ⟨zp_agu a _ _, rfl⟩
    · rw [if_neg h1, if_neg h1]
      by_cases h2 : zp_bt sh i = 0
      · rw [if_pos h2, if_pos h2]
        dsimp only
        rw [a i (by omega), b]
        exact ⟨zp_agu a _ _, rfl⟩
      · rw [if_neg h2, if_neg h2]
        exact ⟨a, b⟩
theorem zh_outA (sh mi : Int32) (rt1 rt2 ps1 ps2 wm1 wm2 : Nat → Int32) (n : Nat) (hr : zp_ag n rt1 rt2) (hp : ∀ w o, w < n → o < n → ps1 (6 * w + o) = ps2 (6 * w + o)) (hm : zp_ag n wm1 wm2) (T1 T2 : Nat → Int32) (d : Int32) (h : zp_ag n T1 T2) : ∀ i, i ≤ n → zp_ag n (zh_out sh mi rt1 ps1 wm1 n i (T1, d)).1 (zh_out sh mi rt2 ps2 wm2 n i (T2, d)).1 ∧ (zh_out sh mi rt1 ps1 wm1 n i (T1, d)).2 = (zh_out sh mi rt2 ps2 wm2 n i (T2, d)).2 := by
  have hin : ∀ (g : Int32) (w : Nat), w < n → ∀ (q : (Nat → Int32) × Int32) (i : Nat), i ≤ n → zh_in sh mi ps1 g w i q = zh_in sh mi ps2 g w i q := by
    intro g w hw q i
    induction i with
    | zero => intro _; rfl
    | succ i ih => intro hi; rw [zh_in, zh_in, ih (by omega), hp w i hw (by omega)]
  intro i
  induction i with
  | zero => intro _; exact ⟨h, rfl⟩
  | succ i ih =>
    intro hi
    obtain ⟨a, b⟩ := ih (by omega)
    rw [zh_out, zh_out]
    dsimp only
    have eg : zh_g sh rt1 wm1 i = zh_g sh rt2 wm2 i := by unfold zh_g; rw [hm i (by omega), hr i (by omega)]
    rw [eg, hin _ i (by omega) _ n (Nat.le_refl n), a i (by omega)]
    obtain ⟨c, e⟩ := zh_inA sh mi ps2 (zh_g sh rt2 wm2 i) i n (by omega) _ _ (zh_g sh rt2 wm2 i) (zp_agu a i ((zh_out sh mi rt2 ps2 wm2 n i (T2, d)).1 i - zh_g sh rt2 wm2 i)) n (Nat.le_refl n)
    exact ⟨c, by rw [b, e]⟩
/-- works of the hour come; f more of each -/
def zh_b (hr : Int32) (wk hs fu wm : Nat → Int32) (w : Nat) : Int32 := wm w + ((hs w >>> (hr &&& 31)) &&& 1) * wk w + fu w
/-- the warmths behind an hour, and what the dark has of it -/
def zh_T (n : Nat) (rt wk hs ps fu : Nat → Int32) (sh mi hr : Int32) (wm : Nat → Int32) : Nat → Int32 := (zh_out sh mi rt ps wm n n (zh_b hr wk hs fu wm, 0)).1
def zh_d (n : Nat) (rt wk hs ps fu : Nat → Int32) (sh mi hr : Int32) (wm : Nat → Int32) : Int32 := (zh_out sh mi rt ps wm n n (zh_b hr wk hs fu wm, 0)).2
/-- the hour of eight -/
def zh_r (h : Int32) : Int32 := h - h / 8 * 8
